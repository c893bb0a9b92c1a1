section SY14
variable {ra : ae_R} {d : Nat} {σ : ae_S}
theorem Rbg.so {F : Nat → Nat → Int32} {k : Nat} {nu : Int32} {y : AF} (h : Rbg F k (some (nu, y))) : F 206 k = nu ∧ rg nu 65536 ∧ F 207 k = nI y.1 ∧ y.1 ≤ 1000 ∧ (∀ j, j < y.1 → F 208 (1000 * k + j) = y.2 j) ∧ ∀ j, j < y.1 → rg (y.2 j) 256 := by
  rcases h with ⟨h1, -⟩ | ⟨nu', y', h1, h2⟩
  · cases h1
  · cases h1
    exact h2
theorem pa_rg {g : Nat → Int32} {k : Nat} (h1 : rg (g k) 256) (h2 : rg (g (k + 1)) 256) : rg (pa g k) 65536 := by
  obtain ⟨a, ha, ea⟩ := h1
  obtain ⟨b, hb, eb⟩ := h2
  exact ⟨256 * a + b, by omega, (pa_nI ea eb ha hb).1⟩
theorem app_v {y : AF} {g : Nat → Int32} {n j : Nat} : (app y g n).2 j = if j < y.1 then y.2 j else g (34 + (j - y.1)) := rfl
theorem r_123ew {b : Bool} {σ0 : ae_S} {F0 F Fz : Nat → Nat → Int32} {c u g : Int32} {P : AP} {f k l e n pl : Nat} (h : RS b σ0 F0 σ c u g F) (ek : 8 * e + l = k) (hl : l < 8) (he : e < 4) (hR : Rpt F l e P) (hO : PO Fz F k) {x : AF} (hf : f < 400) (hg : ∀ j, j < x.1 → F 194 (200 * f + j) = x.2 j) (hbx : ∀ j, j < x.1 → rg (x.2 j) 256) (hx1 : 64 ≤ x.1 ∧ x.1 ≤ 200) (hn : n + 39 ≤ x.1) {x5 x6 x7 x8 : Option Value} {nu : Int32} {y : AF} (hpb : pbg P = some (nu, y)) (hnu : nu = pa x.2 18) (hpn : y.1 + n ≤ 1000) (hex : ∀ j, j < n → F 208 (1000 * k + (y.1 + j)) = x.2 (34 + j)) : hG ra (d + 2) 123 σ [some (.ref 176), some (.int (nI f)), some (.int (nI k)), some (.int (nI n)), some (.int (nI pl)), x5, x6, x7, x8] [] 148 (pI (fun σ' _ => ∃ F', RS b σ0 F0 σ' c u g F' ∧ Rpt F' l e (jn1 P x.2 n u y) ∧ PO Fz F' k)) := by
  subst ek
  have hk : 8 * e + l < 32 := by omega
  have hB := hR.2.2.2.1
  rw [hpb] at hB
  obtain ⟨b1, b2, b3, b4, b5, b6⟩ := hB.so
  have e1 : (1000 : Int32) * nI (8 * e + l) + 4 = nI (1000 * (8 * e + l) + 4) := by rw [show (1000 : Int32) = nI 1000 from rfl, pk_mul, show (4 : Int32) = nI 4 from rfl, nI_add]
  have e2 : (1000 : Int32) * nI (8 * e + l) + 5 = nI (1000 * (8 * e + l) + 5) := by rw [show (1000 : Int32) = nI 1000 from rfl, pk_mul, show (5 : Int32) = nI 5 from rfl, nI_add]
  have hv : ∀ j, j < y.1 + n → F 208 (1000 * (8 * e + l) + j) = (app y x.2 n).2 j := fun j hj => by
    rw [app_v]
    by_cases c : j < y.1
    · rw [if_pos c]
      exact b5 j c
    · rw [if_neg c]
      have h9 := hex (j - y.1) (by omega)
      rw [show y.1 + (j - y.1) = j by omega] at h9
      exact h9
  have hvr : ∀ j, j < y.1 + n → rg ((app y x.2 n).2 j) 256 := fun j hj => by
    rw [app_v]
    by_cases c : j < y.1
    · rw [if_pos c]
      exact b6 j c
    · rw [if_neg c]
      exact hbx _ (by omega)
  have hmo : (x.2 20 / 32 - x.2 20 / 32 / 2 * 2 = 1 ↔ mof x.2) := by
    obtain ⟨b, hb, eb⟩ := hbx 20 (by omega)
    unfold mof
    rw [eb]
    exact mo_b b hb
  have hR1 : Rpt (fu F 207 (upd (F 207) (8 * e + l) (nI (y.1 + n)))) l e (wbg P (some (nu, app y x.2 n))) := hR.bg (fun q z1 z2 z3 => fu_n z2) (Or.inr ⟨nu, app y x.2 n, rfl, b1, b2, pk_us, hpn, hv, hvr⟩)
  have hR2 : Rpt (fu (fu F 207 (upd (F 207) (8 * e + l) (nI (y.1 + n)))) 206 (upd (F 206) (8 * e + l) (-1))) l e (wbg P none) := hR.bg (fun q z1 z2 z3 => (fu_n z1).trans (fu_n z2)) (Or.inl ⟨rfl, pk_us⟩)
  have hO1 := hO.u (p := 207) (i := 8 * e + l) (z := nI (y.1 + n)) (by decide) (own_k (by decide))
  have hO2 := hO1.u (p := 206) (i := 8 * e + l) (z := -1) (by decide) (own_k (by decide))
  have j1 : mof x.2 → jn1 P x.2 n u y = wbg P (some (nu, app y x.2 n)) := fun z => by
    unfold jn1
    rw [if_pos z, hnu]
  have j2 : ¬ mof x.2 → ¬ whl (app y x.2 n) → jn1 P x.2 n u y = wbg P none := fun z z2 => by
    unfold jn1
    rw [if_neg z, if_neg (fun z => z2 z.1)]
  have j3 : ¬ mof x.2 → whl (app y x.2 n) → jn1 P x.2 n u y = (if pqu (wbg P none) = 0 ∨ (pks (wbg P none)).length < 4 then kp (wbg P none) (y.1 + n) u else wbg P none) := fun z z2 => by
    unfold jn1
    rw [if_neg z]
    by_cases c : pqu P = 0 ∨ (pks P).length < 4
    · rw [if_pos ⟨z2, c⟩, if_pos (show pqu (wbg P none) = 0 ∨ (pks (wbg P none)).length < 4 from c)]
    · rw [if_neg (fun z => c z.2), if_neg (show ¬ (pqu (wbg P none) = 0 ∨ (pks (wbg P none)).length < 4) from c)]
  refine h_st rfl rfl ?_
  refine h_st rfl (e_get h.2.1 rfl) ?_
  refine h_st rfl rfl ?_
  refine h_st rfl rfl ?_
  refine h_st rfl (q_iaE h.a207 (rfl) (hk) (by decide) (b3)) ?_
  refine h_st rfl rfl ?_
  refine h_st rfl rfl ?_
  refine r_ias rfl h m207 (fun _ => by decide) (by decide) (rfl) (hk) (nI_add y.1 n) (fun σ2 h2 => ?_)
  replace h := h2
  clear h2
  refine h_st rfl rfl ?_
  refine h_st rfl rfl ?_
  refine h_st rfl rfl ?_
  refine h_ci3 rfl (Nat.le_of_ble_eq_true rfl) (e_rcv h.2.1) rfl (r_108v h rfl hf (rfl : (20 : Int32) = nI 20) (by decide) (hg (20) (by omega))) (fun σ' y hq => ?_)
  obtain ⟨hss, rfl⟩ := hq
  replace hss := hss.symm
  subst hss
  refine h_st rfl rfl ?_
  refine h_st rfl (e_dv (by decide)) ?_
  refine h_st rfl rfl ?_
  refine h_st rfl (e_dv (by decide)) ?_
  refine h_st rfl rfl ?_
  refine h_st rfl rfl ?_
  refine h_br (fun q1 => ?_) (fun q1 => ?_)
  · refine h_st rfl rfl ?_
    refine h_st rfl (e_get h.2.1 rfl) ?_
    refine h_st rfl rfl ?_
    refine h_st rfl rfl ?_
    refine r_ias rfl h m206 (fun _ => by decide) (by decide) (rfl) (hk) (rfl) (fun σ2 h2 => ?_)
    replace h := h2
    clear h2
    refine h_st rfl rfl ?_
    refine h_st rfl (e_get h.2.1 rfl) ?_
    refine h_st rfl rfl ?_
    refine h_st rfl (q_iaE h.a207 (rfl) (hk) (by decide) (pk_us)) ?_
    refine h_st rfl rfl ?_
    refine h_st rfl rfl ?_
    refine h_st rfl rfl ?_
    refine h_st rfl rfl ?_
    refine h_br (fun q2 => ?_) (fun q2 => ?_)
    · refine h_st rfl rfl ?_
      exact h_rt rfl rfl (⟨_, _, rfl, _, h, by rw [j2 (fun z => q1 (hmo.mpr z)) (fun z => absurd ((nI_ltI (by omega) (by decide)).mp q2) (Nat.not_lt.mpr z.1))]; exact hR2, hO2⟩)
    · have hs8 : 8 ≤ y.1 + n := Nat.le_of_not_lt (fun z => q2 ((nI_ltI (by omega) (by decide)).mpr z))
      refine h_st rfl rfl ?_
      refine h_st rfl rfl ?_
      refine h_st rfl (e_get h.2.1 rfl) ?_
      refine h_st rfl rfl ?_
      refine h_st rfl rfl ?_
      refine h_st rfl rfl ?_
      refine h_st rfl rfl ?_
      refine h_st rfl rfl ?_
      refine h_st rfl (q_iaE h.a208 (e1) (by omega) (by decide) (hv 4 (by omega))) ?_
      refine h_st rfl rfl ?_
      refine h_st rfl rfl ?_
      refine h_st rfl (e_get h.2.1 rfl) ?_
      refine h_st rfl rfl ?_
      refine h_st rfl rfl ?_
      refine h_st rfl rfl ?_
      refine h_st rfl rfl ?_
      refine h_st rfl rfl ?_
      refine h_st rfl (q_iaE h.a208 (e2) (by omega) (by decide) (hv 5 (by omega))) ?_
      refine h_st rfl rfl ?_
      refine h_st rfl rfl ?_
      refine h_st rfl rfl ?_
      refine h_br (fun q3 => ?_) (fun q3 => ?_)
      · rw [j3 (fun z => q1 (hmo.mpr z)) ⟨hs8, (two_sh (hvr 4 (by omega)) (hvr 5 (by omega))).symm.trans q3⟩]
        exact r_123hw h rfl hl he hR2 hO2 ⟨hs8, hpn⟩
      · refine h_st rfl rfl ?_
        exact h_rt rfl rfl (⟨_, _, rfl, _, h, by rw [j2 (fun z => q1 (hmo.mpr z)) (fun z => q3 ((two_sh (hvr 4 (by omega)) (hvr 5 (by omega))).trans z.2))]; exact hR2, hO2⟩)
  · refine h_st rfl rfl ?_
    exact h_rt rfl rfl (⟨_, _, rfl, _, h, by rw [j1 (hmo.mp (Decidable.of_not_not q1))]; exact hR1, hO1⟩)
theorem r_123dw {b : Bool} {σ0 : ae_S} {F0 Fz : Nat → Nat → Int32} {c u g : Int32} {P : AP} {f k l e n pl : Nat} (ek : 8 * e + l = k) (hl : l < 8) (he : e < 4) {x : AF} (hf : f < 400) (hbx : ∀ j, j < x.1 → rg (x.2 j) 256) (hx1 : 64 ≤ x.1 ∧ x.1 ≤ 200) (hn : n + 39 ≤ x.1) {x5 x7 x8 : Option Value} {nu : Int32} {y : AF} (hpb : pbg P = some (nu, y)) (hnu : nu = pa x.2 18) (hpn : y.1 + n ≤ 1000) (hpl : pl = y.1) : ∀ (m i : Nat) (σ : ae_S) (F : Nat → Nat → Int32), i + m = n → RS b σ0 F0 σ c u g F → Rpt F l e P → PO Fz F k → (∀ j, j < x.1 → F 194 (200 * f + j) = x.2 j) → (∀ j, j < i → F 208 (1000 * k + (y.1 + j)) = x.2 (34 + j)) → hG ra (d + 2) 123 σ [some (.ref 176), some (.int (nI f)), some (.int (nI k)), some (.int (nI n)), some (.int (nI pl)), x5, some (.int (nI i)), x7, x8] [] 110 (pI (fun σ' _ => ∃ F', RS b σ0 F0 σ' c u g F' ∧ Rpt F' l e (jn1 P x.2 n u y) ∧ PO Fz F' k)) := by
  have hk : k < 32 := by omega
  intro m
  induction m with
  | zero =>
    intro i σ F hi h hR hO hg hex
    have hi : i = n := by omega
    subst hi
    refine h_st rfl rfl ?_
    refine h_st rfl rfl ?_
    refine h_st rfl rfl ?_
    refine h_pc (if_pos (decide_eq_true (nI_le (Nat.le_refl _) (by omega)))) ?_
    exact r_123ew h ek hl he hR hO hf hg hbx hx1 hn hpb hnu hpn hex
  | succ m ih =>
    intro i σ F hi h hR hO hg hex
    have ih1 := fun σ F => ih (i + 1) σ F (by omega)
    simp only [← nI_1] at ih1
    have hB := hR.2.2.2.1
    rw [hpb, ek] at hB
    obtain ⟨b1, b2, b3, b4, b5, b6⟩ := hB.so
    have e1 : (1000 : Int32) * nI k + nI pl + nI i = nI (1000 * k + (y.1 + i)) := by rw [show (1000 : Int32) = nI 1000 from rfl, pk_mul, nI_add, nI_add, hpl, Nat.add_assoc]
    have e2 : (34 : Int32) + nI i = nI (34 + i) := by rw [show (34 : Int32) = nI 34 from rfl, nI_add]
    refine h_st rfl rfl ?_
    refine h_st rfl rfl ?_
    refine h_st rfl rfl ?_
    refine h_pc (if_neg (fun z9 => (nI_ge (show i < n by omega) (by omega)) (of_decide_eq_true z9))) ?_
    refine h_st rfl rfl ?_
    refine h_st rfl (e_get h.2.1 rfl) ?_
    refine h_st rfl rfl ?_
    refine h_st rfl rfl ?_
    refine h_st rfl rfl ?_
    refine h_st rfl rfl ?_
    refine h_st rfl rfl ?_
    refine h_st rfl rfl ?_
    refine h_st rfl rfl ?_
    refine h_st rfl rfl ?_
    refine h_st rfl rfl ?_
    refine h_st rfl rfl ?_
    refine h_st rfl rfl ?_
    refine h_st rfl rfl ?_
    refine h_ci3 rfl (Nat.le_of_ble_eq_true rfl) (e_rcv h.2.1) rfl (r_108v h rfl hf (e2) (by omega) (hg (34 + i) (by omega))) (fun σ' y hq => ?_)
    obtain ⟨hss, rfl⟩ := hq
    replace hss := hss.symm
    subst hss
    refine r_ias rfl h m208 (fun _ => by decide) (by decide) (e1) (by omega) (rfl) (fun σ2 h2 => ?_)
    replace h := h2
    clear h2
    refine h_st rfl rfl ?_
    refine h_st rfl rfl ?_
    refine ih1 _ _ h ?_ (hO.u (p := 208) (by decide) (by unfold own; omega)) hg (fun j hj => ?_)
    · have eP : P = wbg P (some (nu, y)) := by rw [← hpb]; rfl
      rw [eP]
      refine hR.bg (fun q z1 z2 z3 => fu_n z3) (Or.inr ⟨nu, y, rfl, by rw [ek]; exact b1, b2, by rw [ek]; exact b3, b4, fun j hj => ?_, b6⟩)
      rw [ek, fu_s, pk_un (by omega)]
      exact b5 j hj
    · rw [fu_s]
      by_cases c : j = i
      · subst c
        exact pk_us
      · rw [pk_un (by omega)]
        exact hex j (by omega)
theorem r_123cw {b : Bool} {σ0 : ae_S} {F0 F Fz : Nat → Nat → Int32} {c u g : Int32} {P : AP} {f k l e n pl : Nat} (h : RS b σ0 F0 σ c u g F) (ek : 8 * e + l = k) (hl : l < 8) (he : e < 4) (hR : Rpt F l e P) (hO : PO Fz F k) {x : AF} (hf : f < 400) (hg : ∀ j, j < x.1 → F 194 (200 * f + j) = x.2 j) (hbx : ∀ j, j < x.1 → rg (x.2 j) 256) (hx1 : 64 ≤ x.1 ∧ x.1 ≤ 200) (hn : n + 39 ≤ x.1) {x5 x6 x7 x8 : Option Value} (e21 : x.2 21 * 8 = nI pl) (hpl2 : pl ≤ 2040) : hG ra (d + 2) 123 σ [some (.ref 176), some (.int (nI f)), some (.int (nI k)), some (.int (nI n)), some (.int (nI pl)), x5, x6, x7, x8] [] 48 (pI (fun σ' _ => ∃ F', RS b σ0 F0 σ' c u g F' ∧ Rpt F' l e (jn2 P x.2 n u) ∧ PO Fz F' k)) := by
  have hk : k < 32 := by omega
  have hB := hR.2.2.2.1
  rw [ek] at hB
  obtain ⟨m18, hm18, e18⟩ := pa_rg (hbx 18 (by omega)) (hbx (18 + 1) (by omega))
  have hR2 : Rpt (fu F 206 (upd (F 206) k (-1))) l e (wbg P none) := hR.bg (fun q z1 z2 z3 => fu_n z1) (Or.inl ⟨rfl, by rw [ek]; exact pk_us⟩)
  have hO2 := hO.u (p := 206) (i := k) (z := -1) (by decide) (own_k (by decide))
  cases hpb : pbg P with
  | none =>
    have ej : jn2 P x.2 n u = wbg P none := by unfold jn2; rw [hpb]
    rw [ej]
    rw [hpb] at hB
    have b1 : F 206 k = -1 := hB.elim (fun z => z.2) (fun ⟨_, _, z, _⟩ => (by cases z))
    refine h_st rfl rfl ?_
    refine h_st rfl (e_get h.2.1 rfl) ?_
    refine h_st rfl rfl ?_
    refine h_st rfl (q_iaE h.a206 (rfl) (hk) (by decide) (b1)) ?_
    refine h_st rfl rfl ?_
    refine h_st rfl rfl ?_
    refine h_st rfl rfl ?_
    refine h_ci3 rfl (Nat.le_of_ble_eq_true rfl) (e_rcv h.2.1) rfl (r_107v (q := x.2) h rfl hf (rfl : (18 : Int32) = nI 18) (by decide) (hg 18 (by omega)) (hg (18 + 1) (by omega)) (hbx 18 (by omega)) (hbx (18 + 1) (by omega))) (fun σ' y hq => ?_)
    obtain ⟨hss, rfl⟩ := hq
    replace hss := hss.symm
    subst hss
    refine h_st rfl rfl ?_
    refine h_pc (if_pos (decide_eq_true (show ¬ (-1 : Int32) = pa x.2 18 from fun z => nI_nm1 (by omega) (e18.symm.trans z.symm)))) ?_
    refine h_st rfl rfl ?_
    refine h_st rfl rfl ?_
    refine h_st rfl rfl ?_
    refine h_st rfl rfl ?_
    refine h_pc (if_neg (by decide)) ?_
    refine h_st rfl rfl ?_
    refine h_st rfl (e_get h.2.1 rfl) ?_
    refine h_st rfl rfl ?_
    refine h_st rfl rfl ?_
    refine r_ias rfl h m206 (fun _ => by decide) (by decide) (rfl) (hk) (rfl) (fun σ2 h2 => ?_)
    replace h := h2
    clear h2
    refine h_st rfl rfl ?_
    exact h_rt rfl rfl (⟨_, _, rfl, _, h, hR2, hO2⟩)
  | some o =>
    obtain ⟨nu, y⟩ := o
    rw [hpb] at hB
    obtain ⟨b1, b2, b3, b4, b5, b6⟩ := hB.so
    have ej : jn2 P x.2 n u = (if (pa x.2 18 = nu ∧ x.2 21 * 8 = nI y.1) ∧ y.1 + n ≤ 1000 then jn1 P x.2 n u y else wbg P none) := by unfold jn2; rw [hpb]
    have hb0 : ¬ ((pa x.2 18 = nu ∧ x.2 21 * 8 = nI y.1) ∧ y.1 + n ≤ 1000) → Rpt (fu F 206 (upd (F 206) k (-1))) l e (jn2 P x.2 n u) := fun z => by rw [ej, if_neg z]; exact hR2
    refine h_st rfl rfl ?_
    refine h_st rfl (e_get h.2.1 rfl) ?_
    refine h_st rfl rfl ?_
    refine h_st rfl (q_iaE h.a206 (rfl) (hk) (by decide) (b1)) ?_
    refine h_st rfl rfl ?_
    refine h_st rfl rfl ?_
    refine h_st rfl rfl ?_
    refine h_ci3 rfl (Nat.le_of_ble_eq_true rfl) (e_rcv h.2.1) rfl (r_107v (q := x.2) h rfl hf (rfl : (18 : Int32) = nI 18) (by decide) (hg 18 (by omega)) (hg (18 + 1) (by omega)) (hbx 18 (by omega)) (hbx (18 + 1) (by omega))) (fun σ' y hq => ?_)
    obtain ⟨hss, rfl⟩ := hq
    replace hss := hss.symm
    subst hss
    refine h_st rfl rfl ?_
    refine h_br (fun q1 => ?_) (fun q1 => ?_)
    · refine h_st rfl rfl ?_
      refine h_st rfl rfl ?_
      refine h_st rfl rfl ?_
      refine h_st rfl rfl ?_
      refine h_pc (if_neg (by decide)) ?_
      refine h_st rfl rfl ?_
      refine h_st rfl (e_get h.2.1 rfl) ?_
      refine h_st rfl rfl ?_
      refine h_st rfl rfl ?_
      refine r_ias rfl h m206 (fun _ => by decide) (by decide) (rfl) (hk) (rfl) (fun σ2 h2 => ?_)
      replace h := h2
      clear h2
      refine h_st rfl rfl ?_
      exact h_rt rfl rfl (⟨_, _, rfl, _, h, hb0 (fun z => q1 z.1.1.symm), hO2⟩)
    · refine h_st rfl rfl ?_
      refine h_st rfl (e_get h.2.1 rfl) ?_
      refine h_st rfl rfl ?_
      refine h_st rfl (q_iaE h.a207 (rfl) (hk) (by decide) (b3)) ?_
      refine h_st rfl rfl ?_
      refine h_st rfl rfl ?_
      refine h_br (fun q2 => ?_) (fun q2 => ?_)
      · refine h_st rfl rfl ?_
        refine h_st rfl rfl ?_
        refine h_st rfl rfl ?_
        refine h_st rfl rfl ?_
        refine h_pc (if_neg (by decide)) ?_
        refine h_st rfl rfl ?_
        refine h_st rfl (e_get h.2.1 rfl) ?_
        refine h_st rfl rfl ?_
        refine h_st rfl rfl ?_
        refine r_ias rfl h m206 (fun _ => by decide) (by decide) (rfl) (hk) (rfl) (fun σ2 h2 => ?_)
        replace h := h2
        clear h2
        refine h_st rfl rfl ?_
        exact h_rt rfl rfl (⟨_, _, rfl, _, h, hb0 (fun z => q2 (z.1.2.symm.trans e21)), hO2⟩)
      · refine h_st rfl rfl ?_
        refine h_st rfl rfl ?_
        refine h_st rfl rfl ?_
        refine h_st rfl rfl ?_
        refine h_st rfl rfl ?_
        refine h_br (fun q3 => ?_) (fun q3 => ?_)
        · refine h_st rfl rfl ?_
          refine h_st rfl rfl ?_
          refine h_st rfl rfl ?_
          refine h_st rfl rfl ?_
          refine h_pc (if_neg (by decide)) ?_
          refine h_st rfl rfl ?_
          refine h_st rfl (e_get h.2.1 rfl) ?_
          refine h_st rfl rfl ?_
          refine h_st rfl rfl ?_
          refine r_ias rfl h m206 (fun _ => by decide) (by decide) (rfl) (hk) (rfl) (fun σ2 h2 => ?_)
          replace h := h2
          clear h2
          refine h_st rfl rfl ?_
          exact h_rt rfl rfl (⟨_, _, rfl, _, h, hb0 (fun z => Int32.not_lt.mpr (show nI pl + nI n ≤ 1000 from by rw [← e21, z.1.2, nI_add]; exact nI_le z.2 (by decide)) q3), hO2⟩)
        · refine h_st rfl rfl ?_
          refine h_st rfl rfl ?_
          refine h_st rfl rfl ?_
          refine h_st rfl rfl ?_
          refine h_st rfl rfl ?_
          refine h_pc (if_pos (by decide)) ?_
          have epl : pl = y.1 := nI_inj (by omega) (by omega) (Decidable.of_not_not q2).symm
          have hpn : y.1 + n ≤ 1000 := (nI_leI (by omega) (by decide)).mp (show nI (y.1 + n) ≤ nI 1000 from by rw [← epl, ← nI_add]; exact Int32.not_lt.mp q3)
          rw [ej, if_pos ⟨⟨(Decidable.of_not_not q1).symm, by rw [e21, epl]⟩, hpn⟩]
          refine h_st rfl rfl ?_
          refine h_st rfl rfl ?_
          exact r_123dw ek hl he hf hbx hx1 hn hpb (Decidable.of_not_not q1) hpn epl n 0 _ F (Nat.zero_add _) h hR hO hg (fun j hj => absurd hj (Nat.not_lt_zero j))
theorem r_123w {b : Bool} {σ0 : ae_S} {F0 F Fz : Nat → Nat → Int32} {c u g : Int32} {P : AP} {f k l e n : Nat} (h : RS b σ0 F0 σ c u g F) (ek : 8 * e + l = k) (hl : l < 8) (he : e < 4) (hR : Rpt F l e P) (hO : PO Fz F k) {x : AF} (hf : f < 400) (hg : ∀ j, j < x.1 → F 194 (200 * f + j) = x.2 j) (hbx : ∀ j, j < x.1 → rg (x.2 j) 256) (hx1 : 64 ≤ x.1 ∧ x.1 ≤ 200) (hn : n + 39 ≤ x.1) (e16 : pa x.2 16 - 20 = nI n) {x1 x2 : Int32} (ef : x1 = nI f) (ekk : x2 = nI k) : hE ra (d + 3) 123 [.ref 176, .int x1, .int x2] σ (pI (fun σ' _ => ∃ F', RS b σ0 F0 σ' c u g F' ∧ Rpt F' l e (jn P x.2 n u) ∧ PO Fz F' k)) := by
  subst ef
  subst ekk
  have hk : k < 32 := by omega
  obtain ⟨c21, hc21, ec21⟩ := hbx 21 (by omega)
  have e4 : (8 : Int32) * x.2 21 = nI (8 * c21) := by rw [ec21, show (8 : Int32) = nI 8 from rfl, pk_mul]
  have e21 : x.2 21 * 8 = nI (8 * c21) := by rw [Int32.mul_comm]; exact e4
  have r18 := pa_rg (hbx 18 (by omega)) (hbx (18 + 1) (by omega))
  refine h_in rfl rfl (Nat.le_of_ble_eq_true rfl) ?_
  refine h_st rfl rfl ?_
  refine h_st rfl rfl ?_
  refine h_st rfl rfl ?_
  refine h_ci3 rfl (Nat.le_of_ble_eq_true rfl) (e_rcv h.2.1) rfl (r_107v (q := x.2) h rfl hf (rfl : (16 : Int32) = nI 16) (by decide) (hg 16 (by omega)) (hg (16 + 1) (by omega)) (hbx 16 (by omega)) (hbx (16 + 1) (by omega))) (fun σ' y hq => ?_)
  obtain ⟨hss, rfl⟩ := hq
  replace hss := hss.symm
  subst hss
  refine h_st rfl rfl ?_
  refine h_st rfl rfl ?_
  refine h_st rfl rfl ?_
  refine h_st rfl rfl ?_
  refine h_st rfl rfl ?_
  refine h_st rfl rfl ?_
  refine h_st rfl rfl ?_
  refine h_ci3 rfl (Nat.le_of_ble_eq_true rfl) (e_rcv h.2.1) rfl (r_108v h rfl hf (rfl : (21 : Int32) = nI 21) (by decide) (hg (21) (by omega))) (fun σ' y hq => ?_)
  obtain ⟨hss, rfl⟩ := hq
  replace hss := hss.symm
  subst hss
  refine h_st rfl rfl ?_
  refine h_st rfl rfl ?_
  have hcut : ∀ (y3 y4 : Int32), y3 = nI n → y4 = nI (8 * c21) → hG ra (d + 2) 123 σ [some (.ref 176), some (.int (nI f)), some (.int (nI k)), some (.int y3), some (.int y4), none, none, none, none] [] 23 (pI (fun σ' _ => ∃ F', RS b σ0 F0 σ' c u g F' ∧ Rpt F' l e (jn P x.2 n u) ∧ PO Fz F' k)) := by
    intro y3 y4 ey3 ey4
    subst ey3
    subst ey4
    refine h_st rfl rfl ?_
    refine h_st rfl rfl ?_
    refine h_br (fun q => ?_) (fun q => ?_)
    · rw [jn_a (P := P) (m := n) (tm := u) (fun z => q (e21.symm.trans z))]
      exact r_123cw h ek hl he hR hO hf hg hbx hx1 hn e21 (by omega)
    · refine h_st rfl rfl ?_
      refine h_st rfl (e_get h.2.1 rfl) ?_
      refine h_st rfl rfl ?_
      refine h_st rfl rfl ?_
      refine h_st rfl rfl ?_
      refine h_st rfl rfl ?_
      refine h_ci3 rfl (Nat.le_of_ble_eq_true rfl) (e_rcv h.2.1) rfl (r_107v (q := x.2) h rfl hf (rfl : (18 : Int32) = nI 18) (by decide) (hg 18 (by omega)) (hg (18 + 1) (by omega)) (hbx 18 (by omega)) (hbx (18 + 1) (by omega))) (fun σ' y hq => ?_)
      obtain ⟨hss, rfl⟩ := hq
      replace hss := hss.symm
      subst hss
      refine r_ias rfl h m206 (fun _ => by decide) (by decide) (rfl) (hk) (rfl) (fun σ2 h2 => ?_)
      replace h := h2
      clear h2
      refine h_st rfl rfl ?_
      refine h_st rfl (e_get h.2.1 rfl) ?_
      refine h_st rfl rfl ?_
      refine h_st rfl rfl ?_
      refine r_ias rfl h m207 (fun _ => by decide) (by decide) (rfl) (hk) (rfl) (fun σ2 h2 => ?_)
      replace h := h2
      clear h2
      have ez : nI (8 * c21) = 0 := Decidable.of_not_not q
      rw [jn_b (P := P) (m := n) (tm := u) (e21.trans ez) (by omega)]
      refine r_123cw h ek hl he ?_ ((hO.u (p := 206) (by decide) (own_k (by decide))).u (p := 207) (by decide) (own_k (by decide))) hf hg hbx hx1 hn e21 (by omega)
      exact hR.bg (fun q z1 z2 z3 => (fu_n z2).trans (fu_n z1)) (Or.inr ⟨pa x.2 18, (0, fun _ => 0), rfl, by rw [ek]; exact pk_us, r18, by rw [ek]; exact pk_us, by show 0 ≤ 1000; omega, fun j hj => absurd hj (Nat.not_lt_zero j), fun j hj => absurd hj (Nat.not_lt_zero j)⟩)
  exact hcut _ _ e16 e4
end SY14
