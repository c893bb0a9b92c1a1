section RF5
variable {ra : ae_R} {d : Nat} {σ : ae_S}
theorem r_116b {b : Bool} {σ0 : ae_S} {F0 F : Nat → Nat → Int32} {c u g : Int32} (h : RS b σ0 F0 σ c u g F) {a e : List Nat} {f wy : Nat} {x x2 x3 x4 x5 : Int32} (ef : x = nI f) (hf : f < 400) (e5 : x5 = nI wy) (hwy : wy < 12) (hP : RP F g (f :: a) (f :: e)) : hG ra (d + 4) 116 σ [some (.ref 176), some (.int x), some (.int x2), some (.int x3), some (.int x4), some (.int x5)] [] 92 (pV (fun σ' => ∃ F', RS b σ0 F0 σ' c u g F' ∧ RP F' g a e)) := by
  refine h_st rfl rfl ?_
  refine h_st rfl rfl ?_
  refine h_br (fun q1 => ?_) (fun q1 => ?_)
  · refine h_st rfl rfl ?_
    refine h_st rfl (e_get h.2.1 rfl) ?_
    refine h_st rfl rfl ?_
    refine h_st rfl rfl ?_
    refine r_bas rfl h m196 (fun _ => by decide) (by decide) (ef) (hf) ((rfl : vp_nar .boolean 0 = 0)) (fun σ2 h2 => ?_)
    replace h := h2
    clear h2
    exact h_rv rfl (⟨_, rfl, _, h, (hP).n6 (hP).2.2.2.1.free⟩)
  · refine h_st rfl rfl ?_
    refine h_st rfl (e_get h.2.1 rfl) ?_
    refine h_st rfl rfl ?_
    refine h_st rfl rfl ?_
    refine h_st rfl (q_ia h.a213 (e5) (hwy) (by decide)) ?_
    refine h_st rfl rfl ?_
    refine h_st rfl rfl ?_
    refine r_ias rfl h m213 (fun _ => by decide) (by decide) (e5) (hwy) (rfl) (fun σ2 h2 => ?_)
    replace h := h2
    clear h2
    replace hP := RP.fo (p := 213) (f := upd (F 213) wy (F 213 wy + 1)) hP (by decide)
    refine h_st rfl rfl ?_
    refine h_st rfl (e_get h.2.1 rfl) ?_
    refine h_st rfl rfl ?_
    refine h_st rfl rfl ?_
    refine r_bas rfl h m196 (fun _ => by decide) (by decide) (ef) (hf) ((rfl : vp_nar .boolean 0 = 0)) (fun σ2 h2 => ?_)
    replace h := h2
    clear h2
    exact h_rv rfl (⟨_, rfl, _, h, (hP).n6 (hP).2.2.2.1.free⟩)
theorem r_116 {b : Bool} {σ0 : ae_S} {F0 F : Nat → Nat → Int32} {c u g : Int32} (h : RS b σ0 F0 σ c u g F) {a e : List Nat} {f nt : Nat} {x x2 y : Int32} (ef : x = nI f) (hf : f < 400) (e2 : x2 = nI nt) (hnt : nt < 2) (hP : RP F g (f :: a) (f :: e)) : hE ra (d + 5) 116 [.ref 176, .int x, .int x2, .int y] σ (pV (fun σ' => ∃ F', RS b σ0 F0 σ' c u g F' ∧ RP F' g a e)) := by
  obtain ⟨sz, z1, z2, hz⟩ := hP.2.2.2.1.2.2.1 f hf (Or.inr List.mem_cons_self)
  have e5 : F 195 f - 5 = nI (sz - 5) := by rw [hz, show (5 : Int32) = nI 5 from rfl, pk_sub (by omega)]
  obtain ⟨sv, hsv, esv⟩ := hP.2.2.1 (200 * f + (sz - 5)) (by omega)
  refine h_in rfl rfl (Nat.le_of_ble_eq_true rfl) ?_
  refine h_st rfl rfl ?_
  refine h_st rfl rfl ?_
  refine h_ci2 rfl (Nat.le_of_ble_eq_true rfl) (e_rcv h.2.1) rfl (r_117 h hP.2.2.1 ef hf) (fun σ' y9 hq => ?_)
  obtain ⟨hss, hv⟩ := hq
  replace hss := hss.symm
  subst hss
  rcases hv with rfl | ⟨l, hl, rfl, hil⟩
  · refine h_st rfl rfl ?_
    refine h_st rfl rfl ?_
    refine h_st rfl rfl ?_
    refine h_ci2 rfl (Nat.le_of_ble_eq_true rfl) (e_rcv h.2.1) rfl (r_118 h ef hf hz ⟨z1, z2⟩) (fun σ' y8 hq => ?_)
    replace hq := hq.symm
    subst hq
    refine h_st rfl rfl ?_
    refine h_br (fun q1 => ?_) (fun q1 => ?_)
    · refine h_st rfl rfl ?_
      refine h_st rfl rfl ?_
      refine h_st rfl rfl ?_
      refine h_pc (if_neg (by decide)) ?_
      refine h_st rfl rfl ?_
      refine h_st rfl rfl ?_
      refine h_st rfl rfl ?_
      refine h_st rfl rfl ?_
      refine h_st rfl rfl ?_
      refine h_pc (if_pos (by decide)) ?_
      exact r_116b h ef hf (rfl : (2 : Int32) = nI 2) (by decide) hP
    · refine h_st rfl rfl ?_
      refine h_st rfl rfl ?_
      refine h_st rfl rfl ?_
      refine h_st rfl rfl ?_
      refine h_st rfl rfl ?_
      refine h_pc (if_pos (by decide)) ?_
      exact r_116b h ef hf (rfl : (1 : Int32) = nI 1) (by decide) hP
  · refine h_st rfl rfl ?_
    refine h_st rfl rfl ?_
    refine h_st rfl rfl ?_
    refine h_ci2 rfl (Nat.le_of_ble_eq_true rfl) (e_rcv h.2.1) rfl (r_118 h ef hf hz ⟨z1, z2⟩) (fun σ' y8 hq => ?_)
    replace hq := hq.symm
    subst hq
    refine h_st rfl rfl ?_
    refine h_br (fun q1 => ?_) (fun q1 => ?_)
    · refine h_st rfl rfl ?_
      refine h_st rfl rfl ?_
      refine h_st rfl rfl ?_
      refine h_pc (if_pos (decide_eq_true (nI_nm1 (by omega)))) ?_
      refine h_st rfl rfl ?_
      refine h_st rfl rfl ?_
      refine h_st rfl rfl ?_
      refine h_ci3 rfl (Nat.le_of_ble_eq_true rfl) (e_rcv h.2.1) rfl (r_119t h _ _) (fun σ' y7 hq => ?_)
      obtain ⟨hss, hv7⟩ := hq
      replace hss := hss.symm
      subst hss
      refine h_st rfl rfl ?_
      refine h_br (fun q3 => ?_) (fun q3 => ?_)
      · refine h_st rfl rfl ?_
        refine h_st rfl rfl ?_
        refine h_ci2 rfl (Nat.le_of_ble_eq_true rfl) (e_rcv h.2.1) rfl (r_120 h ef hf hz ⟨z1, z2⟩) (fun σ' y6 hq => ?_)
        obtain ⟨hss, hv6⟩ := hq
        replace hss := hss.symm
        subst hss
        refine h_st rfl rfl ?_
        refine h_br (fun q4 => ?_) (fun q4 => ?_)
        · refine h_st rfl rfl ?_
          refine h_st rfl rfl ?_
          refine h_st rfl rfl ?_
          refine h_st rfl rfl ?_
          refine h_pc (if_neg (by decide)) ?_
          obtain ⟨-, v1, v2⟩ := hv6.resolve_left q4
          obtain ⟨-, -, ke, hke, eke⟩ := hv7.resolve_left q3
          obtain ⟨n, hn, en⟩ := i_nn v1
          have hn161 : n ≤ sz - 39 := (nI_leI (by omega) (by omega)).mp (by rw [← en, show nI (sz - 39) = nI sz - 39 from (pk_sub (a := sz) (b := 39) (by omega)).symm]; exact Int32.not_lt.mp v2)
          have ek : (8 : Int32) * y + nI l = nI (8 * ke + l) := by rw [eke, show (8 : Int32) = nI 8 from rfl, pk_mul, nI_add]
          refine h_st rfl rfl ?_
          refine h_st rfl rfl ?_
          refine h_st rfl rfl ?_
          refine h_st rfl rfl ?_
          refine h_st rfl rfl ?_
          refine h_st rfl rfl ?_
          refine h_st rfl rfl ?_
          refine h_st rfl rfl ?_
          refine h_st rfl rfl ?_
          refine h_st rfl rfl ?_
          refine h_st rfl rfl ?_
          refine h_st rfl (e_get h.2.1 rfl) ?_
          refine h_st rfl rfl ?_
          refine h_st rfl (q_ia h.a195 (ef) (hf) (by decide)) ?_
          refine h_st rfl rfl ?_
          refine h_st rfl rfl ?_
          refine h_ci3 rfl (Nat.le_of_ble_eq_true rfl) (e_rcv h.2.1) rfl (r_108 h (ef) (hf) (e5) (by omega)) (fun σ' y hq => ?_)
          obtain ⟨hss, rfl⟩ := hq
          replace hss := hss.symm
          subst hss
          refine h_ci5 rfl (Nat.le_of_ble_eq_true rfl) (e_rcv h.2.1) rfl (r_121 h hP ef hf e2 hnt ek (by omega) esv hsv (by omega) en) (fun σ5 v5 hq => ?_)
          obtain ⟨F5, w5, rfl, hw5, h5, hP5⟩ := hq
          refine h_st rfl rfl ?_
          exact r_116b h5 ef hf rfl hw5 hP5
        · refine h_st rfl rfl ?_
          refine h_st rfl rfl ?_
          refine h_st rfl rfl ?_
          refine h_st rfl rfl ?_
          refine h_st rfl rfl ?_
          refine h_pc (if_pos (by decide)) ?_
          exact r_116b h ef hf (rfl : (7 : Int32) = nI 7) (by decide) hP
      · refine h_st rfl rfl ?_
        refine h_st rfl rfl ?_
        refine h_st rfl rfl ?_
        refine h_st rfl rfl ?_
        refine h_st rfl rfl ?_
        refine h_pc (if_pos (by decide)) ?_
        exact r_116b h ef hf (rfl : (3 : Int32) = nI 3) (by decide) hP
    · refine h_st rfl rfl ?_
      refine h_st rfl rfl ?_
      refine h_st rfl rfl ?_
      refine h_st rfl rfl ?_
      refine h_st rfl rfl ?_
      refine h_pc (if_pos (by decide)) ?_
      exact r_116b h ef hf (rfl : (1 : Int32) = nI 1) (by decide) hP
theorem r_124i {b : Bool} {σ0 : ae_S} {F0 F : Nat → Nat → Int32} {c u g : Int32} {f l gg sz : Nat} {x x2 x3 : Int32} {x5 x6 : Option Value} (ef : x = nI f) (hf : f < 400) (hgg : gg < 400) (hz : F 195 f = nI sz) (hz1 : 64 ≤ sz ∧ sz ≤ 200) {P : ae_S × ae_O → Prop} (hx : ∀ σ fb, RS b σ0 F0 σ c u g (fu F 194 fb) → GB fb → hG ra (d + 2) 124 σ [some (.ref 176), some (.int x), some (.int x2), some (.int x3), some (.int (nI l)), x5, x6, some (.int (nI gg)), some (.int (nI sz))] [] 251 P) : ∀ (m i : Nat) (σ : ae_S) (fb : Nat → Int32), i + m = sz → RS b σ0 F0 σ c u g (fu F 194 fb) → GB fb → hG ra (d + 2) 124 σ [some (.ref 176), some (.int x), some (.int x2), some (.int x3), some (.int (nI l)), x5, x6, some (.int (nI gg)), some (.int (nI i))] [] 213 P := by
  intro m
  induction m with
  | zero =>
    intro i σ fb hi h hb
    have hi : i = sz := by omega
    subst hi
    refine h_st rfl rfl ?_
    refine h_st rfl rfl ?_
    refine h_st rfl (e_get h.2.1 rfl) ?_
    refine h_st rfl rfl ?_
    refine h_st rfl (q_iaE h.a195 (ef) (hf) (by decide) (hz)) ?_
    refine h_st rfl rfl ?_
    refine h_pc (if_pos (decide_eq_true (nI_le (Nat.le_refl _) (by omega)))) ?_
    exact hx _ _ h hb
  | succ m ih =>
    intro i σ fb hi h hb
    have ih1 := fun σ fb => ih (i + 1) σ fb (by omega)
    simp only [← nI_1] at ih1
    refine h_st rfl rfl ?_
    refine h_st rfl rfl ?_
    refine h_st rfl (e_get h.2.1 rfl) ?_
    refine h_st rfl rfl ?_
    refine h_st rfl (q_iaE h.a195 (ef) (hf) (by decide) (hz)) ?_
    refine h_st rfl rfl ?_
    refine h_pc (if_neg (fun z9 => (nI_ge (show i < sz by omega) (by omega)) (of_decide_eq_true z9))) ?_
    refine h_st rfl rfl ?_
    refine h_st rfl (e_get h.2.1 rfl) ?_
    refine h_st rfl rfl ?_
    refine h_st rfl rfl ?_
    refine h_st rfl rfl ?_
    refine h_st rfl rfl ?_
    refine h_st rfl rfl ?_
    refine h_st rfl rfl ?_
    refine h_st rfl rfl ?_
    refine h_st rfl rfl ?_
    refine h_ci3 rfl (Nat.le_of_ble_eq_true rfl) (e_rcv h.2.1) rfl (r_108 h (ef) (hf) (rfl) (by omega)) (fun σ' y hq => ?_)
    obtain ⟨hss, rfl⟩ := hq
    replace hss := hss.symm
    subst hss
    refine r_ias rfl h m194 (fun _ => by decide) (by decide) (ix2 gg i) (by omega) (rfl) (fun σ2 h2 => ?_)
    replace h := h2
    clear h2
    rw [fu_fu] at h
    refine h_st rfl rfl ?_
    refine h_st rfl rfl ?_
    exact ih1 _ _ h (hb.upd (hb _ (by omega)))
theorem r_124l {b : Bool} {σ0 : ae_S} {F0 : Nat → Nat → Int32} {c u g : Int32} {a e : List Nat} {f l nt : Nat} {x x2 x3 : Int32} {x5 : Option Value} (ef : x = nI f) (hf : f < 400) (e2 : x2 = nI nt) (hnt : nt < 2) (hl : l < 8) (he : e.length ≤ 90) : ∀ (m j : Nat) (σ : ae_S) (F : Nat → Nat → Int32) (x7 x8 : Option Value), j + m = 12 → RS b σ0 F0 σ c u g F → RP F g (f :: a) (f :: e) → hG ra (d + 3) 124 σ [some (.ref 176), some (.int x), some (.int x2), some (.int x3), some (.int (nI l)), x5, some (.int (nI j)), x7, x8] [] 158 (pV (fun σ' => ∃ F', RS b σ0 F0 σ' c u g F' ∧ RP F' g a e)) := by
  intro m
  induction m with
  | zero =>
    intro j σ F x7 x8 hj h hP
    have hj : j = 12 := by omega
    subst hj
    refine h_st rfl rfl ?_
    refine h_st rfl rfl ?_
    refine h_st rfl rfl ?_
    refine h_pc (if_pos (decide_eq_true (nI_le (Nat.le_refl 12) (by decide)))) ?_
    refine h_st rfl rfl ?_
    refine h_st rfl (e_get h.2.1 rfl) ?_
    refine h_st rfl rfl ?_
    refine h_st rfl rfl ?_
    refine r_bas rfl h m196 (fun _ => by decide) (by decide) (ef) (hf) ((rfl : vp_nar .boolean 0 = 0)) (fun σ2 h2 => ?_)
    replace h := h2
    clear h2
    exact h_rv rfl (⟨_, rfl, _, h, (hP).n6 (hP).2.2.2.1.free⟩)
  | succ m ih =>
    intro j σ F x7 x8 hj h hP
    have ih1 := fun σ F x7 x8 => ih (j + 1) σ F x7 x8 (by omega)
    simp only [← nI_1] at ih1
    have e12 : (12 : Int32) * x2 + nI j = nI (12 * nt + j) := by rw [e2, show (12 : Int32) = nI 12 from rfl, pk_mul, nI_add]
    refine h_st rfl rfl ?_
    refine h_st rfl rfl ?_
    refine h_st rfl rfl ?_
    refine h_pc (if_neg (fun z9 => (nI_ge (show j < 12 by omega) (by decide)) (of_decide_eq_true z9))) ?_
    refine h_st rfl rfl ?_
    refine h_ci1 rfl (Nat.le_of_ble_eq_true rfl) rfl rfl (r_127 _) (fun σ' y9 hq => ?_)
    replace hq := hq.symm
    subst hq
    refine h_st rfl rfl ?_
    refine h_ci1 rfl (Nat.le_of_ble_eq_true rfl) rfl rfl (r_115 _) (fun σ' y8 hq => ?_)
    replace hq := hq.symm
    subst hq
    refine h_st rfl rfl ?_
    refine h_br (fun q1 => ?_) (fun q1 => ?_)
    · refine h_st rfl rfl ?_
      refine h_st rfl rfl ?_
      exact ih1 _ _ _ _ h hP
    · refine h_st rfl rfl ?_
      refine h_st rfl rfl ?_
      refine h_st rfl rfl ?_
      refine h_ci3 rfl (Nat.le_of_ble_eq_true rfl) (e_rcv h.2.1) rfl (r_125 h rfl hl) (fun σ' y7 hq => ?_)
      replace hq := hq.symm
      subst hq
      refine h_st rfl rfl ?_
      refine h_br (fun q2 => ?_) (fun q2 => ?_)
      · refine h_st rfl rfl ?_
        refine h_ci1 rfl (Nat.le_of_ble_eq_true rfl) (e_rcv h.2.1) rfl (r_104 h hP (by simp; omega)) (fun σ1 v1 hq => ?_)
        obtain ⟨gg, F1, rfl, hgg, h1, hP1, -⟩ := hq
        replace h := h1
        replace hP := hP1
        clear h1 hP1
        obtain ⟨sz, z1, z2, hz⟩ := hP.2.2.2.1.2.2.1 f hf (Or.inr List.mem_cons_self)
        refine h_st rfl rfl ?_
        refine h_st rfl rfl ?_
        refine h_st rfl (e_get h.2.1 rfl) ?_
        refine h_st rfl rfl ?_
        refine h_st rfl rfl ?_
        refine h_st rfl (e_get h.2.1 rfl) ?_
        refine h_st rfl rfl ?_
        refine h_st rfl (q_iaE h.a195 (ef) (hf) (by decide) (hz)) ?_
        refine r_ias rfl h m195 (fun _ => by decide) (by decide) (rfl) (hgg) (rfl) (fun σ2 h2 => ?_)
        replace h := h2
        clear h2
        replace hP := hP.n5 (hP.2.2.2.1.size (f := gg) z1 z2)
        refine h_st rfl rfl ?_
        refine h_st rfl rfl ?_
        have hz2 : fu F1 195 (upd (F1 195) gg (nI sz)) 195 f = nI sz := by
          show upd (F1 195) gg (nI sz) f = nI sz
          by_cases e9 : f = gg
          · rw [e9, pk_us]
          · rw [pk_un e9]
            exact hz
        have hB := hP.2.2.1
        rw [← fu_self (fu F1 195 (upd (F1 195) gg (nI sz))) 194] at h
        refine r_124i ef hf hgg hz2 ⟨z1, z2⟩ (fun σ9 fb h hb => ?_) sz 0 _ _ (Nat.zero_add _) h hB
        replace hP := hP.b hb
        refine h_st rfl rfl ?_
        refine h_st rfl rfl ?_
        refine h_st rfl rfl ?_
        refine h_st rfl rfl ?_
        refine h_st rfl rfl ?_
        refine h_st rfl rfl ?_
        refine h_st rfl rfl ?_
        refine h_st rfl rfl ?_
        refine h_st rfl (e_get h.2.1 rfl) ?_
        refine h_st rfl rfl ?_
        refine h_st rfl (q_ba h.a178 (rfl) (hl) (by decide)) ?_
        refine h_cv4 rfl (Nat.le_of_ble_eq_true rfl) (e_rcv h.2.1) rfl (r_112 h rfl hgg hP e12 (by omega) _) (fun σ4 hq => ?_)
        obtain ⟨F4, h4, hP4, -⟩ := hq
        refine h_st rfl rfl ?_
        refine h_st rfl rfl ?_
        exact ih1 _ _ _ _ h4 hP4
      · refine h_st rfl rfl ?_
        refine h_st rfl rfl ?_
        refine h_st rfl rfl ?_
        exact ih1 _ _ _ _ h hP
theorem r_124c {b : Bool} {σ0 : ae_S} {F0 F : Nat → Nat → Int32} {c u g : Int32} (h : RS b σ0 F0 σ c u g F) {a e : List Nat} {f l nt : Nat} {x x2 x3 : Int32} (ef : x = nI f) (hf : f < 400) (e2 : x2 = nI nt) (hnt : nt < 2) (hl : l < 8) (he : e.length ≤ 90) (hP : RP F g (f :: a) (f :: e)) {x6 x7 x8 : Option Value} : hG ra (d + 3) 124 σ [some (.ref 176), some (.int x), some (.int x2), some (.int x3), some (.int (nI l)), some (.int 0), x6, x7, x8] [] 121 (pV (fun σ' => ∃ F', RS b σ0 F0 σ' c u g F' ∧ RP F' g a e)) := by
  have e8 : (8 : Int32) * x2 + nI l = nI (8 * nt + l) := by rw [e2, show (8 : Int32) = nI 8 from rfl, pk_mul, nI_add]
  refine h_st rfl rfl ?_
  refine h_st rfl rfl ?_
  refine h_st rfl rfl ?_
  refine h_br (fun q1 => ?_) (fun q1 => ?_)
  · refine h_st rfl rfl ?_
    refine h_st rfl rfl ?_
    exact r_124l ef hf e2 hnt hl he 8 4 _ _ _ _ rfl h hP
  · refine h_st rfl rfl ?_
    refine h_st rfl (e_get h.2.1 rfl) ?_
    refine h_st rfl rfl ?_
    refine h_st rfl rfl ?_
    refine h_st rfl rfl ?_
    refine h_st rfl rfl ?_
    refine h_st rfl rfl ?_
    refine h_st rfl rfl ?_
    refine h_st rfl (q_ia h.a188 (e8) (by omega) (by decide)) ?_
    refine h_st rfl rfl ?_
    refine h_st rfl (e_get h.2.1 rfl) ?_
    refine h_st rfl rfl ?_
    refine h_st rfl (q_ia h.a195 (ef) (hf) (by decide)) ?_
    refine h_st rfl rfl ?_
    refine h_st rfl (e_get h.2.1 rfl) ?_
    refine h_st rfl rfl ?_
    refine h_st rfl (q_ia h.a181 (rfl) (hl) (by decide)) ?_
    refine h_st rfl rfl ?_
    refine h_st rfl rfl ?_
    refine r_ias rfl h m188 (fun _ => by decide) (by decide) (e8) (by omega) (rfl) (fun σ2 h2 => ?_)
    replace h := h2
    clear h2
    refine h_st rfl rfl ?_
    refine h_st rfl rfl ?_
    exact r_124l ef hf e2 hnt hl he 8 4 _ _ _ _ rfl h (hP.fo (by decide))
theorem r_124d {b : Bool} {σ0 : ae_S} {F0 F : Nat → Nat → Int32} {c u g : Int32} (h : RS b σ0 F0 σ c u g F) {a e : List Nat} {f wy : Nat} {x x2 x3 x4 x5 : Int32} (ef : x = nI f) (hf : f < 400) (e5 : x5 = nI wy) (hwy : 0 < wy ∧ wy < 12) (hP : RP F g (f :: a) (f :: e)) {x6 x7 x8 : Option Value} : hG ra (d + 3) 124 σ [some (.ref 176), some (.int x), some (.int x2), some (.int x3), some (.int x4), some (.int x5), x6, x7, x8] [] 108 (pV (fun σ' => ∃ F', RS b σ0 F0 σ' c u g F' ∧ RP F' g a e)) := by
  subst e5
  refine h_st rfl rfl ?_
  refine h_st rfl rfl ?_
  refine h_pc (if_neg (fun z9 => (show ¬ nI wy ≤ 0 from nI_ge hwy.1 (by omega)) (of_decide_eq_true z9))) ?_
  refine h_st rfl rfl ?_
  refine h_st rfl rfl ?_
  refine h_st rfl rfl ?_
  refine h_cv3 rfl (Nat.le_of_ble_eq_true rfl) (e_rcv h.2.1) rfl (r_113 h ef hf hP rfl hwy.2) (fun σ4 hq => ?_)
  obtain ⟨F4, h4, hP4, -⟩ := hq
  exact h_rv rfl (⟨_, rfl, F4, h4, hP4⟩)
theorem r_124 {b : Bool} {σ0 : ae_S} {F0 F : Nat → Nat → Int32} {c u g : Int32} (h : RS b σ0 F0 σ c u g F) {a e : List Nat} {f nt : Nat} {x x2 y : Int32} (ef : x = nI f) (hf : f < 400) (e2 : x2 = nI nt) (hnt : nt < 2) (he : e.length ≤ 90) (hP : RP F g (f :: a) (f :: e)) : hE ra (d + 4) 124 [.ref 176, .int x, .int x2, .int y] σ (pV (fun σ' => ∃ F', RS b σ0 F0 σ' c u g F' ∧ RP F' g a e)) := by
  obtain ⟨sz, z1, z2, hz⟩ := hP.2.2.2.1.2.2.1 f hf (Or.inr List.mem_cons_self)
  refine h_in rfl rfl (Nat.le_of_ble_eq_true rfl) ?_
  refine h_st rfl rfl ?_
  refine h_st rfl rfl ?_
  refine h_ci2 rfl (Nat.le_of_ble_eq_true rfl) (e_rcv h.2.1) rfl (r_117 h hP.2.2.1 ef hf) (fun σ' y9 hq => ?_)
  obtain ⟨hss, hv⟩ := hq
  replace hss := hss.symm
  subst hss
  rcases hv with rfl | ⟨l, hl, rfl, hil⟩
  · refine h_st rfl rfl ?_
    refine h_st rfl rfl ?_
    refine h_st rfl rfl ?_
    refine h_ci2 rfl (Nat.le_of_ble_eq_true rfl) (e_rcv h.2.1) rfl (r_118 h ef hf hz ⟨z1, z2⟩) (fun σ' y8 hq => ?_)
    replace hq := hq.symm
    subst hq
    refine h_st rfl rfl ?_
    refine h_br (fun q1 => ?_) (fun q1 => ?_)
    · refine h_st rfl rfl ?_
      refine h_st rfl rfl ?_
      refine h_st rfl rfl ?_
      refine h_pc (if_neg (by decide)) ?_
      refine h_st rfl rfl ?_
      refine h_st rfl rfl ?_
      refine h_st rfl rfl ?_
      refine h_st rfl rfl ?_
      refine h_st rfl rfl ?_
      refine h_pc (if_pos (by decide)) ?_
      exact r_124d h ef hf (rfl : (2 : Int32) = nI 2) (by decide) hP
    · refine h_st rfl rfl ?_
      refine h_st rfl rfl ?_
      refine h_st rfl rfl ?_
      refine h_st rfl rfl ?_
      refine h_st rfl rfl ?_
      refine h_pc (if_pos (by decide)) ?_
      exact r_124d h ef hf (rfl : (1 : Int32) = nI 1) (by decide) hP
  · have e8 : (8 : Int32) * x2 + nI l = nI (8 * nt + l) := by rw [e2, show (8 : Int32) = nI 8 from rfl, pk_mul, nI_add]
    refine h_st rfl rfl ?_
    refine h_st rfl rfl ?_
    refine h_st rfl rfl ?_
    refine h_ci2 rfl (Nat.le_of_ble_eq_true rfl) (e_rcv h.2.1) rfl (r_118 h ef hf hz ⟨z1, z2⟩) (fun σ' y8 hq => ?_)
    replace hq := hq.symm
    subst hq
    refine h_st rfl rfl ?_
    refine h_br (fun q1 => ?_) (fun q1 => ?_)
    · refine h_st rfl rfl ?_
      refine h_st rfl rfl ?_
      refine h_st rfl rfl ?_
      refine h_pc (if_pos (decide_eq_true (nI_nm1 (by omega)))) ?_
      refine h_st rfl rfl ?_
      refine h_st rfl rfl ?_
      refine h_st rfl rfl ?_
      refine h_ci3 rfl (Nat.le_of_ble_eq_true rfl) (e_rcv h.2.1) rfl (r_125 h rfl hl) (fun σ' y7 hq => ?_)
      replace hq := hq.symm
      subst hq
      refine h_st rfl rfl ?_
      refine h_br (fun q3 => ?_) (fun q3 => ?_)
      · refine h_st rfl rfl ?_
        refine h_st rfl (e_get h.2.1 rfl) ?_
        refine h_st rfl rfl ?_
        refine h_st rfl (q_ia h.a195 (ef) (hf) (by decide)) ?_
        refine h_st rfl rfl ?_
        refine h_st rfl (e_get h.2.1 rfl) ?_
        refine h_st rfl rfl ?_
        refine h_st rfl (q_ia h.a182 (rfl) (hl) (by decide)) ?_
        refine h_st rfl rfl ?_
        refine h_br (fun q4 => ?_) (fun q4 => ?_)
        · refine h_st rfl rfl ?_
          refine h_st rfl rfl ?_
          refine h_st rfl rfl ?_
          refine h_st rfl rfl ?_
          refine h_pc (if_neg (by decide)) ?_
          refine h_st rfl rfl ?_
          refine h_st rfl rfl ?_
          refine h_st rfl rfl ?_
          refine h_br (fun q5 => ?_) (fun q5 => ?_)
          · refine h_st rfl rfl ?_
            refine h_st rfl rfl ?_
            refine h_pc (if_pos (by decide)) ?_
            exact r_124c h ef hf e2 hnt hl he hP
          · refine h_st rfl rfl ?_
            refine h_st rfl (e_get h.2.1 rfl) ?_
            refine h_st rfl rfl ?_
            refine h_st rfl rfl ?_
            refine h_st rfl rfl ?_
            refine h_st rfl rfl ?_
            refine h_st rfl rfl ?_
            refine h_st rfl (q_ia h.a188 (e8) (by omega) (by decide)) ?_
            refine h_st rfl rfl ?_
            refine h_st rfl (e_get h.2.1 rfl) ?_
            refine h_st rfl rfl ?_
            refine h_st rfl (q_ia h.a195 (ef) (hf) (by decide)) ?_
            refine h_st rfl rfl ?_
            refine h_st rfl (e_get h.2.1 rfl) ?_
            refine h_st rfl rfl ?_
            refine h_st rfl (q_ia h.a181 (rfl) (hl) (by decide)) ?_
            refine h_st rfl rfl ?_
            refine h_st rfl rfl ?_
            refine h_br (fun q6 => ?_) (fun q6 => ?_)
            · refine h_st rfl rfl ?_
              refine h_st rfl rfl ?_
              refine h_pc (if_pos (by decide)) ?_
              exact r_124c h ef hf e2 hnt hl he hP
            · refine h_st rfl rfl ?_
              refine h_st rfl rfl ?_
              exact r_124d h ef hf (rfl : (5 : Int32) = nI 5) (by decide) hP
        · refine h_st rfl rfl ?_
          refine h_st rfl rfl ?_
          refine h_st rfl rfl ?_
          refine h_st rfl rfl ?_
          refine h_st rfl rfl ?_
          refine h_pc (if_pos (by decide)) ?_
          exact r_124d h ef hf (rfl : (4 : Int32) = nI 4) (by decide) hP
      · refine h_st rfl rfl ?_
        refine h_st rfl rfl ?_
        refine h_st rfl rfl ?_
        refine h_st rfl rfl ?_
        refine h_st rfl rfl ?_
        refine h_pc (if_pos (by decide)) ?_
        exact r_124d h ef hf (rfl : (3 : Int32) = nI 3) (by decide) hP
    · refine h_st rfl rfl ?_
      refine h_st rfl rfl ?_
      refine h_st rfl rfl ?_
      refine h_st rfl rfl ?_
      refine h_st rfl rfl ?_
      refine h_pc (if_pos (by decide)) ?_
      exact r_124d h ef hf (rfl : (1 : Int32) = nI 1) (by decide) hP
theorem r_114t {b : Bool} {σ0 : ae_S} {F0 F : Nat → Nat → Int32} {c u g : Int32} (h : RS b σ0 F0 σ c u g F) {a e : List Nat} (hP : RP F g a e) (he : e.length ≤ 90) {l : Nat} {x : Int32} (el : x = nI l) (hl : l < 24) : hE ra (d + 6) 114 [.ref 176, .int x] σ (pV (fun σ' => ∃ F', RS b σ0 F0 σ' c u g F' ∧ RP F' g a e)) := by
  subst el
  have ed : nI l / 12 = nI (l / 12) := pk_div (a := l) (d := 12) (by omega) (by decide) (by decide)
  rcases hP.2.2.2.1.2.1 l hl with ho | ⟨f, hf, ho⟩
  · refine h_in rfl rfl (Nat.le_of_ble_eq_true rfl) ?_
    refine h_st rfl rfl ?_
    refine h_st rfl (e_get h.2.1 rfl) ?_
    refine h_st rfl rfl ?_
    refine h_st rfl (q_iaE h.a199 (rfl) (hl) (by decide) (ho)) ?_
    refine h_st rfl rfl ?_
    refine h_st rfl rfl ?_
    refine h_pc (if_neg (by decide)) ?_
    exact h_rv rfl (⟨_, rfl, _, h, hP⟩)
  · refine h_in rfl rfl (Nat.le_of_ble_eq_true rfl) ?_
    refine h_st rfl rfl ?_
    refine h_st rfl (e_get h.2.1 rfl) ?_
    refine h_st rfl rfl ?_
    refine h_st rfl (q_iaE h.a199 (rfl) (hl) (by decide) (ho)) ?_
    refine h_st rfl rfl ?_
    refine h_st rfl rfl ?_
    refine h_pc (if_pos (decide_eq_true (nI_nm1 (by omega)))) ?_
    refine h_st rfl rfl ?_
    refine h_st rfl (e_get h.2.1 rfl) ?_
    refine h_st rfl rfl ?_
    refine h_st rfl rfl ?_
    refine h_st rfl (q_ia h.a200 (rfl) (hl) (by decide)) ?_
    refine h_st rfl rfl ?_
    refine h_st rfl rfl ?_
    refine r_ias rfl h m200 (fun _ => by decide) (by decide) (rfl) (hl) (rfl) (fun σ2 h2 => ?_)
    replace h := h2
    clear h2
    replace hP := RP.fo (p := 200) (f := upd (F 200) l (F 200 l + 1)) hP (by decide)
    refine h_st rfl rfl ?_
    refine h_st rfl (e_get h.2.1 rfl) ?_
    refine h_st rfl rfl ?_
    refine h_st rfl (q_iaE h.a199 (rfl) (hl) (by decide) (ho)) ?_
    refine h_st rfl rfl ?_
    refine h_st rfl rfl ?_
    refine h_st rfl rfl ?_
    refine h_st rfl (e_get h.2.1 rfl) ?_
    refine h_st rfl rfl ?_
    refine h_st rfl (q_ia h.a200 (rfl) (hl) (by decide)) ?_
    refine h_st rfl rfl ?_
    refine h_st rfl rfl ?_
    refine h_st rfl (e_get h.2.1 rfl) ?_
    refine h_st rfl rfl ?_
    refine h_st rfl (q_ia h.a195 (rfl) (hf) (by decide)) ?_
    refine h_st rfl rfl ?_
    refine h_br (fun q1 => ?_) (fun q1 => ?_)
    · refine h_st rfl rfl ?_
      refine h_st rfl (e_get h.2.1 rfl) ?_
      refine h_st rfl rfl ?_
      refine h_st rfl rfl ?_
      refine r_ias rfl h m199 (fun _ => by decide) (by decide) (rfl) (hl) (rfl) (fun σ2 h2 => ?_)
      replace h := h2
      clear h2
      replace hP := hP.n9 (hP.2.2.2.1.offF hf hl ho)
      refine h_st rfl rfl ?_
      refine h_st rfl rfl ?_
      refine h_st rfl (e_dv (by decide)) ?_
      refine h_ci1 rfl (Nat.le_of_ble_eq_true rfl) rfl rfl (r_115 _) (fun σ' y9 hq => ?_)
      replace hq := hq.symm
      subst hq
      refine h_st rfl rfl ?_
      refine h_st rfl rfl ?_
      refine h_br (fun q2 => ?_) (fun q2 => ?_)
      · refine h_st rfl rfl ?_
        refine h_st rfl rfl ?_
        refine h_st rfl rfl ?_
        refine h_st rfl rfl ?_
        refine h_st rfl (e_dv (by decide)) ?_
        refine h_st rfl rfl ?_
        refine h_st rfl rfl ?_
        refine h_st rfl (e_dv (by decide)) ?_
        refine h_cv4 rfl (Nat.le_of_ble_eq_true rfl) (e_rcv h.2.1) rfl (r_124 h rfl hf ed (by omega) he hP) (fun σ5 hq => ?_)
        obtain ⟨F5, h5, hP5⟩ := hq
        exact h_rv rfl (⟨_, rfl, F5, h5, hP5⟩)
      · refine h_st rfl rfl ?_
        refine h_st rfl rfl ?_
        refine h_st rfl rfl ?_
        refine h_st rfl rfl ?_
        refine h_st rfl (e_dv (by decide)) ?_
        refine h_st rfl rfl ?_
        refine h_st rfl rfl ?_
        refine h_st rfl (e_dv (by decide)) ?_
        refine h_st rfl rfl ?_
        refine h_st rfl rfl ?_
        refine h_cv4 rfl (Nat.le_of_ble_eq_true rfl) (e_rcv h.2.1) rfl (r_116 h rfl hf ed (by omega) hP) (fun σ5 hq => ?_)
        obtain ⟨F5, h5, hP5⟩ := hq
        refine h_st rfl rfl ?_
        exact h_rv rfl (⟨_, rfl, F5, h5, hP5⟩)
    · exact h_rv rfl (⟨_, rfl, _, h, hP⟩)
end RF5
