section SY19
variable {ra : ae_R} {d : Nat} {σ : ae_S}
section S19
variable {F F' : Nat → Nat → Int32} {v v' : Nat → Nat} {l e i j nt ln f : Nat} {x : AF} {a : AN} {k : AK}
theorem i_12 {t : Int32} : 1 < t ↔ 2 ≤ t := by
  rw [Int32.lt_iff_toInt_lt, Int32.le_iff_toInt_le]
  have e1 : (1 : Int32).toInt = 1 := by decide
  have e2 : (2 : Int32).toInt = 2 := by decide
  omega
theorem i_34 {t : Int32} : 3 < t ↔ 4 ≤ t := by
  rw [Int32.lt_iff_toInt_lt, Int32.le_iff_toInt_le]
  have e1 : (3 : Int32).toInt = 3 := by decide
  have e2 : (4 : Int32).toInt = 4 := by decide
  omega
theorem i_78 {t : Int32} : 7 < t ↔ 8 ≤ t := by
  rw [Int32.lt_iff_toInt_lt, Int32.le_iff_toInt_le]
  have e1 : (7 : Int32).toInt = 7 := by decide
  have e2 : (8 : Int32).toInt = 8 := by decide
  omega
theorem kat_inv {y : Int32} (h : kat a y = some (l, k)) : l < 8 ∧ y = nI l ∧ nK a l = some k := by
  unfold kat at h
  by_cases c : y < 0 ∨ 8 ≤ y
  · rw [if_pos c] at h
    cases h
  · rw [if_neg c] at h
    obtain ⟨j, hj, rfl⟩ := i_ix (n := 8) (x := y) (by decide) (fun z => c (Or.inl z)) (fun z => c (Or.inr z))
    rw [nI_clamp (by omega)] at h
    cases hk : nK a j with
    | none =>
      rw [hk] at h
      cases h
    | some k' =>
      rw [hk] at h
      injection h with h
      injection h with h1 h2
      subst h1
      subst h2
      exact ⟨hj, rfl, hk⟩
theorem pat_no {y e9 : Int32} (hQ : Mlk F (nK a)) (hM : Mpt F (nK a) (nP a)) (h : ∀ j k, j < 8 → k < 4 → y = nI j → e9 = nI k → F 177 j = 0 ∨ ¬ (F 183 j >>> (nI k &&& 31)) &&& 1 = 1) : pat a e9 y = none := by
  unfold pat
  cases hk : kat a y with
  | none => rfl
  | some r =>
    obtain ⟨l, k⟩ := r
    obtain ⟨hl, rfl, hk2⟩ := kat_inv hk
    by_cases c : e9 < 0 ∨ 4 ≤ e9
    · exact if_pos c
    · obtain ⟨en, hen, rfl⟩ := i_ix (n := 4) (x := e9) (by decide) (fun z => c (Or.inl z)) (fun z => c (Or.inr z))
      have hRK := (hQ l hl).2 k hk2
      have e83 : F 183 l = kta k := hRK.1.2.2.2.2.1
      have hno : nP a l en = none := ((hM l en hl hen).2.1 k hk2).mpr ((h l en hl hen rfl rfl).elim (fun z => absurd z hRK.1.1) (fun z => Decidable.of_not_not (fun y => z (by rw [e83]; exact (and1 _).mpr y))))
      refine (if_neg c).trans ?_
      rw [nI_clamp (by omega), hno]
theorem pat_yes (hQ : Mlk F (nK a)) (hM : Mpt F (nK a) (nP a)) (hl : l < 8) (he : e < 4) (hi : F 177 l ≠ 0) (hb : (F 183 l >>> (nI e &&& 31)) &&& 1 = 1) : ∃ p k, pat a (nI e) (nI l) = some (l, e, p) ∧ nP a l e = some p ∧ Rpt F l e p ∧ nK a l = some k ∧ RK F l k := by
  obtain ⟨k, h1, h2, h3⟩ := kat_yes hQ hl hi
  have e83 : F 183 l = kta k := h3.1.2.2.2.2.1
  cases hp : nP a l e with
  | none => exact absurd (((hM l e hl he).2.1 k h1).mp hp) (by rw [← e83]; exact (and1 _).mp hb)
  | some p =>
    refine ⟨p, k, ?_, rfl, (hM l e hl he).2.2 p hp, h1, h3⟩
    unfold pat
    rw [h2]
    refine (if_neg (fun z => z.elim (nI_pos (by omega)) (nI_ge (b := 4) he (by decide)))).trans ?_
    rw [nI_clamp (by omega), hp]
theorem acA_b {y z : Int32} (h : ¬ (¬ y < 0 ∧ ¬ 2 ≤ y)) : acA a y z = -1 := by
  unfold acA
  cases kat a z with
  | none => rfl
  | some r => exact if_neg h
end S19
theorem r_137w {b : Bool} {σ0 : ae_S} {F0 F : Nat → Nat → Int32} {c g : Int32} {a : AN} {v : Nat → Nat} (h : RS b σ0 F0 σ c (nT a) g F) (hR : RR F v a) (n l wh : Int32) : hE ra (d + 2) 137 [.ref 176, .int n, .int l, .int wh] σ (pI (fun σ' y => RS b σ0 F0 σ' 0 (nT a) g F ∧ y = wtA a n l wh)) := by
  refine h_in rfl rfl (Nat.le_of_ble_eq_true rfl) ?_
  refine h_st rfl rfl ?_
  refine h_st rfl rfl ?_
  refine r_put rfl h rfl (Nat.le_of_ble_eq_true rfl) rfl (fun σ2 h2 => ?_)
  replace h := h2
  clear h2
  refine h_st rfl rfl ?_
  refine h_st rfl rfl ?_
  refine h_ci2 rfl (Nat.le_of_ble_eq_true rfl) rfl rfl (r_134 n l) (fun σ' b1 hq => ?_)
  obtain ⟨hss, hb1⟩ := hq
  replace hss := hss.symm
  subst hss
  refine h_st rfl rfl ?_
  refine h_br (fun q1 => ?_) (fun q1 => ?_)
  · refine h_st rfl rfl ?_
    refine h_st rfl rfl ?_
    exact h_rt rfl rfl (⟨_, _, rfl, h, by unfold wtA; rw [if_neg (fun z => absurd q1 (b_1 hb1 z.1))]⟩)
  · refine h_st rfl rfl ?_
    refine h_st rfl rfl ?_
    refine h_br (fun q2 => ?_) (fun q2 => ?_)
    · refine h_st rfl rfl ?_
      refine h_st rfl rfl ?_
      exact h_rt rfl rfl (⟨_, _, rfl, h, by unfold wtA; rw [if_neg (fun z => z.2.1 q2)]⟩)
    · refine h_st rfl rfl ?_
      refine h_st rfl rfl ?_
      refine h_st rfl rfl ?_
      refine h_br (fun q3 => ?_) (fun q3 => ?_)
      · have hokl := b_2 hb1 q1
        obtain ⟨a9, c9, ha, hc9, rfl, rfl, ei⟩ := ix12 (b_2 hb1 q1)
        obtain ⟨w9, hw9, rfl⟩ := nI_of2 (x := wh) (M := 1) (n := 1) (by decide) q2 q3
        have ej : (2 : Int32) * (12 * nI a9 + nI c9) + nI w9 = nI (2 * (12 * a9 + c9) + w9) := by rw [ei, show (2 : Int32) = nI 2 from rfl, pk_mul, nI_add]
        have e98 : F 198 (2 * (12 * a9 + c9) + w9) = wtA a (nI a9) (nI c9) (nI w9) := by
          unfold wtA
          rw [if_pos ⟨hokl, q2, q3⟩, lnA_e ha hc9]
          obtain ⟨⟨r1, _⟩, ⟨r2, _⟩, _⟩ := hR.1 (12 * a9 + c9) (by omega)
          rcases (show w9 = 0 ∨ w9 = 1 by omega) with rfl | rfl
          · exact r1.1.trans (if_neg (show ¬ nI 0 = 1 by decide)).symm
          · exact r2.1.trans (if_pos (show nI 1 = 1 from rfl)).symm
        refine h_st rfl rfl ?_
        refine h_st rfl (e_get h.2.1 rfl) ?_
        refine h_st rfl rfl ?_
        refine h_st rfl rfl ?_
        refine h_st rfl rfl ?_
        refine h_st rfl rfl ?_
        refine h_st rfl rfl ?_
        refine h_st rfl rfl ?_
        refine h_st rfl rfl ?_
        refine h_st rfl rfl ?_
        refine h_st rfl rfl ?_
        refine h_st rfl (q_iaE h.a198 (ej) (by omega) (by decide) (e98)) ?_
        exact h_rt rfl rfl (⟨_, _, rfl, h, rfl⟩)
      · refine h_st rfl rfl ?_
        refine h_st rfl rfl ?_
        exact h_rt rfl rfl (⟨_, _, rfl, h, by unfold wtA; rw [if_neg (fun z => q3 z.2.2)]⟩)
theorem r_136w {b : Bool} {σ0 : ae_S} {F0 F : Nat → Nat → Int32} {c g : Int32} {a : AN} {v : Nat → Nat} (h : RS b σ0 F0 σ c (nT a) g F) (hR : RR F v a) (n l k : Int32) : hE ra (d + 2) 136 [.ref 176, .int n, .int l, .int k] σ (pI (fun σ' y => RS b σ0 F0 σ' 0 (nT a) g F ∧ y = olA a n l k)) := by
  refine h_in rfl rfl (Nat.le_of_ble_eq_true rfl) ?_
  refine h_st rfl rfl ?_
  refine h_st rfl rfl ?_
  refine r_put rfl h rfl (Nat.le_of_ble_eq_true rfl) rfl (fun σ2 h2 => ?_)
  replace h := h2
  clear h2
  refine h_st rfl rfl ?_
  refine h_st rfl rfl ?_
  refine h_ci2 rfl (Nat.le_of_ble_eq_true rfl) rfl rfl (r_134 n l) (fun σ' b1 hq => ?_)
  obtain ⟨hss, hb1⟩ := hq
  replace hss := hss.symm
  subst hss
  refine h_st rfl rfl ?_
  refine h_br (fun q1 => ?_) (fun q1 => ?_)
  · have hokl := b_2 hb1 q1
    obtain ⟨a9, c9, ha, hc9, rfl, rfl, ei⟩ := ix12 (b_2 hb1 q1)
    have hi24 : 12 * a9 + c9 < 24 := by omega
    have eo : olA a (nI a9) (nI c9) k = onA (nL a (12 * a9 + c9)).2.2.1 k := by
      unfold olA
      rw [if_pos hokl, lnA_e ha hc9]
    rw [eo]
    rcases (hR.1 (12 * a9 + c9) hi24).2.2.1 with ⟨eO, ho⟩ | ⟨x, t, f, eO, ho, hX, -, -⟩
    · refine h_st rfl rfl ?_
      refine h_st rfl (e_get h.2.1 rfl) ?_
      refine h_st rfl rfl ?_
      refine h_st rfl rfl ?_
      refine h_st rfl rfl ?_
      refine h_st rfl rfl ?_
      refine h_st rfl rfl ?_
      refine h_st rfl (q_iaE h.a199 (ei) (hi24) (by decide) (ho)) ?_
      refine h_st rfl rfl ?_
      refine h_st rfl rfl ?_
      refine h_st rfl rfl ?_
      refine h_st rfl rfl ?_
      refine h_pc (if_pos (by decide)) ?_
      refine h_st rfl rfl ?_
      exact h_rt rfl rfl (⟨_, _, rfl, h, by rw [eO]; rfl⟩)
    · obtain ⟨hf, -, -, hz, hz1, gc, hg, hby, hgx⟩ := hX
      have eon : onA (some (x, t)) k = if k = -1 then nI x.1 else byA x k := rfl
      rw [eO, eon]
      have hm1 : ¬ k < nI x.1 → ¬ k = -1 := fun z y => z (by rw [y]; exact Int32.lt_of_lt_of_le (show (-1 : Int32) < 0 by decide) (nI_pos' (by omega)))
      refine h_st rfl rfl ?_
      refine h_st rfl (e_get h.2.1 rfl) ?_
      refine h_st rfl rfl ?_
      refine h_st rfl rfl ?_
      refine h_st rfl rfl ?_
      refine h_st rfl rfl ?_
      refine h_st rfl rfl ?_
      refine h_st rfl (q_iaE h.a199 (ei) (hi24) (by decide) (ho)) ?_
      refine h_st rfl rfl ?_
      refine h_st rfl rfl ?_
      refine h_st rfl rfl ?_
      refine h_st rfl rfl ?_
      refine h_pc (if_neg (fun z9 => (nI_nm1 (by omega)) (of_decide_eq_true z9))) ?_
      refine h_st rfl rfl ?_
      refine h_st rfl rfl ?_
      refine h_st rfl rfl ?_
      refine h_br (fun q2 => ?_) (fun q2 => ?_)
      · refine h_st rfl rfl ?_
        exact h_rt rfl rfl (⟨_, _, rfl, h, by unfold byA; rw [if_neg (fun z => by rw [z] at q2; exact absurd q2 (by decide)), if_pos (Or.inl (Int32.lt_trans q2 (by decide)))]⟩)
      · refine h_st rfl rfl ?_
        refine h_st rfl rfl ?_
        refine h_st rfl (e_get h.2.1 rfl) ?_
        refine h_st rfl rfl ?_
        refine h_st rfl (q_iaE h.a195 (rfl) (hf) (by decide) (hz)) ?_
        refine h_st rfl rfl ?_
        refine h_br (fun q3 => ?_) (fun q3 => ?_)
        · refine h_st rfl rfl ?_
          refine h_st rfl rfl ?_
          refine h_st rfl rfl ?_
          refine h_br (fun q4 => ?_) (fun q4 => ?_)
          · have k0 : ¬ k < 0 := fun z => q2 (i_m1 z q4)
            obtain ⟨j, hj, rfl⟩ := i_ix (x := k) (n := x.1) (by omega) k0 (Int32.not_le.mpr q3)
            have ev : F 194 (200 * f + j) = x.2 j := (hg j (by omega)).trans (hgx j hj)
            have eb : byA x (nI j) = x.2 j := by unfold byA; rw [if_neg (fun z => z.elim k0 (nI_ge hj (by omega))), nI_clamp (by omega)]
            refine h_st rfl rfl ?_
            refine h_st rfl rfl ?_
            refine h_st rfl rfl ?_
            refine h_ci3 rfl (Nat.le_of_ble_eq_true rfl) (e_rcv h.2.1) rfl (r_108v h rfl hf rfl (by omega) ev) (fun σ' y9 hq => ?_)
            obtain ⟨hss, rfl⟩ := hq
            replace hss := hss.symm
            subst hss
            exact h_rt rfl rfl (⟨_, _, rfl, h, by rw [if_neg q4, eb]⟩)
          · refine h_st rfl rfl ?_
            refine h_st rfl (e_get h.2.1 rfl) ?_
            refine h_st rfl rfl ?_
            refine h_st rfl (q_iaE h.a195 (rfl) (hf) (by decide) (hz)) ?_
            refine h_st rfl rfl ?_
            exact h_rt rfl rfl (⟨_, _, rfl, h, (if_pos (Decidable.of_not_not q4)).symm⟩)
        · refine h_st rfl rfl ?_
          exact h_rt rfl rfl (⟨_, _, rfl, h, by unfold byA; rw [if_neg (hm1 q3), if_pos (Or.inr (Int32.not_lt.mp q3))]⟩)
  · refine h_st rfl rfl ?_
    exact h_rt rfl rfl (⟨_, _, rfl, h, by unfold olA; rw [if_neg (fun z => q1 (b_1 hb1 z))]⟩)
theorem r_139w {b : Bool} {σ0 : ae_S} {F0 F : Nat → Nat → Int32} {c g : Int32} {a : AN} {v : Nat → Nat} (h : RS b σ0 F0 σ c (nT a) g F) (hR : RR F v a) (n x : Int32) : hE ra (d + 2) 139 [.ref 176, .int n, .int x] σ (pI (fun σ' y => RS b σ0 F0 σ' 0 (nT a) g F ∧ y = acA a n x)) := by
  refine h_in rfl rfl (Nat.le_of_ble_eq_true rfl) ?_
  refine h_st rfl rfl ?_
  refine h_st rfl rfl ?_
  refine r_put rfl h rfl (Nat.le_of_ble_eq_true rfl) rfl (fun σ2 h2 => ?_)
  replace h := h2
  clear h2
  refine h_st rfl rfl ?_
  refine h_st rfl rfl ?_
  refine h_br (fun q1 => ?_) (fun q1 => ?_)
  · refine h_st rfl rfl ?_
    refine h_st rfl rfl ?_
    exact h_rt rfl rfl (⟨_, _, rfl, h, (acA_b (fun z => z.1 q1)).symm⟩)
  · refine h_st rfl rfl ?_
    refine h_st rfl rfl ?_
    refine h_st rfl rfl ?_
    refine h_br (fun q2 => ?_) (fun q2 => ?_)
    · refine h_st rfl rfl ?_
      refine h_st rfl rfl ?_
      exact h_rt rfl rfl (⟨_, _, rfl, h, (acA_b (fun z => z.2 (i_12.mp q2))).symm⟩)
    · refine h_st rfl rfl ?_
      refine h_st rfl rfl ?_
      refine h_ci2 rfl (Nat.le_of_ble_eq_true rfl) (e_rcv h.2.1) rfl (r_99t h _) (fun σ' y9 hq => ?_)
      obtain ⟨hss, hv⟩ := hq
      replace hss := hss.symm
      subst hss
      rcases hv with ⟨rfl, hv⟩ | ⟨rfl, l, hl, rfl, hil⟩
      · refine h_st rfl rfl ?_
        refine h_pc (if_neg (by decide)) ?_
        refine h_st rfl rfl ?_
        refine h_st rfl rfl ?_
        exact h_rt rfl rfl (⟨_, _, rfl, h, (acA_n (kat_no hR.2.1 hv)).symm⟩)
      · obtain ⟨a9, ha9, rfl⟩ := nI_of2 (x := n) (M := 1) (n := 1) (by decide) q1 (Int32.not_lt.mp q2)
        have ei : (8 : Int32) * nI a9 + nI l = nI (8 * a9 + l) := by rw [show (8 : Int32) = nI 8 from rfl, pk_mul, nI_add]
        obtain ⟨k, hk1, hk2, hk3⟩ := kat_yes hR.2.1 hl hil
        have e88 : F 188 (8 * a9 + l) = acA a (nI a9) (nI l) := by
          rw [acA_s hk2, if_pos ⟨q1, fun z => q2 (i_12.mpr z)⟩, nI_clamp (by omega)]
          exact hk3.kac (by omega)
        refine h_st rfl rfl ?_
        refine h_pc (if_pos (by decide)) ?_
        refine h_st rfl rfl ?_
        refine h_st rfl (e_get h.2.1 rfl) ?_
        refine h_st rfl rfl ?_
        refine h_st rfl rfl ?_
        refine h_st rfl rfl ?_
        refine h_st rfl rfl ?_
        refine h_st rfl rfl ?_
        refine h_st rfl (q_iaE h.a188 (ei) (by omega) (by decide) (e88)) ?_
        exact h_rt rfl rfl (⟨_, _, rfl, h, rfl⟩)
theorem r_132w {b : Bool} {σ0 : ae_S} {F0 F : Nat → Nat → Int32} {c g : Int32} {a : AN} {v : Nat → Nat} (h : RS b σ0 F0 σ c (nT a) g F) (hR : RR F v a) (e9 l9 : Int32) : hE ra (d + 3) 132 [.ref 176, .int e9, .int l9] σ (pI (fun σ' y => RS b σ0 F0 σ' 0 (nT a) g F ∧ y = ptA a e9 l9)) := by
  refine h_in rfl rfl (Nat.le_of_ble_eq_true rfl) ?_
  refine h_st rfl rfl ?_
  refine h_st rfl rfl ?_
  refine r_put rfl h rfl (Nat.le_of_ble_eq_true rfl) rfl (fun σ2 h2 => ?_)
  replace h := h2
  clear h2
  refine h_st rfl rfl ?_
  refine h_st rfl rfl ?_
  refine h_st rfl rfl ?_
  refine h_ci3 rfl (Nat.le_of_ble_eq_true rfl) (e_rcv h.2.1) rfl (r_119x h e9 l9) (fun σ' y7 hq => ?_)
  obtain ⟨hss, hv⟩ := hq
  replace hss := hss.symm
  subst hss
  rcases hv with ⟨rfl, hv⟩ | ⟨rfl, l, e, hl, he, rfl, rfl, hi, hb⟩
  · refine h_st rfl rfl ?_
    refine h_pc (if_neg (by decide)) ?_
    refine h_st rfl rfl ?_
    exact h_rt rfl rfl (⟨_, _, rfl, h, (ptA_n (pat_no hR.2.1 hR.2.2 hv)).symm⟩)
  · obtain ⟨p, k, hp1, hp2, hp3, hk1, hk2⟩ := pat_yes hR.2.1 hR.2.2 hl he hi hb
    have ek : (8 : Int32) * nI e + nI l = nI (8 * e + l) := by rw [show (8 : Int32) = nI 8 from rfl, pk_mul, nI_add]
    have e9 : F 209 (8 * e + l) = nI (pks p).length := hp3.2.2.2.2.1.1
    have hn4 := hp3.2.2.2.2.1.2.1
    have e12 : F 212 (8 * e + l) = pca p := hp3.2.2.2.2.2
    rw [ptA_s hp1]
    refine h_st rfl rfl ?_
    refine h_pc (if_pos (by decide)) ?_
    refine h_st rfl rfl ?_
    refine h_st rfl rfl ?_
    refine h_st rfl rfl ?_
    refine h_st rfl rfl ?_
    refine h_st rfl rfl ?_
    refine h_st rfl rfl ?_
    refine h_st rfl rfl ?_
    refine h_st rfl (e_get h.2.1 rfl) ?_
    refine h_st rfl rfl ?_
    refine h_st rfl (q_ba h.a179 (rfl) (hl) (by decide)) ?_
    refine h_st rfl rfl ?_
    refine h_br (fun q2 => ?_) (fun q2 => ?_)
    · refine h_st rfl rfl ?_
      refine h_st rfl (e_get h.2.1 rfl) ?_
      refine h_st rfl rfl ?_
      refine h_st rfl (q_iaE h.a209 (ek) (by omega) (by decide) (e9)) ?_
      refine h_st rfl rfl ?_
      refine h_br (fun q3 => ?_) (fun q3 => ?_)
      · refine h_st rfl rfl ?_
        refine h_st rfl (e_get h.2.1 rfl) ?_
        refine h_st rfl rfl ?_
        refine h_st rfl (e_get h.2.1 rfl) ?_
        refine h_st rfl rfl ?_
        refine h_st rfl (q_iaE h.a212 (ek) (by omega) (by decide) (e12)) ?_
        refine h_st rfl rfl ?_
        exact h_rt rfl rfl (⟨_, _, rfl, h, by unfold psA; rw [if_pos (hp3.1.1.mp q2), if_neg (fun z => q3 (by rw [z]; rfl))]⟩)
      · refine h_st rfl rfl ?_
        refine h_st rfl rfl ?_
        exact h_rt rfl rfl (⟨_, _, rfl, h, by unfold psA; rw [if_pos (hp3.1.1.mp q2), if_pos (Decidable.of_not_not (fun z => nI_ne0 (by omega) (by omega) (Decidable.of_not_not q3)))]⟩)
    · refine h_st rfl rfl ?_
      refine h_st rfl (e_get h.2.1 rfl) ?_
      refine h_st rfl rfl ?_
      refine h_st rfl (q_iaE h.a209 (ek) (by omega) (by decide) (e9)) ?_
      refine h_st rfl rfl ?_
      exact h_rt rfl rfl (⟨_, _, rfl, h, by unfold psA; rw [if_neg (fun z => q2 (hp3.1.1.mpr z))]⟩)
theorem r_133w {b : Bool} {σ0 : ae_S} {F0 F : Nat → Nat → Int32} {c g : Int32} {a : AN} {v : Nat → Nat} (h : RS b σ0 F0 σ c (nT a) g F) (hR : RR F v a) (hP : RP F g [] []) (n l pl mk : Int32) : hE ra (d + 2) 133 [.ref 176, .int n, .int l, .int pl, .int mk] σ (pI (fun σ' _ => ∃ F', RS b σ0 F0 σ' 0 (nT a) g F' ∧ RP F' g [] [] ∧ RR F' v (hmA a n l pl mk))) := by
  refine h_in rfl rfl (Nat.le_of_ble_eq_true rfl) ?_
  refine h_st rfl rfl ?_
  refine h_st rfl rfl ?_
  refine r_put rfl h rfl (Nat.le_of_ble_eq_true rfl) rfl (fun σ2 h2 => ?_)
  replace h := h2
  clear h2
  refine h_st rfl rfl ?_
  refine h_st rfl rfl ?_
  refine h_ci2 rfl (Nat.le_of_ble_eq_true rfl) rfl rfl (r_134 n l) (fun σ' b1 hq => ?_)
  obtain ⟨hss, hb1⟩ := hq
  replace hss := hss.symm
  subst hss
  refine h_st rfl rfl ?_
  refine h_br (fun q1 => ?_) (fun q1 => ?_)
  · refine h_st rfl rfl ?_
    exact h_rt rfl rfl (⟨_, _, rfl, F, h, hP, by unfold hmA; rw [if_neg (fun z => absurd q1 (b_1 hb1 z.1))]; exact hR⟩)
  · refine h_st rfl rfl ?_
    refine h_st rfl rfl ?_
    refine h_br (fun q2 => ?_) (fun q2 => ?_)
    · refine h_st rfl rfl ?_
      exact h_rt rfl rfl (⟨_, _, rfl, F, h, hP, by unfold hmA; rw [if_neg (fun z => z.2.1 q2)]; exact hR⟩)
    · refine h_st rfl rfl ?_
      refine h_st rfl rfl ?_
      refine h_st rfl rfl ?_
      refine h_br (fun q3 => ?_) (fun q3 => ?_)
      · have hln := b_2 hb1 q1
        obtain ⟨a9, c9, ha, hc9, rfl, rfl, ei⟩ := ix12 hln
        obtain ⟨mk9, hmk9, rfl⟩ := nI_of2 (x := mk) (M := 255) (n := 255) (by decide) q2 q3
        obtain ⟨p9, hp9, ep9⟩ := pk_andE pl (m := 2147483647) 31 (by decide)
        have eA : hmA a (nI a9) (nI c9) pl (nI mk9) = setL a (12 * a9 + c9) (hrm (nL a (12 * a9 + c9)) p9 (nI mk9)) := by
          unfold hmA
          rw [if_pos ⟨hln, q2, q3⟩, lnA_e ha hc9, ep9, nI_clamp hp9]
        refine h_st rfl rfl ?_
        refine h_st rfl (e_get h.2.1 rfl) ?_
        refine h_st rfl rfl ?_
        refine h_st rfl rfl ?_
        refine h_st rfl rfl ?_
        refine h_st rfl rfl ?_
        refine h_st rfl rfl ?_
        refine h_st rfl rfl ?_
        refine h_st rfl rfl ?_
        refine h_st rfl rfl ?_
        refine r_ias rfl h m201 (fun _ => by decide) (by decide) (ei) (by omega) ((ep9 : (fun x y => x &&& y) pl 2147483647 = nI p9)) (fun σ2 h2 => ?_)
        replace h := h2
        clear h2
        replace hP := hP.h1 (hP.2.2.2.2.1.u1 (k := 12 * a9 + c9) (nI_pos hp9))
        refine h_st rfl rfl ?_
        refine h_st rfl (e_get h.2.1 rfl) ?_
        refine h_st rfl rfl ?_
        refine h_st rfl rfl ?_
        refine h_st rfl rfl ?_
        refine h_st rfl rfl ?_
        refine h_st rfl rfl ?_
        refine h_st rfl rfl ?_
        refine r_ias rfl h m202 (fun _ => by decide) (by decide) (ei) (by omega) (rfl) (fun σ2 h2 => ?_)
        replace h := h2
        clear h2
        replace hP := hP.h2 (hP.2.2.2.2.1.u2 (k := 12 * a9 + c9) (x := nI mk9) ⟨mk9, by omega, rfl⟩)
        refine h_st rfl rfl ?_
        exact h_rt rfl rfl (⟨_, _, rfl, _, h, hP, by rw [eA]; exact ⟨hR.1.hm (by omega) (Or.inr ⟨p9, nI mk9, rfl, pk_us, hp9, pk_us, mk9, by omega, rfl⟩) (fun q z1 z2 => (fu_n z2).trans (fu_n z1)) (fun j hj => ⟨pk_un hj, pk_un hj⟩), hR.2.1.ag (fun q z1 z2 => (fu_n (by omega)).trans (fu_n (by omega))), hR.2.2.ag (fun q hq => (fu_n (by omega)).trans (fu_n (by omega))) rfl⟩⟩)
      · refine h_st rfl rfl ?_
        exact h_rt rfl rfl (⟨_, _, rfl, F, h, hP, by unfold hmA; rw [if_neg (fun z => q3 z.2.2)]; exact hR⟩)
theorem r_135w {b : Bool} {σ0 : ae_S} {F0 F : Nat → Nat → Int32} {c g : Int32} {a : AN} {v : Nat → Nat} (h : RS b σ0 F0 σ c (nT a) g F) (hR : RR F v a) (hP : RP F g [] []) (n e9 l sz x : Int32) : hE ra (d + 5) 135 [.ref 176, .int n, .int e9, .int l, .int sz, .int x] σ (pI (fun σ' y => bbV a n e9 l sz y ∧ ∃ F' v', RS b σ0 F0 σ' 0 (nT a) g F' ∧ RP F' g [] [] ∧ RR F' v' (bbA a n e9 l sz x))) := by
  refine h_in rfl rfl (Nat.le_of_ble_eq_true rfl) ?_
  refine h_st rfl rfl ?_
  refine h_st rfl rfl ?_
  refine r_put rfl h rfl (Nat.le_of_ble_eq_true rfl) rfl (fun σ2 h2 => ?_)
  replace h := h2
  clear h2
  refine h_st rfl rfl ?_
  refine h_st rfl rfl ?_
  refine h_br (fun q1 => ?_) (fun q1 => ?_)
  · refine h_st rfl rfl ?_
    exact h_rt rfl rfl (⟨_, _, rfl, Or.inr ⟨rfl, fun z => z.1.1.1 q1⟩, F, v, h, hP, by unfold bbA; rw [if_neg (fun z => z.1.1 q1)]; exact hR⟩)
  · refine h_st rfl rfl ?_
    refine h_st rfl rfl ?_
    refine h_st rfl rfl ?_
    refine h_br (fun q2 => ?_) (fun q2 => ?_)
    · refine h_st rfl rfl ?_
      exact h_rt rfl rfl (⟨_, _, rfl, Or.inr ⟨rfl, fun z => z.1.1.2 (i_12.mp q2)⟩, F, v, h, hP, by unfold bbA; rw [if_neg (fun z => z.1.2 (i_12.mp q2))]; exact hR⟩)
    · refine h_st rfl rfl ?_
      refine h_st rfl rfl ?_
      refine h_br (fun q3 => ?_) (fun q3 => ?_)
      · refine h_st rfl rfl ?_
        exact h_rt rfl rfl (⟨_, _, rfl, Or.inr ⟨rfl, fun z => z.1.2.1.1 q3⟩, F, v, h, hP, by unfold bbA; rw [if_neg (fun z => z.2.1.1 q3)]; exact hR⟩)
      · refine h_st rfl rfl ?_
        refine h_st rfl rfl ?_
        refine h_st rfl rfl ?_
        refine h_br (fun q4 => ?_) (fun q4 => ?_)
        · refine h_st rfl rfl ?_
          exact h_rt rfl rfl (⟨_, _, rfl, Or.inr ⟨rfl, fun z => z.1.2.1.2 (i_34.mp q4)⟩, F, v, h, hP, by unfold bbA; rw [if_neg (fun z => z.2.1.2 (i_34.mp q4))]; exact hR⟩)
        · refine h_st rfl rfl ?_
          refine h_st rfl rfl ?_
          refine h_br (fun q5 => ?_) (fun q5 => ?_)
          · refine h_st rfl rfl ?_
            exact h_rt rfl rfl (⟨_, _, rfl, Or.inr ⟨rfl, fun z => z.1.2.2.1.1 q5⟩, F, v, h, hP, by unfold bbA; rw [if_neg (fun z => z.2.2.1.1 q5)]; exact hR⟩)
          · refine h_st rfl rfl ?_
            refine h_st rfl rfl ?_
            refine h_st rfl rfl ?_
            refine h_br (fun q6 => ?_) (fun q6 => ?_)
            · refine h_st rfl rfl ?_
              exact h_rt rfl rfl (⟨_, _, rfl, Or.inr ⟨rfl, fun z => z.1.2.2.1.2 (i_78.mp q6)⟩, F, v, h, hP, by unfold bbA; rw [if_neg (fun z => z.2.2.1.2 (i_78.mp q6))]; exact hR⟩)
            · refine h_st rfl rfl ?_
              refine h_st rfl rfl ?_
              refine h_st rfl rfl ?_
              refine h_br (fun q7 => ?_) (fun q7 => ?_)
              · refine h_st rfl rfl ?_
                exact h_rt rfl rfl (⟨_, _, rfl, Or.inr ⟨rfl, fun z => z.1.2.2.2.1 q7⟩, F, v, h, hP, by unfold bbA; rw [if_neg (fun z => z.2.2.2.1 q7)]; exact hR⟩)
              · refine h_st rfl rfl ?_
                refine h_st rfl rfl ?_
                refine h_st rfl rfl ?_
                refine h_br (fun q8 => ?_) (fun q8 => ?_)
                · refine h_st rfl rfl ?_
                  exact h_rt rfl rfl (⟨_, _, rfl, Or.inr ⟨rfl, fun z => absurd z.1.2.2.2.2 (Int32.not_le.mpr q8)⟩, F, v, h, hP, by unfold bbA; rw [if_neg (fun z => absurd z.2.2.2.2 (Int32.not_le.mpr q8))]; exact hR⟩)
                · obtain ⟨a9, ha9, rfl⟩ := nI_of2 (x := n) (M := 1) (n := 1) (by decide) q1 (Int32.not_lt.mp q2)
                  obtain ⟨e8, he8, rfl⟩ := nI_of2 (x := e9) (M := 3) (n := 3) (by decide) q3 (Int32.not_lt.mp q4)
                  obtain ⟨l8, hl8, rfl⟩ := nI_of2 (x := l) (M := 7) (n := 7) (by decide) q5 (Int32.not_lt.mp q6)
                  obtain ⟨s9, hs9, rfl⟩ := nI_of2 (x := sz) (M := 200) (n := 200) (by decide) (fun z => q7 (Int32.lt_trans z (by decide))) (Int32.not_lt.mp q8)
                  obtain ⟨p9, hp9, ep9⟩ := pk_andE x (m := 65535) 16 (by decide)
                  have hs64 : 64 ≤ s9 := Nat.le_of_not_lt (fun z => q7 ((nI_ltI (by omega) (by decide)).mpr z))
                  have hok : okB (nI a9) (nI e8) (nI l8) (nI s9) := ⟨⟨q1, fun z => q2 (i_12.mpr z)⟩, ⟨q3, fun z => q4 (i_34.mpr z)⟩, ⟨q5, fun z => q6 (i_78.mpr z)⟩, q7, Int32.not_lt.mp q8⟩
                  have hi24 : 12 * a9 + e8 < 24 := by omega
                  have hi4 : (12 * a9 + e8) % 12 < 4 := by omega
                  have hln : lnA (nI a9) (nI e8) = 12 * a9 + e8 := lnA_e (by omega) (by omega)
                  have eA : bbA a (nI a9) (nI e8) (nI l8) (nI s9) x = setL a (12 * a9 + e8) (enq (12 * a9 + e8) 0 (bbf l8 e8 a9 s9 x) (nL a (12 * a9 + e8))) := by
                    unfold bbA
                    rw [if_pos hok, hln, nI_clamp (by omega), nI_clamp (by omega), nI_clamp (by omega), nI_clamp (by omega)]
                  have ei : (12 : Int32) * nI a9 + nI e8 = nI (12 * a9 + e8) := by rw [show (12 : Int32) = nI 12 from rfl, pk_mul, nI_add]
                  have ej : (2 : Int32) * (12 * nI a9 + nI e8) = nI (2 * (12 * a9 + e8)) := by rw [ei, show (2 : Int32) = nI 2 from rfl, pk_mul]
                  have em0 : nI s9 - 39 = nI (s9 - 39) := by rw [show (39 : Int32) = nI 39 from rfl, pk_sub (by omega)]
                  have em : (if 64 ≤ nI (s9 - 39) + 39 then nI (s9 - 39) + 39 else 64) = nI s9 := by
                    rw [← em0, Int32.sub_add_cancel, if_pos (show (64 : Int32) ≤ nI s9 from nI_le (a := 64) hs64 (by omega))]
                  have hrow := hR.1 (12 * a9 + e8) hi24
                  have e98 : F 198 (2 * (12 * a9 + e8)) = nI (nL a (12 * a9 + e8)).1.length := hrow.1.1.1
                  have h16 := hrow.1.1.2.1
                  have hcp : cp0 (12 * a9 + e8) = 16 := if_pos hi4
                  have hrm : rom (12 * a9 + e8) 0 (nL a (12 * a9 + e8)) ↔ (nL a (12 * a9 + e8)).1.length < 16 := by
                    unfold rom
                    rw [if_neg (fun z => z.1 rfl), hcp]
                  have hfree := hP.2.2.2.1.some (by decide)
                  have efs : fsz (s9 - 39) = s9 := by unfold fsz; split <;> omega
                  refine h_st rfl rfl ?_
                  refine h_st rfl (e_get h.2.1 rfl) ?_
                  refine h_st rfl rfl ?_
                  refine h_st rfl rfl ?_
                  refine h_st rfl rfl ?_
                  refine h_st rfl rfl ?_
                  refine h_st rfl rfl ?_
                  refine h_st rfl rfl ?_
                  refine h_st rfl rfl ?_
                  refine h_st rfl (q_iaE h.a198 (ej) (by omega) (by decide) (e98)) ?_
                  refine h_st rfl rfl ?_
                  refine h_st rfl rfl ?_
                  refine h_br (fun q9 => ?_) (fun q9 => ?_)
                  · refine h_st rfl rfl ?_
                    refine h_st rfl rfl ?_
                    refine h_st rfl rfl ?_
                    refine h_st rfl rfl ?_
                    refine h_st rfl rfl ?_
                    refine h_st rfl rfl ?_
                    refine h_st rfl rfl ?_
                    refine h_st rfl rfl ?_
                    refine h_st rfl rfl ?_
                    refine h_st rfl rfl ?_
                    refine h_st rfl rfl ?_
                    refine h_st rfl rfl ?_
                    refine h_ci8 rfl (Nat.le_of_ble_eq_true rfl) (e_rcv h.2.1) rfl (by rw [show (fun x y => x - y) (nI s9) 39 = nI (s9 - 39) from em0, show (fun x y => x &&& y) x 65535 = nI p9 from ep9]; exact pI_and (r_103 h hP (by decide) em ⟨hs64, by omega⟩) (r_103w h hfree em)) (fun σ1 v1 hq => ?_)
                    obtain ⟨⟨f, F1, ev1, hf, h1, hP1, ag1⟩, f', F2, ev2, hf', huf, h2, hW⟩ := hq
                    have eff : f' = f := nI_inj (by omega) (by omega) (ev2.symm.trans ev1)
                    subst eff
                    subst ev1
                    replace hP1 := hP1.tr h1 h2
                    have e95 : (fu (fu F 196 (upd (F 196) f' 1)) 195 (upd (F 195) f' (nI s9))) 195 f' = nI s9 := by rw [fu_s, pk_us]
                    have hby : byt (ub (frc (nI a9) (nI e8) (nI l8) (nI (s9 - 39)) (nI p9) 0 0) (s9 - 5) (x &&& 255)) 200 := byt_ub (byt_ub (byt_ub byt_hdr))
                    have esel : cks s9 (chk s9 (ub (frc (nI a9) (nI e8) (nI l8) (nI (s9 - 39)) (nI p9) 0 0) (s9 - 5) (x &&& 255))) (ub (frc (nI a9) (nI e8) (nI l8) (nI (s9 - 39)) (nI p9) 0 0) (s9 - 5) (x &&& 255)) 4 = (bbf l8 e8 a9 s9 x).2 := by
                      have e1 := sel_eq (nt := nI a9) (e := nI e8) (l := nI l8) (pl := 0) (mo := 0) (len := s9 - 39) (q := p9) (m := 0) (dg := fun _ => 0) (s := x &&& 255) (by omega) hp9 (Nat.zero_le _)
                      rw [efs] at e1
                      unfold bbf sel
                      rw [ep9]
                      show _ = cks s9 (chk s9 (sel1 s9 (py (tel (bgn (nI l8) (nI e8) (nI a9) (nI (s9 - 39))) (nI p9) 0 0) (fun _ => 0) 0) (x &&& 255))) (sel1 s9 (py (tel (bgn (nI l8) (nI e8) (nI a9) (nI (s9 - 39))) (nI p9) 0 0) (fun _ => 0) 0) (x &&& 255)) 4
                      rw [e1]
                      rfl
                    refine h_st rfl rfl ?_
                    refine h_st rfl rfl ?_
                    refine h_st rfl rfl ?_
                    refine h_st rfl rfl ?_
                    refine h_st rfl rfl ?_
                    refine h_st rfl rfl ?_
                    refine h_cv3 rfl (Nat.le_of_ble_eq_true rfl) (e_rcv h2.2.1) rfl (pV_and (r_110 h2 hP1 rfl hf List.mem_cons_self (x &&& 255)) (r_110w h2 hW hf rfl e95 ⟨hs64, by omega⟩ (x &&& 255) hby)) (fun σ4 hq => ?_)
                    obtain ⟨⟨F4, h4, hP4, ag4⟩, F5, h5, hW5⟩ := hq
                    replace hP4 := hP4.tr h4 h5
                    rw [esel] at hW5
                    obtain ⟨hML5, hX5⟩ := hR.1.mk hf huf hW5 ⟨hs64, by omega⟩ (by rw [← esel]; exact byt_cks hby 4) (fun j _ => rfl)
                    have ag5 : ∀ q, q < 194 ∨ 196 < q → F5 q = F q := fun q hq => (hW5.1 q (by omega)).trans ((fu_n (by omega)).trans (fu_n (by omega)))
                    rw [show ((s9, (bbf l8 e8 a9 s9 x).2) : AF) = bbf l8 e8 a9 s9 x from rfl] at hX5
                    refine h_st rfl rfl ?_
                    refine h_st rfl rfl ?_
                    refine h_st rfl rfl ?_
                    refine h_st rfl rfl ?_
                    refine h_st rfl rfl ?_
                    refine h_st rfl rfl ?_
                    refine h_st rfl rfl ?_
                    refine h_st rfl rfl ?_
                    refine h_cv4 rfl (Nat.le_of_ble_eq_true rfl) (e_rcv h5.2.1) rfl (r_112m h5 hML5 hX5 (Nat.le_refl _) rfl hP4 ei hi24 0) (fun σ6 hq => ?_)
                    obtain ⟨F6, v6, h6, hP6, hML6, ag6, -⟩ := hq
                    have ag : ∀ q, q < 194 ∨ (198 < q ∧ q ≠ 213) → F6 q = F q := fun q hq => (ag6 q (by omega)).trans (ag5 q (by omega))
                    refine h_st rfl rfl ?_
                    exact h_rt rfl rfl (⟨_, _, rfl, Or.inl ⟨rfl, hok, by rw [hln]; exact hrm.mpr (Nat.lt_of_le_of_ne h16 (fun z => q9 (by rw [z]; rfl)))⟩, F6, v6, h6, hP6, by rw [eA]; exact ⟨hML6, hR.2.1.ag (fun q z1 z2 => ag q (by omega)), hR.2.2.ag (fun q hq => ag q (by omega)) rfl⟩⟩)
                  · refine h_st rfl rfl ?_
                    exact h_rt rfl rfl (⟨_, _, rfl, Or.inr ⟨rfl, fun z => by rw [hln] at z; exact absurd (hrm.mp z.2) (by rw [show (nL a (12 * a9 + e8)).1.length = 16 from nI_inj (by omega) (by decide) (Decidable.of_not_not q9)]; decide)⟩, F, v, h, hP, by rw [eA, enq_no (fun z => absurd (hrm.mp z) (by rw [show (nL a (12 * a9 + e8)).1.length = 16 from nI_inj (by omega) (by decide) (Decidable.of_not_not q9)]; decide)), setL_self rfl]; exact hR⟩)
end SY19
