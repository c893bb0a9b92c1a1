section RF7
variable {ra : ae_R} {d : Nat} {σ : ae_S}
theorem r_101at {σ0 : ae_S} {F0 Fx : Nat → Nat → Int32} {c u g n k : Int32} {P : ae_S × ae_O → Prop} (hx : ∀ (σ : ae_S) F x4, RS false σ0 F0 σ c u g F → RP F g [] [] → (∀ q, q < 185 → F q = Fx q) → hG ra (d + 6) 101 σ [some (.ref 176), some (.int n), some (.int k), some (.int (nI 8)), x4] [] 38 P) : ∀ (m j : Nat) (σ : ae_S) (F : Nat → Nat → Int32) (x4 : Option Value), j + m = 8 → RS false σ0 F0 σ c u g F → RP F g [] [] → (∀ q, q < 185 → F q = Fx q) → hG ra (d + 6) 101 σ [some (.ref 176), some (.int n), some (.int k), some (.int (nI j)), x4] [] 21 P := by
  intro m
  induction m with
  | zero =>
    intro j σ F x4 hj h hP hag
    have hj : j = 8 := by omega
    subst hj
    refine h_st rfl rfl ?_
    refine h_st rfl rfl ?_
    refine h_st rfl rfl ?_
    refine h_pc (if_pos (decide_eq_true (nI_le (Nat.le_refl 8) (by decide)))) ?_
    exact hx _ _ _ h hP hag
  | succ m ih =>
    intro j σ F x4 hj h hP hag
    have ih1 := fun σ F x4 => ih (j + 1) σ F x4 (by omega)
    simp only [← nI_1] at ih1
    refine h_st rfl rfl ?_
    refine h_st rfl rfl ?_
    refine h_st rfl rfl ?_
    refine h_pc (if_neg (fun z9 => (nI_ge (show j < 8 by omega) (by decide)) (of_decide_eq_true z9))) ?_
    refine h_st rfl rfl ?_
    refine h_st rfl rfl ?_
    refine h_cv2 rfl (Nat.le_of_ble_eq_true rfl) (e_rcv h.2.1) rfl (r_102t h hP (by decide) rfl (by omega)) (fun σ2 hq => ?_)
    obtain ⟨F2, h2, hP2, hs2⟩ := hq
    have ag2 : ∀ q, q < 185 → F2 q = F q := hs2.elim (fun z q _ => by rw [z.1]) (fun z => z.2.2.2.2.1)
    refine h_st rfl rfl ?_
    refine h_st rfl rfl ?_
    exact ih1 _ _ _ h2 hP2 (fun q hq => (ag2 q hq).trans (hag q hq))
theorem r_101bt {σ0 : ae_S} {F0 Fx : Nat → Nat → Int32} {c u g n k : Int32} {P : ae_S × ae_O → Prop} (hx : ∀ (σ : ae_S) F x4, RS true σ0 Fx σ c u g F → RP F g [] [] → hG ra (d + 6) 101 σ [some (.ref 176), some (.int n), some (.int k), some (.int (nI 24)), x4] [] 57 P) : ∀ (m j : Nat) (σ : ae_S) (F : Nat → Nat → Int32) (x4 : Option Value), j + m = 24 → RS true σ0 Fx σ c u g F → RP F g [] [] → hG ra (d + 6) 101 σ [some (.ref 176), some (.int n), some (.int k), some (.int (nI j)), x4] [] 40 P := by
  intro m
  induction m with
  | zero =>
    intro j σ F x4 hj h hP
    have hj : j = 24 := by omega
    subst hj
    refine h_st rfl rfl ?_
    refine h_st rfl rfl ?_
    refine h_st rfl rfl ?_
    refine h_pc (if_pos (decide_eq_true (nI_le (Nat.le_refl 24) (by decide)))) ?_
    exact hx _ _ _ h hP
  | succ m ih =>
    intro j σ F x4 hj h hP
    have ih1 := fun σ F x4 => ih (j + 1) σ F x4 (by omega)
    simp only [← nI_1] at ih1
    refine h_st rfl rfl ?_
    refine h_st rfl rfl ?_
    refine h_st rfl rfl ?_
    refine h_pc (if_neg (fun z9 => (nI_ge (show j < 24 by omega) (by decide)) (of_decide_eq_true z9))) ?_
    refine h_st rfl rfl ?_
    refine h_st rfl rfl ?_
    refine h_cv2 rfl (Nat.le_of_ble_eq_true rfl) (e_rcv h.2.1) rfl (r_114t h hP (by decide) rfl (by omega)) (fun σ2 hq => ?_)
    obtain ⟨F2, h2, hP2⟩ := hq
    refine h_st rfl rfl ?_
    refine h_st rfl rfl ?_
    exact ih1 _ _ _ h2 hP2
theorem r_101ct {σ0 : ae_S} {F0 Fx : Nat → Nat → Int32} {c u g n k : Int32} {P : ae_S × ae_O → Prop} (hx : ∀ (σ : ae_S) F x4, RS true σ0 Fx σ c u g F → RP F g [] [] → hG ra (d + 6) 101 σ [some (.ref 176), some (.int n), some (.int k), some (.int (nI 24)), x4] [] 76 P) : ∀ (m j : Nat) (σ : ae_S) (F : Nat → Nat → Int32) (x4 : Option Value), j + m = 24 → RS true σ0 Fx σ c u g F → RP F g [] [] → hG ra (d + 6) 101 σ [some (.ref 176), some (.int n), some (.int k), some (.int (nI j)), x4] [] 59 P := by
  intro m
  induction m with
  | zero =>
    intro j σ F x4 hj h hP
    have hj : j = 24 := by omega
    subst hj
    refine h_st rfl rfl ?_
    refine h_st rfl rfl ?_
    refine h_st rfl rfl ?_
    refine h_pc (if_pos (decide_eq_true (nI_le (Nat.le_refl 24) (by decide)))) ?_
    exact hx _ _ _ h hP
  | succ m ih =>
    intro j σ F x4 hj h hP
    have ih1 := fun σ F x4 => ih (j + 1) σ F x4 (by omega)
    simp only [← nI_1] at ih1
    refine h_st rfl rfl ?_
    refine h_st rfl rfl ?_
    refine h_st rfl rfl ?_
    refine h_pc (if_neg (fun z9 => (nI_ge (show j < 24 by omega) (by decide)) (of_decide_eq_true z9))) ?_
    refine h_st rfl rfl ?_
    refine h_st rfl rfl ?_
    refine h_cv2 rfl (Nat.le_of_ble_eq_true rfl) (e_rcv h.2.1) rfl (r_128t h hP rfl (by omega)) (fun σ2 hq => ?_)
    obtain ⟨F2, h2, hP2⟩ := hq
    refine h_st rfl rfl ?_
    refine h_st rfl rfl ?_
    exact ih1 _ _ _ h2 hP2
theorem r_101dt {σ0 : ae_S} {Fx : Nat → Nat → Int32} {c u g n k : Int32} {P : ae_S × ae_O → Prop} (hx : ∀ (σ : ae_S) F x4, RS true σ0 Fx σ c u g F → RP F g [] [] → hG ra (d + 6) 101 σ [some (.ref 176), some (.int n), some (.int k), some (.int (nI 16)), x4] [] 174 P) : ∀ (m j : Nat) (σ : ae_S) (F : Nat → Nat → Int32) (x4 : Option Value), j + m = 16 → RS true σ0 Fx σ c u g F → RP F g [] [] → hG ra (d + 6) 101 σ [some (.ref 176), some (.int n), some (.int k), some (.int (nI j)), x4] [] 78 P := by
  intro m
  induction m with
  | zero =>
    intro j σ F x4 hj h hP
    have hj : j = 16 := by omega
    subst hj
    refine h_st rfl rfl ?_
    refine h_st rfl rfl ?_
    refine h_st rfl rfl ?_
    refine h_pc (if_pos (decide_eq_true (nI_le (Nat.le_refl 16) (by decide)))) ?_
    exact hx _ _ _ h hP
  | succ m ih =>
    intro j σ F x4 hj h hP
    have ih1 := fun σ F x4 => ih (j + 1) σ F x4 (by omega)
    simp only [← nI_1] at ih1
    have ej : nI j - nI j / 8 * 8 = nI (j % 8) := pk_rem (a := j) (d := 8) (by omega) (by decide) (by decide)
    have hj8 : j % 8 < 8 := Nat.mod_lt _ (by decide)
    have hj16 : j < 16 := by omega
    refine h_st rfl rfl ?_
    refine h_st rfl rfl ?_
    refine h_st rfl rfl ?_
    refine h_pc (if_neg (fun z9 => (nI_ge (show j < 16 by omega) (by decide)) (of_decide_eq_true z9))) ?_
    refine h_st rfl rfl ?_
    refine h_st rfl (e_get h.2.1 rfl) ?_
    refine h_st rfl rfl ?_
    refine h_st rfl rfl ?_
    refine h_st rfl (e_dv (by decide)) ?_
    refine h_st rfl (q_ia h.a182 (ej) (hj8) (by decide)) ?_
    refine h_st rfl rfl ?_
    refine h_st rfl (e_get h.2.1 rfl) ?_
    refine h_st rfl rfl ?_
    refine h_st rfl rfl ?_
    refine h_st rfl (e_dv (by decide)) ?_
    refine h_st rfl (q_ia h.a181 (ej) (hj8) (by decide)) ?_
    refine h_st rfl rfl ?_
    refine h_st rfl rfl ?_
    refine h_st rfl rfl ?_
    refine h_st rfl rfl ?_
    refine h_st rfl rfl ?_
    refine h_st rfl (e_get h.2.1 rfl) ?_
    refine h_st rfl rfl ?_
    refine h_st rfl rfl ?_
    refine h_st rfl (e_dv (by decide)) ?_
    refine h_st rfl (q_ba h.a177 (ej) (hj8) (by decide)) ?_
    refine h_st rfl rfl ?_
    refine h_br (fun q1 => ?_) (fun q1 => ?_)
    · refine h_st rfl rfl ?_
      refine h_st rfl rfl ?_
      exact ih1 _ _ _ h hP
    · refine h_st rfl rfl ?_
      refine h_st rfl (e_get h.2.1 rfl) ?_
      refine h_st rfl rfl ?_
      refine h_st rfl rfl ?_
      refine h_st rfl (e_get h.2.1 rfl) ?_
      refine h_st rfl rfl ?_
      refine h_st rfl (q_ia h.a188 (rfl) (hj16) (by decide)) ?_
      refine h_st rfl rfl ?_
      refine h_st rfl (e_get h.2.1 rfl) ?_
      refine h_st rfl rfl ?_
      refine h_st rfl rfl ?_
      refine h_st rfl (e_dv (by decide)) ?_
      refine h_st rfl (q_ia h.a182 (ej) (hj8) (by decide)) ?_
      refine h_st rfl rfl ?_
      refine h_st rfl rfl ?_
      refine h_st rfl rfl ?_
      refine h_br (fun q2 => ?_) (fun q2 => ?_)
      · refine h_st rfl rfl ?_
        refine h_st rfl (e_get h.2.1 rfl) ?_
        refine h_st rfl rfl ?_
        refine h_st rfl (q_ia h.a188 (rfl) (hj16) (by decide)) ?_
        refine h_st rfl rfl ?_
        refine h_st rfl (e_get h.2.1 rfl) ?_
        refine h_st rfl rfl ?_
        refine h_st rfl rfl ?_
        refine h_st rfl (e_dv (by decide)) ?_
        refine h_st rfl (q_ia h.a182 (ej) (hj8) (by decide)) ?_
        refine h_st rfl rfl ?_
        refine r_ias rfl h m188 (fun _ => by decide) (by decide) (rfl) (hj16) (rfl) (fun σ2 h2 => ?_)
        replace h := h2
        clear h2
        refine h_st rfl rfl ?_
        refine h_st rfl rfl ?_
        exact ih1 _ _ _ h (hP.fo (by decide))
      · refine h_st rfl rfl ?_
        refine h_st rfl rfl ?_
        refine r_ias rfl h m188 (fun _ => by decide) (by decide) (rfl) (hj16) (rfl) (fun σ2 h2 => ?_)
        replace h := h2
        clear h2
        refine h_st rfl rfl ?_
        refine h_st rfl rfl ?_
        exact ih1 _ _ _ h (hP.fo (by decide))
theorem r_101lt {σ0 : ae_S} {F0 Fx : Nat → Nat → Int32} {u g : Int32} {N : Nat} (hN : N ≤ 2000) : ∀ (m k : Nat) (σ : ae_S) (F : Nat → Nat → Int32) (x3 x4 : Option Value), k + m = N → RS false σ0 F0 σ 0 (u + nI k) g F → RP F g [] [] → (∀ q, q < 185 → F q = Fx q) → hG ra (d + 6) 101 σ [some (.ref 176), some (.int (nI N)), some (.int (nI k)), x3, x4] [] 7 (pI (fun σ' v => v = u + nI N ∧ ∃ F', RS false σ0 F0 σ' 0 (u + nI N) g F' ∧ RP F' g [] [] ∧ ∀ q, q < 185 → F' q = Fx q)) := by
  intro m
  induction m with
  | zero =>
    intro k σ F x3 x4 hk h hP hag
    have hk : k = N := by omega
    subst hk
    refine h_st rfl rfl ?_
    refine h_st rfl rfl ?_
    refine h_st rfl rfl ?_
    refine h_pc (if_pos (decide_eq_true (nI_le (Nat.le_refl _) (by omega)))) ?_
    refine h_st rfl rfl ?_
    refine h_st rfl (e_get h.2.1 rfl) ?_
    exact h_rt rfl rfl (⟨_, _, rfl, rfl, F, h, hP, hag⟩)
  | succ m ih =>
    intro k σ F x3 x4 hk h hP hag
    have ih1 := fun σ F x3 x4 => ih (k + 1) σ F x3 x4 (by omega)
    simp only [← nI_1] at ih1
    have eb : u + nI k + 1 = u + (nI k + 1) := Int32.add_assoc _ _ _
    refine h_st rfl rfl ?_
    refine h_st rfl rfl ?_
    refine h_st rfl rfl ?_
    refine h_pc (if_neg (fun z9 => (nI_ge (show k < N by omega) (by omega)) (of_decide_eq_true z9))) ?_
    refine h_st rfl rfl ?_
    refine h_st rfl rfl ?_
    refine h_st rfl rfl ?_
    refine h_pc (if_neg (fun z9 => (show ¬ (2000 : Int32) < nI N from Int32.not_lt.mpr (nI_le (b := 2000) hN (by decide))) (of_decide_eq_true z9))) ?_
    refine h_st rfl rfl ?_
    refine h_st rfl rfl ?_
    refine r_101at (F0 := F0) (Fx := Fx) (fun σ F1 x4 h hP hag => ?_) 8 0 _ _ _ rfl h hP hag
    refine h_st rfl rfl ?_
    refine h_st rfl rfl ?_
    refine r_101bt (F0 := F0) (Fx := F1) (fun σ F2 x4 h hP => ?_) 24 0 _ _ _ rfl h.base hP
    refine h_st rfl rfl ?_
    refine h_st rfl rfl ?_
    refine r_101ct (F0 := F0) (Fx := F1) (fun σ F3 x4 h hP => ?_) 24 0 _ _ _ rfl h hP
    refine h_st rfl rfl ?_
    refine h_st rfl rfl ?_
    refine r_101dt (Fx := F1) (fun σ F4 x4 h hP => ?_) 16 0 _ _ _ rfl h hP
    have hag4 : ∀ q, q < 185 → F4 q = Fx q := fun q hq => (h.2.2.2 rfl q (by omega) (by omega)).trans (hag q hq)
    refine h_st rfl rfl ?_
    refine h_st rfl rfl ?_
    refine h_st rfl (e_get h.2.1 rfl) ?_
    refine h_st rfl rfl ?_
    refine h_st rfl rfl ?_
    refine r_put rfl h rfl (Nat.le_of_ble_eq_true rfl) rfl (fun σ2 h2 => ?_)
    replace h := h2
    clear h2
    replace h : RS true σ0 F1 σ2 0 (u + (nI k + 1)) g F4 := by rw [← eb]; exact h
    refine h_st rfl rfl ?_
    refine h_st rfl rfl ?_
    exact ih1 _ _ _ _ h.fls hP hag4
theorem r_101tt {b : Bool} {σ0 : ae_S} {F0 F : Nat → Nat → Int32} {c u g : Int32} (h : RS b σ0 F0 σ c u g F) (hP : RP F g [] []) (x : Int32) : hE ra (d + 7) 101 [.ref 176, .int x] σ (pI (fun σ' v => v = u + (if x < 0 ∨ 2000 < x then (0 : Int32) else x) ∧ ∃ F', RS false σ0 F σ' 0 (u + (if x < 0 ∨ 2000 < x then (0 : Int32) else x)) g F' ∧ RP F' g [] [] ∧ ∀ q, q < 185 → F' q = F q)) := by
  have e0 : u + nI 0 = u := by rw [nI_0, Int32.add_zero]
  have hfl : RS false σ0 F σ c u g F := h.fls
  replace h := hfl
  clear hfl
  refine h_in rfl rfl (Nat.le_of_ble_eq_true rfl) ?_
  refine h_st rfl rfl ?_
  refine h_st rfl rfl ?_
  refine r_put rfl h rfl (Nat.le_of_ble_eq_true rfl) rfl (fun σ2 h2 => ?_)
  replace h := h2
  clear h2
  refine h_st rfl rfl ?_
  refine h_st rfl rfl ?_
  by_cases hc : x < 0 ∨ 2000 < x
  · rw [if_pos hc, Int32.add_zero]
    rcases hc with hc | hc
    · refine h_st rfl rfl ?_
      refine h_st rfl rfl ?_
      refine h_st rfl rfl ?_
      refine h_pc (if_pos (decide_eq_true (show x ≤ 0 from Int32.le_of_lt hc))) ?_
      refine h_st rfl rfl ?_
      refine h_st rfl (e_get h.2.1 rfl) ?_
      exact h_rt rfl rfl (⟨_, _, rfl, rfl, F, h, hP, fun _ _ => rfl⟩)
    · refine h_st rfl rfl ?_
      refine h_st rfl rfl ?_
      refine h_st rfl rfl ?_
      refine h_pc (if_neg (fun z9 => (show ¬ x ≤ 0 from Int32.not_le.mpr (Int32.lt_trans (by decide) hc)) (of_decide_eq_true z9))) ?_
      refine h_st rfl rfl ?_
      refine h_st rfl rfl ?_
      refine h_st rfl rfl ?_
      refine h_pc (if_pos (decide_eq_true (hc))) ?_
      refine h_st rfl rfl ?_
      refine h_st rfl (e_get h.2.1 rfl) ?_
      exact h_rt rfl rfl (⟨_, _, rfl, rfl, F, h, hP, fun _ _ => rfl⟩)
  · rw [if_neg hc]
    obtain ⟨N, hN, rfl⟩ := nI_of2 (x := x) (M := 2000) (n := 2000) (by decide) (fun z => hc (Or.inl z)) (Int32.not_lt.mp (fun z => hc (Or.inr z)))
    rw [← e0] at h
    refine r_101lt hN N 0 _ _ _ _ (Nat.zero_add _) h hP (fun _ _ => rfl)
theorem r_131t {b : Bool} {σ0 : ae_S} {F0 F : Nat → Nat → Int32} {c u g : Int32} (h : RS b σ0 F0 σ c u g F) (hg : rg g 993) (x : Int32) : hE ra (d + 1) 131 [.ref 176, .int x] σ (pI (fun σ' v => RS b σ0 F0 σ' 0 u g F)) := by
  obtain ⟨gn, hgn, rfl⟩ := hg
  refine h_in rfl rfl (Nat.le_of_ble_eq_true rfl) ?_
  refine h_st rfl rfl ?_
  refine h_st rfl rfl ?_
  refine r_put rfl h rfl (Nat.le_of_ble_eq_true rfl) rfl (fun σ2 h2 => ?_)
  replace h := h2
  clear h2
  refine h_st rfl rfl ?_
  refine h_st rfl rfl ?_
  refine h_br (fun q1 => ?_) (fun q1 => ?_)
  · refine h_st rfl rfl ?_
    refine h_st rfl rfl ?_
    exact h_rt rfl rfl (⟨_, _, rfl, h⟩)
  · refine h_st rfl rfl ?_
    refine h_st rfl rfl ?_
    refine h_st rfl (e_get h.2.1 rfl) ?_
    refine h_st rfl rfl ?_
    refine h_br (fun q2 => ?_) (fun q2 => ?_)
    · obtain ⟨j, hj, rfl⟩ := i_ix (x := x) (n := gn) (by omega) q1 (Int32.not_le.mpr q2)
      refine h_st rfl rfl ?_
      refine h_st rfl (e_get h.2.1 rfl) ?_
      refine h_st rfl rfl ?_
      refine h_st rfl (q_ia h.a214 (rfl) (by omega) (by decide)) ?_
      exact h_rt rfl rfl (⟨_, _, rfl, h⟩)
    · refine h_st rfl rfl ?_
      refine h_st rfl rfl ?_
      exact h_rt rfl rfl (⟨_, _, rfl, h⟩)
theorem r_132t {b : Bool} {σ0 : ae_S} {F0 F : Nat → Nat → Int32} {c u g : Int32} (h : RS b σ0 F0 σ c u g F) (e9 l9 : Int32) : hE ra (d + 3) 132 [.ref 176, .int e9, .int l9] σ (pI (fun σ' v => RS b σ0 F0 σ' 0 u g F)) := by
  refine h_in rfl rfl (Nat.le_of_ble_eq_true rfl) ?_
  refine h_st rfl rfl ?_
  refine h_st rfl rfl ?_
  refine r_put rfl h rfl (Nat.le_of_ble_eq_true rfl) rfl (fun σ2 h2 => ?_)
  replace h := h2
  clear h2
  refine h_st rfl rfl ?_
  refine h_st rfl rfl ?_
  refine h_st rfl rfl ?_
  refine h_ci3 rfl (Nat.le_of_ble_eq_true rfl) (e_rcv h.2.1) rfl (r_119t h e9 l9) (fun σ' y7 hq => ?_)
  obtain ⟨hss, hv7⟩ := hq
  replace hss := hss.symm
  subst hss
  refine h_st rfl rfl ?_
  refine h_br (fun q1 => ?_) (fun q1 => ?_)
  · obtain ⟨-, ⟨l, hl, el, hil⟩, ke, hke, eke⟩ := hv7.resolve_left q1
    have ek : (8 : Int32) * e9 + l9 = nI (8 * ke + l) := by rw [eke, el, show (8 : Int32) = nI 8 from rfl, pk_mul, nI_add]
    refine h_st rfl rfl ?_
    refine h_st rfl rfl ?_
    refine h_st rfl rfl ?_
    refine h_st rfl rfl ?_
    refine h_st rfl rfl ?_
    refine h_st rfl rfl ?_
    refine h_st rfl rfl ?_
    refine h_st rfl (e_get h.2.1 rfl) ?_
    refine h_st rfl rfl ?_
    refine h_st rfl (q_ba h.a179 (el) (hl) (by decide)) ?_
    refine h_st rfl rfl ?_
    refine h_br (fun q2 => ?_) (fun q2 => ?_)
    · refine h_st rfl rfl ?_
      refine h_st rfl (e_get h.2.1 rfl) ?_
      refine h_st rfl rfl ?_
      refine h_st rfl (q_ia h.a209 (ek) (by omega) (by decide)) ?_
      refine h_st rfl rfl ?_
      refine h_br (fun q3 => ?_) (fun q3 => ?_)
      · refine h_st rfl rfl ?_
        refine h_st rfl (e_get h.2.1 rfl) ?_
        refine h_st rfl rfl ?_
        refine h_st rfl (e_get h.2.1 rfl) ?_
        refine h_st rfl rfl ?_
        refine h_st rfl (q_ia h.a212 (ek) (by omega) (by decide)) ?_
        refine h_st rfl rfl ?_
        exact h_rt rfl rfl (⟨_, _, rfl, h⟩)
      · refine h_st rfl rfl ?_
        refine h_st rfl rfl ?_
        exact h_rt rfl rfl (⟨_, _, rfl, h⟩)
    · refine h_st rfl rfl ?_
      refine h_st rfl (e_get h.2.1 rfl) ?_
      refine h_st rfl rfl ?_
      refine h_st rfl (q_ia h.a209 (ek) (by omega) (by decide)) ?_
      refine h_st rfl rfl ?_
      exact h_rt rfl rfl (⟨_, _, rfl, h⟩)
  · refine h_st rfl rfl ?_
    exact h_rt rfl rfl (⟨_, _, rfl, h⟩)
theorem and_nn (x : Int32) : ¬ (x &&& 2147483647) < 0 := by
  obtain ⟨k, hk, ek⟩ : rg (x &&& 2147483647) (2 ^ 31) := by
    apply rg_bv
    rw [Int32.toBitVec_and, BitVec.toNat_and]
    exact Nat.lt_of_le_of_lt Nat.and_le_right (by decide)
  rw [ek]
  exact Int32.not_lt.mpr (nI_le (a := 0) (Nat.zero_le _) hk)
theorem GH.u1 {hp hm : Nat → Int32} {k : Nat} {x : Int32} (h : GH hp hm) (hx : ¬ x < 0) : GH (upd hp k x) hm := by
  intro i hi
  refine ⟨?_, (h i hi).2⟩
  by_cases e : i = k
  · rw [e, pk_us]
    exact hx
  · rw [pk_un e]
    exact (h i hi).1
theorem GH.u2 {hp hm : Nat → Int32} {k : Nat} {x : Int32} (h : GH hp hm) (hx : rg x 256) : GH hp (upd hm k x) := by
  intro i hi
  refine ⟨(h i hi).1, ?_⟩
  by_cases e : i = k
  · rw [e, pk_us]
    exact Or.inr hx
  · rw [pk_un e]
    exact (h i hi).2
theorem ix12 {n l : Int32} (h : ((¬ n < 0 ∧ ¬ 2 ≤ n) ∧ ¬ l < 0 ∧ ¬ 12 ≤ l)) : ∃ a c, a < 2 ∧ c < 12 ∧ n = nI a ∧ l = nI c ∧ (12 : Int32) * n + l = nI (12 * a + c) := by
  obtain ⟨a, ha, rfl⟩ := i_ix (n := 2) (by decide) h.1.1 h.1.2
  obtain ⟨c, hc, rfl⟩ := i_ix (n := 12) (by decide) h.2.1 h.2.2
  exact ⟨a, c, ha, hc, rfl, rfl, by rw [show (12 : Int32) = nI 12 from rfl, pk_mul, nI_add]⟩
theorem r_133t {b : Bool} {σ0 : ae_S} {F0 F : Nat → Nat → Int32} {c u g : Int32} (h : RS b σ0 F0 σ c u g F) (hP : RP F g [] []) (n l pl mk : Int32) : hE ra (d + 2) 133 [.ref 176, .int n, .int l, .int pl, .int mk] σ (pI (fun σ' x => (∃ F', RS b σ0 F0 σ' 0 u g F' ∧ RP F' g [] []) ∧ ((x = 1 ∧ (((¬ n < 0 ∧ ¬ 2 ≤ n) ∧ ¬ l < 0 ∧ ¬ 12 ≤ l) ∧ ¬ mk < 0 ∧ mk ≤ 255)) ∨ (x = 0 ∧ ¬ (((¬ n < 0 ∧ ¬ 2 ≤ n) ∧ ¬ l < 0 ∧ ¬ 12 ≤ l) ∧ ¬ mk < 0 ∧ mk ≤ 255))))) := by
  refine h_in rfl rfl (Nat.le_of_ble_eq_true rfl) ?_
  refine h_st rfl rfl ?_
  refine h_st rfl rfl ?_
  refine r_put rfl h rfl (Nat.le_of_ble_eq_true rfl) rfl (fun σ2 h2 => ?_)
  replace h := h2
  clear h2
  refine h_st rfl rfl ?_
  refine h_st rfl rfl ?_
  refine h_ci2 rfl (Nat.le_of_ble_eq_true rfl) rfl rfl (r_134 n l) (fun σ' b1 hq => ?_)
  obtain ⟨hss, hb1⟩ := hq
  replace hss := hss.symm
  subst hss
  refine h_st rfl rfl ?_
  refine h_br (fun q1 => ?_) (fun q1 => ?_)
  · refine h_st rfl rfl ?_
    exact h_rt rfl rfl (⟨_, _, rfl, ⟨F, h, hP⟩, Or.inr ⟨rfl, fun z => absurd q1 (b_1 hb1 z.1)⟩⟩)
  · refine h_st rfl rfl ?_
    refine h_st rfl rfl ?_
    refine h_br (fun q2 => ?_) (fun q2 => ?_)
    · refine h_st rfl rfl ?_
      exact h_rt rfl rfl (⟨_, _, rfl, ⟨F, h, hP⟩, Or.inr ⟨rfl, fun z => z.2.1 q2⟩⟩)
    · refine h_st rfl rfl ?_
      refine h_st rfl rfl ?_
      refine h_st rfl rfl ?_
      refine h_br (fun q3 => ?_) (fun q3 => ?_)
      · have hln := b_2 hb1 q1
        obtain ⟨a9, c9, ha, hc9, en, el, ei⟩ := ix12 hln
        obtain ⟨mk9, hmk9, emk⟩ := nI_of2 (x := mk) (M := 255) (n := 255) (by decide) q2 q3
        refine h_st rfl rfl ?_
        refine h_st rfl (e_get h.2.1 rfl) ?_
        refine h_st rfl rfl ?_
        refine h_st rfl rfl ?_
        refine h_st rfl rfl ?_
        refine h_st rfl rfl ?_
        refine h_st rfl rfl ?_
        refine h_st rfl rfl ?_
        refine h_st rfl rfl ?_
        refine h_st rfl rfl ?_
        refine r_ias rfl h m201 (fun _ => by decide) (by decide) (ei) (by omega) (rfl) (fun σ2 h2 => ?_)
        replace h := h2
        clear h2
        replace hP := hP.h1 (hP.2.2.2.2.1.u1 (k := 12 * a9 + c9) (and_nn pl))
        refine h_st rfl rfl ?_
        refine h_st rfl (e_get h.2.1 rfl) ?_
        refine h_st rfl rfl ?_
        refine h_st rfl rfl ?_
        refine h_st rfl rfl ?_
        refine h_st rfl rfl ?_
        refine h_st rfl rfl ?_
        refine h_st rfl rfl ?_
        refine r_ias rfl h m202 (fun _ => by decide) (by decide) (ei) (by omega) (rfl) (fun σ2 h2 => ?_)
        replace h := h2
        clear h2
        replace hP := hP.h2 (hP.2.2.2.2.1.u2 (k := 12 * a9 + c9) (x := mk) ⟨mk9, by omega, emk⟩)
        refine h_st rfl rfl ?_
        exact h_rt rfl rfl (⟨_, _, rfl, ⟨_, h, hP⟩, Or.inl ⟨rfl, hln, q2, q3⟩⟩)
      · refine h_st rfl rfl ?_
        exact h_rt rfl rfl (⟨_, _, rfl, ⟨F, h, hP⟩, Or.inr ⟨rfl, fun z => q3 z.2.2⟩⟩)
theorem r_135t {b : Bool} {σ0 : ae_S} {F0 F : Nat → Nat → Int32} {c u g : Int32} (h : RS b σ0 F0 σ c u g F) (hP : RP F g [] []) (n e9 l sz x : Int32) : hE ra (d + 5) 135 [.ref 176, .int n, .int e9, .int l, .int sz, .int x] σ (pI (fun σ' v => ∃ F', RS b σ0 F0 σ' 0 u g F' ∧ RP F' g [] [] ∧ ∀ q, q < 194 → F' q = F q)) := by
  refine h_in rfl rfl (Nat.le_of_ble_eq_true rfl) ?_
  refine h_st rfl rfl ?_
  refine h_st rfl rfl ?_
  refine r_put rfl h rfl (Nat.le_of_ble_eq_true rfl) rfl (fun σ2 h2 => ?_)
  replace h := h2
  clear h2
  refine h_st rfl rfl ?_
  refine h_st rfl rfl ?_
  refine h_br (fun q1 => ?_) (fun q1 => ?_)
  · refine h_st rfl rfl ?_
    exact h_rt rfl rfl (⟨_, _, rfl, F, h, hP, fun _ _ => rfl⟩)
  · refine h_st rfl rfl ?_
    refine h_st rfl rfl ?_
    refine h_st rfl rfl ?_
    refine h_br (fun q2 => ?_) (fun q2 => ?_)
    · refine h_st rfl rfl ?_
      exact h_rt rfl rfl (⟨_, _, rfl, F, h, hP, fun _ _ => rfl⟩)
    · refine h_st rfl rfl ?_
      refine h_st rfl rfl ?_
      refine h_br (fun q3 => ?_) (fun q3 => ?_)
      · refine h_st rfl rfl ?_
        exact h_rt rfl rfl (⟨_, _, rfl, F, h, hP, fun _ _ => rfl⟩)
      · refine h_st rfl rfl ?_
        refine h_st rfl rfl ?_
        refine h_st rfl rfl ?_
        refine h_br (fun q4 => ?_) (fun q4 => ?_)
        · refine h_st rfl rfl ?_
          exact h_rt rfl rfl (⟨_, _, rfl, F, h, hP, fun _ _ => rfl⟩)
        · refine h_st rfl rfl ?_
          refine h_st rfl rfl ?_
          refine h_br (fun q5 => ?_) (fun q5 => ?_)
          · refine h_st rfl rfl ?_
            exact h_rt rfl rfl (⟨_, _, rfl, F, h, hP, fun _ _ => rfl⟩)
          · refine h_st rfl rfl ?_
            refine h_st rfl rfl ?_
            refine h_st rfl rfl ?_
            refine h_br (fun q6 => ?_) (fun q6 => ?_)
            · refine h_st rfl rfl ?_
              exact h_rt rfl rfl (⟨_, _, rfl, F, h, hP, fun _ _ => rfl⟩)
            · refine h_st rfl rfl ?_
              refine h_st rfl rfl ?_
              refine h_st rfl rfl ?_
              refine h_br (fun q7 => ?_) (fun q7 => ?_)
              · refine h_st rfl rfl ?_
                exact h_rt rfl rfl (⟨_, _, rfl, F, h, hP, fun _ _ => rfl⟩)
              · refine h_st rfl rfl ?_
                refine h_st rfl rfl ?_
                refine h_st rfl rfl ?_
                refine h_br (fun q8 => ?_) (fun q8 => ?_)
                · refine h_st rfl rfl ?_
                  exact h_rt rfl rfl (⟨_, _, rfl, F, h, hP, fun _ _ => rfl⟩)
                · obtain ⟨a9, ha9, en⟩ := nI_of2 (x := n) (M := 1) (n := 1) (by decide) q1 (Int32.not_lt.mp q2)
                  obtain ⟨e8, he8, ee⟩ := nI_of2 (x := e9) (M := 3) (n := 3) (by decide) q3 (Int32.not_lt.mp q4)
                  obtain ⟨s9, hs9, es⟩ := nI_of2 (x := sz) (M := 200) (n := 200) (by decide) (fun z => q7 (Int32.lt_trans z (by decide))) (Int32.not_lt.mp q8)
                  have hs64 : 64 ≤ s9 := Nat.le_of_not_lt (fun z => q7 (by rw [es]; exact (nI_ltI (by omega) (by decide)).mpr z))
                  have ei : (12 : Int32) * n + e9 = nI (12 * a9 + e8) := by rw [en, ee, show (12 : Int32) = nI 12 from rfl, pk_mul, nI_add]
                  have ej : (2 : Int32) * (12 * n + e9) = nI (2 * (12 * a9 + e8)) := by rw [ei, show (2 : Int32) = nI 2 from rfl, pk_mul]
                  have em : (if 64 ≤ sz - 39 + 39 then sz - 39 + 39 else 64) = nI s9 := by rw [Int32.sub_add_cancel, es, if_pos (show (64 : Int32) ≤ nI s9 from nI_le (a := 64) hs64 (by omega))]
                  refine h_st rfl rfl ?_
                  refine h_st rfl (e_get h.2.1 rfl) ?_
                  refine h_st rfl rfl ?_
                  refine h_st rfl rfl ?_
                  refine h_st rfl rfl ?_
                  refine h_st rfl rfl ?_
                  refine h_st rfl rfl ?_
                  refine h_st rfl rfl ?_
                  refine h_st rfl rfl ?_
                  refine h_st rfl (q_ia h.a198 (ej) (by omega) (by decide)) ?_
                  refine h_st rfl rfl ?_
                  refine h_st rfl rfl ?_
                  refine h_br (fun q9 => ?_) (fun q9 => ?_)
                  · refine h_st rfl rfl ?_
                    refine h_st rfl rfl ?_
                    refine h_st rfl rfl ?_
                    refine h_st rfl rfl ?_
                    refine h_st rfl rfl ?_
                    refine h_st rfl rfl ?_
                    refine h_st rfl rfl ?_
                    refine h_st rfl rfl ?_
                    refine h_st rfl rfl ?_
                    refine h_st rfl rfl ?_
                    refine h_st rfl rfl ?_
                    refine h_st rfl rfl ?_
                    refine h_ci8 rfl (Nat.le_of_ble_eq_true rfl) (e_rcv h.2.1) rfl (r_103 h hP (by decide) em ⟨hs64, by omega⟩) (fun σ1 v1 hq => ?_)
                    obtain ⟨f, F1, rfl, hf, h1, hP1, ag1⟩ := hq
                    refine h_st rfl rfl ?_
                    refine h_st rfl rfl ?_
                    refine h_st rfl rfl ?_
                    refine h_st rfl rfl ?_
                    refine h_st rfl rfl ?_
                    refine h_st rfl rfl ?_
                    refine h_cv3 rfl (Nat.le_of_ble_eq_true rfl) (e_rcv h1.2.1) rfl (r_110 h1 hP1 rfl hf List.mem_cons_self _) (fun σ3 hq => ?_)
                    obtain ⟨F3, h3, hP3, ag3⟩ := hq
                    refine h_st rfl rfl ?_
                    refine h_st rfl rfl ?_
                    refine h_st rfl rfl ?_
                    refine h_st rfl rfl ?_
                    refine h_st rfl rfl ?_
                    refine h_st rfl rfl ?_
                    refine h_st rfl rfl ?_
                    refine h_st rfl rfl ?_
                    refine h_cv4 rfl (Nat.le_of_ble_eq_true rfl) (e_rcv h3.2.1) rfl (r_112 h3 rfl hf hP3 ei (by omega) _) (fun σ4 hq => ?_)
                    obtain ⟨F4, h4, hP4, ag4⟩ := hq
                    refine h_st rfl rfl ?_
                    exact h_rt rfl rfl (⟨_, _, rfl, F4, h4, hP4, fun q hq => (ag4 q (by omega)).trans ((ag3 q (by omega)).trans (ag1 q (by omega)))⟩)
                  · refine h_st rfl rfl ?_
                    exact h_rt rfl rfl (⟨_, _, rfl, F, h, hP, fun _ _ => rfl⟩)
theorem i_m1 {k : Int32} (h : k < 0) (h1 : ¬ k = -1) : k < -1 := by
  rw [Int32.lt_iff_toInt_lt] at h ⊢
  have e0 : (0 : Int32).toInt = 0 := by decide
  have e1 : (-1 : Int32).toInt = -1 := by decide
  have e2 : k.toInt ≠ -1 := fun z => h1 (Int32.toInt_inj.mp (z.trans e1.symm))
  omega
theorem r_136t {b : Bool} {σ0 : ae_S} {F0 F : Nat → Nat → Int32} {c u g : Int32} (h : RS b σ0 F0 σ c u g F) (hP : RP F g [] []) (n l k : Int32) : hE ra (d + 2) 136 [.ref 176, .int n, .int l, .int k] σ (pI (fun σ' v => RS b σ0 F0 σ' 0 u g F)) := by
  refine h_in rfl rfl (Nat.le_of_ble_eq_true rfl) ?_
  refine h_st rfl rfl ?_
  refine h_st rfl rfl ?_
  refine r_put rfl h rfl (Nat.le_of_ble_eq_true rfl) rfl (fun σ2 h2 => ?_)
  replace h := h2
  clear h2
  refine h_st rfl rfl ?_
  refine h_st rfl rfl ?_
  refine h_ci2 rfl (Nat.le_of_ble_eq_true rfl) rfl rfl (r_134 n l) (fun σ' b1 hq => ?_)
  obtain ⟨hss, hb1⟩ := hq
  replace hss := hss.symm
  subst hss
  refine h_st rfl rfl ?_
  refine h_br (fun q1 => ?_) (fun q1 => ?_)
  · obtain ⟨a9, c9, ha, hc9, en, el, ei⟩ := ix12 (b_2 hb1 q1)
    have hi24 : 12 * a9 + c9 < 24 := by omega
    rcases hP.2.2.2.1.2.1 (12 * a9 + c9) hi24 with ho | ⟨f, hf, ho⟩
    · refine h_st rfl rfl ?_
      refine h_st rfl (e_get h.2.1 rfl) ?_
      refine h_st rfl rfl ?_
      refine h_st rfl rfl ?_
      refine h_st rfl rfl ?_
      refine h_st rfl rfl ?_
      refine h_st rfl rfl ?_
      refine h_st rfl (q_iaE h.a199 (ei) (hi24) (by decide) (ho)) ?_
      refine h_st rfl rfl ?_
      refine h_st rfl rfl ?_
      refine h_st rfl rfl ?_
      refine h_st rfl rfl ?_
      refine h_pc (if_pos (by decide)) ?_
      refine h_st rfl rfl ?_
      exact h_rt rfl rfl (⟨_, _, rfl, h⟩)
    · obtain ⟨sz9, z1, z2, hz⟩ := hP.2.2.2.1.2.2.1 f hf (Or.inl (Or.inr ⟨_, hi24, ho⟩))
      refine h_st rfl rfl ?_
      refine h_st rfl (e_get h.2.1 rfl) ?_
      refine h_st rfl rfl ?_
      refine h_st rfl rfl ?_
      refine h_st rfl rfl ?_
      refine h_st rfl rfl ?_
      refine h_st rfl rfl ?_
      refine h_st rfl (q_iaE h.a199 (ei) (hi24) (by decide) (ho)) ?_
      refine h_st rfl rfl ?_
      refine h_st rfl rfl ?_
      refine h_st rfl rfl ?_
      refine h_st rfl rfl ?_
      refine h_pc (if_neg (fun z9 => (nI_nm1 (by omega)) (of_decide_eq_true z9))) ?_
      refine h_st rfl rfl ?_
      refine h_st rfl rfl ?_
      refine h_st rfl rfl ?_
      refine h_br (fun q2 => ?_) (fun q2 => ?_)
      · refine h_st rfl rfl ?_
        exact h_rt rfl rfl (⟨_, _, rfl, h⟩)
      · refine h_st rfl rfl ?_
        refine h_st rfl rfl ?_
        refine h_st rfl (e_get h.2.1 rfl) ?_
        refine h_st rfl rfl ?_
        refine h_st rfl (q_iaE h.a195 (rfl) (hf) (by decide) (hz)) ?_
        refine h_st rfl rfl ?_
        refine h_br (fun q3 => ?_) (fun q3 => ?_)
        · refine h_st rfl rfl ?_
          refine h_st rfl rfl ?_
          refine h_st rfl rfl ?_
          refine h_br (fun q4 => ?_) (fun q4 => ?_)
          · have k0 : ¬ k < 0 := fun z => q2 (i_m1 z q4)
            obtain ⟨j, hj, ej⟩ := i_ix (x := k) (n := sz9) (by omega) k0 (Int32.not_le.mpr q3)
            refine h_st rfl rfl ?_
            refine h_st rfl rfl ?_
            refine h_st rfl rfl ?_
            refine h_ci3 rfl (Nat.le_of_ble_eq_true rfl) (e_rcv h.2.1) rfl (r_108 h (rfl) (hf) (ej) (by omega)) (fun σ' y hq => ?_)
            obtain ⟨hss, rfl⟩ := hq
            replace hss := hss.symm
            subst hss
            exact h_rt rfl rfl (⟨_, _, rfl, h⟩)
          · refine h_st rfl rfl ?_
            refine h_st rfl (e_get h.2.1 rfl) ?_
            refine h_st rfl rfl ?_
            refine h_st rfl (q_ia h.a195 (rfl) (hf) (by decide)) ?_
            refine h_st rfl rfl ?_
            exact h_rt rfl rfl (⟨_, _, rfl, h⟩)
        · refine h_st rfl rfl ?_
          exact h_rt rfl rfl (⟨_, _, rfl, h⟩)
  · refine h_st rfl rfl ?_
    exact h_rt rfl rfl (⟨_, _, rfl, h⟩)
theorem r_137t {b : Bool} {σ0 : ae_S} {F0 F : Nat → Nat → Int32} {c u g : Int32} (h : RS b σ0 F0 σ c u g F) (n l wh : Int32) : hE ra (d + 2) 137 [.ref 176, .int n, .int l, .int wh] σ (pI (fun σ' v => RS b σ0 F0 σ' 0 u g F)) := by
  refine h_in rfl rfl (Nat.le_of_ble_eq_true rfl) ?_
  refine h_st rfl rfl ?_
  refine h_st rfl rfl ?_
  refine r_put rfl h rfl (Nat.le_of_ble_eq_true rfl) rfl (fun σ2 h2 => ?_)
  replace h := h2
  clear h2
  refine h_st rfl rfl ?_
  refine h_st rfl rfl ?_
  refine h_ci2 rfl (Nat.le_of_ble_eq_true rfl) rfl rfl (r_134 n l) (fun σ' b1 hq => ?_)
  obtain ⟨hss, hb1⟩ := hq
  replace hss := hss.symm
  subst hss
  refine h_st rfl rfl ?_
  refine h_br (fun q1 => ?_) (fun q1 => ?_)
  · refine h_st rfl rfl ?_
    refine h_st rfl rfl ?_
    exact h_rt rfl rfl (⟨_, _, rfl, h⟩)
  · refine h_st rfl rfl ?_
    refine h_st rfl rfl ?_
    refine h_br (fun q2 => ?_) (fun q2 => ?_)
    · refine h_st rfl rfl ?_
      refine h_st rfl rfl ?_
      exact h_rt rfl rfl (⟨_, _, rfl, h⟩)
    · refine h_st rfl rfl ?_
      refine h_st rfl rfl ?_
      refine h_st rfl rfl ?_
      refine h_br (fun q3 => ?_) (fun q3 => ?_)
      · obtain ⟨a9, c9, ha, hc9, en, el, ei⟩ := ix12 (b_2 hb1 q1)
        obtain ⟨w9, hw9, ew⟩ := nI_of2 (x := wh) (M := 1) (n := 1) (by decide) q2 q3
        have ej : (2 : Int32) * (12 * n + l) + wh = nI (2 * (12 * a9 + c9) + w9) := by rw [ei, ew, show (2 : Int32) = nI 2 from rfl, pk_mul, nI_add]
        refine h_st rfl rfl ?_
        refine h_st rfl (e_get h.2.1 rfl) ?_
        refine h_st rfl rfl ?_
        refine h_st rfl rfl ?_
        refine h_st rfl rfl ?_
        refine h_st rfl rfl ?_
        refine h_st rfl rfl ?_
        refine h_st rfl rfl ?_
        refine h_st rfl rfl ?_
        refine h_st rfl rfl ?_
        refine h_st rfl rfl ?_
        refine h_st rfl (q_ia h.a198 (ej) (by omega) (by decide)) ?_
        exact h_rt rfl rfl (⟨_, _, rfl, h⟩)
      · refine h_st rfl rfl ?_
        refine h_st rfl rfl ?_
        exact h_rt rfl rfl (⟨_, _, rfl, h⟩)
theorem r_138t {b : Bool} {σ0 : ae_S} {F0 F : Nat → Nat → Int32} {c u g : Int32} (h : RS b σ0 F0 σ c u g F) (x : Int32) : hE ra (d + 2) 138 [.ref 176, .int x] σ (pI (fun σ' v => RS b σ0 F0 σ' 0 u g F ∧ ((v = -1 ∧ ∀ l, l < 8 → x = nI l → F 177 l = 0) ∨ ∃ l, l < 8 ∧ x = nI l ∧ F 177 l ≠ 0 ∧ v = F 189 l))) := by
  refine h_in rfl rfl (Nat.le_of_ble_eq_true rfl) ?_
  refine h_st rfl rfl ?_
  refine h_st rfl rfl ?_
  refine r_put rfl h rfl (Nat.le_of_ble_eq_true rfl) rfl (fun σ2 h2 => ?_)
  replace h := h2
  clear h2
  refine h_st rfl rfl ?_
  refine h_st rfl rfl ?_
  refine h_ci2 rfl (Nat.le_of_ble_eq_true rfl) (e_rcv h.2.1) rfl (r_99t h _) (fun σ' y9 hq => ?_)
  obtain ⟨hss, hv⟩ := hq
  replace hss := hss.symm
  subst hss
  rcases hv with ⟨rfl, hv⟩ | ⟨rfl, l, hl, el, hil⟩
  · refine h_st rfl rfl ?_
    refine h_pc (if_pos (by decide)) ?_
    refine h_st rfl rfl ?_
    exact h_rt rfl rfl (⟨_, _, rfl, h, Or.inl ⟨rfl, hv⟩⟩)
  · refine h_st rfl rfl ?_
    refine h_pc (if_neg (by decide)) ?_
    refine h_st rfl rfl ?_
    refine h_st rfl (e_get h.2.1 rfl) ?_
    refine h_st rfl rfl ?_
    refine h_st rfl (q_ia h.a189 (el) (hl) (by decide)) ?_
    refine h_st rfl rfl ?_
    exact h_rt rfl rfl (⟨_, _, rfl, h, Or.inr ⟨l, hl, el, hil, rfl⟩⟩)
theorem r_139t {b : Bool} {σ0 : ae_S} {F0 F : Nat → Nat → Int32} {c u g : Int32} (h : RS b σ0 F0 σ c u g F) (n x : Int32) : hE ra (d + 2) 139 [.ref 176, .int n, .int x] σ (pI (fun σ' v => RS b σ0 F0 σ' 0 u g F)) := by
  refine h_in rfl rfl (Nat.le_of_ble_eq_true rfl) ?_
  refine h_st rfl rfl ?_
  refine h_st rfl rfl ?_
  refine r_put rfl h rfl (Nat.le_of_ble_eq_true rfl) rfl (fun σ2 h2 => ?_)
  replace h := h2
  clear h2
  refine h_st rfl rfl ?_
  refine h_st rfl rfl ?_
  refine h_br (fun q1 => ?_) (fun q1 => ?_)
  · refine h_st rfl rfl ?_
    refine h_st rfl rfl ?_
    exact h_rt rfl rfl (⟨_, _, rfl, h⟩)
  · refine h_st rfl rfl ?_
    refine h_st rfl rfl ?_
    refine h_st rfl rfl ?_
    refine h_br (fun q2 => ?_) (fun q2 => ?_)
    · refine h_st rfl rfl ?_
      refine h_st rfl rfl ?_
      exact h_rt rfl rfl (⟨_, _, rfl, h⟩)
    · refine h_st rfl rfl ?_
      refine h_st rfl rfl ?_
      refine h_ci2 rfl (Nat.le_of_ble_eq_true rfl) (e_rcv h.2.1) rfl (r_99t h _) (fun σ' y9 hq => ?_)
      obtain ⟨hss, hv⟩ := hq
      replace hss := hss.symm
      subst hss
      rcases hv with ⟨rfl, hv⟩ | ⟨rfl, l, hl, el, hil⟩
      · refine h_st rfl rfl ?_
        refine h_pc (if_neg (by decide)) ?_
        refine h_st rfl rfl ?_
        refine h_st rfl rfl ?_
        exact h_rt rfl rfl (⟨_, _, rfl, h⟩)
      · obtain ⟨a9, ha9, en⟩ := nI_of2 (x := n) (M := 1) (n := 1) (by decide) q1 (Int32.not_lt.mp q2)
        have ei : (8 : Int32) * n + x = nI (8 * a9 + l) := by rw [en, el, show (8 : Int32) = nI 8 from rfl, pk_mul, nI_add]
        refine h_st rfl rfl ?_
        refine h_pc (if_pos (by decide)) ?_
        refine h_st rfl rfl ?_
        refine h_st rfl (e_get h.2.1 rfl) ?_
        refine h_st rfl rfl ?_
        refine h_st rfl rfl ?_
        refine h_st rfl rfl ?_
        refine h_st rfl rfl ?_
        refine h_st rfl rfl ?_
        refine h_st rfl (q_ia h.a188 (ei) (by omega) (by decide)) ?_
        exact h_rt rfl rfl (⟨_, _, rfl, h⟩)
theorem r_140t {b : Bool} {σ0 : ae_S} {F0 F : Nat → Nat → Int32} {c u g : Int32} (h : RS b σ0 F0 σ c u g F) (x : Int32) : hE ra (d + 1) 140 [.ref 176, .int x] σ (pI (fun σ' v => RS b σ0 F0 σ' 0 u g F)) := by
  refine h_in rfl rfl (Nat.le_of_ble_eq_true rfl) ?_
  refine h_st rfl rfl ?_
  refine h_st rfl rfl ?_
  refine r_put rfl h rfl (Nat.le_of_ble_eq_true rfl) rfl (fun σ2 h2 => ?_)
  replace h := h2
  clear h2
  refine h_st rfl rfl ?_
  refine h_st rfl rfl ?_
  refine h_br (fun q1 => ?_) (fun q1 => ?_)
  · refine h_st rfl rfl ?_
    refine h_st rfl rfl ?_
    exact h_rt rfl rfl (⟨_, _, rfl, h⟩)
  · refine h_st rfl rfl ?_
    refine h_st rfl rfl ?_
    refine h_st rfl rfl ?_
    refine h_br (fun q2 => ?_) (fun q2 => ?_)
    · obtain ⟨k, hk, ek⟩ := nI_of2 (x := x) (M := 11) (n := 11) (by decide) q1 q2
      refine h_st rfl rfl ?_
      refine h_st rfl (e_get h.2.1 rfl) ?_
      refine h_st rfl rfl ?_
      refine h_st rfl (q_ia h.a213 (ek) (by omega) (by decide)) ?_
      exact h_rt rfl rfl (⟨_, _, rfl, h⟩)
    · refine h_st rfl rfl ?_
      refine h_st rfl rfl ?_
      exact h_rt rfl rfl (⟨_, _, rfl, h⟩)
theorem r_141i {b : Bool} {σ0 : ae_S} {F0 F : Nat → Nat → Int32} {u g : Int32} (h : RS b σ0 F0 σ 0 u g F) {l9 e9 : Int32} {j : Nat} (hx : ∀ (x3 : Int32) x5, hG ra (d + 3) 141 σ [some (.ref 176), some (.int l9), some (.int e9), some (.int x3), some (.int (nI j)), x5] [] 99 (pI (fun σ' v => RS b σ0 F0 σ' 0 u g F))) : ∀ (m i : Nat) (x3 : Int32), i + m = 8 → hG ra (d + 3) 141 σ [some (.ref 176), some (.int l9), some (.int e9), some (.int x3), some (.int (nI j)), some (.int (nI i))] [] 49 (pI (fun σ' v => RS b σ0 F0 σ' 0 u g F)) := by
  intro m
  induction m with
  | zero =>
    intro i x3 hi
    have hi : i = 8 := by omega
    subst hi
    refine h_st rfl rfl ?_
    refine h_st rfl rfl ?_
    refine h_st rfl rfl ?_
    refine h_pc (if_pos (decide_eq_true (nI_le (Nat.le_refl 8) (by decide)))) ?_
    exact hx _ _
  | succ m ih =>
    intro i x3 hi
    have ih1 := fun x3 => ih (i + 1) x3 (by omega)
    simp only [← nI_1] at ih1
    have hi8 : i < 8 := by omega
    refine h_st rfl rfl ?_
    refine h_st rfl rfl ?_
    refine h_st rfl rfl ?_
    refine h_pc (if_neg (fun z9 => (nI_ge (show i < 8 by omega) (by decide)) (of_decide_eq_true z9))) ?_
    refine h_st rfl rfl ?_
    refine h_st rfl (e_get h.2.1 rfl) ?_
    refine h_st rfl rfl ?_
    refine h_st rfl (q_ba h.a177 (rfl) (hi8) (by decide)) ?_
    refine h_st rfl rfl ?_
    refine h_br (fun q1 => ?_) (fun q1 => ?_)
    · refine h_st rfl rfl ?_
      refine h_st rfl rfl ?_
      exact ih1 _
    · refine h_st rfl rfl ?_
      refine h_st rfl rfl ?_
      refine h_st rfl rfl ?_
      refine h_ci3 rfl (Nat.le_of_ble_eq_true rfl) (e_rcv h.2.1) rfl (r_125 h rfl hi8) (fun σ' y7 hq => ?_)
      replace hq := hq.symm
      subst hq
      refine h_st rfl rfl ?_
      refine h_br (fun q2 => ?_) (fun q2 => ?_)
      · refine h_st rfl rfl ?_
        refine h_st rfl rfl ?_
        exact ih1 _
      · refine h_st rfl rfl ?_
        refine h_st rfl rfl ?_
        refine h_st rfl (e_get h.2.1 rfl) ?_
        refine h_st rfl rfl ?_
        refine h_st rfl (q_ia h.a182 (rfl) (hi8) (by decide)) ?_
        refine h_st rfl rfl ?_
        refine h_st rfl rfl ?_
        refine h_st rfl rfl ?_
        refine h_st rfl (e_dv (by decide)) ?_
        refine h_st rfl rfl ?_
        refine h_st rfl rfl ?_
        refine h_st rfl rfl ?_
        refine h_st rfl rfl ?_
        exact ih1 _
theorem r_141l {b : Bool} {σ0 : ae_S} {F0 F : Nat → Nat → Int32} {u g : Int32} (h : RS b σ0 F0 σ 0 u g F) {l9 e9 : Int32} {l : Nat} (el : l9 = nI l) (hl : l < 8) : ∀ (m j : Nat) (x3 : Int32) (x5 : Option Value), j + m = 12 → hG ra (d + 3) 141 σ [some (.ref 176), some (.int l9), some (.int e9), some (.int x3), some (.int (nI j)), x5] [] 21 (pI (fun σ' v => RS b σ0 F0 σ' 0 u g F)) := by
  intro m
  induction m with
  | zero =>
    intro j x3 x5 hj
    have hj : j = 12 := by omega
    subst hj
    refine h_st rfl rfl ?_
    refine h_st rfl rfl ?_
    refine h_st rfl rfl ?_
    refine h_pc (if_pos (decide_eq_true (nI_le (Nat.le_refl 12) (by decide)))) ?_
    refine h_st rfl rfl ?_
    exact h_rt rfl rfl (⟨_, _, rfl, h⟩)
  | succ m ih =>
    intro j x3 x5 hj
    have ih1 := fun x3 x5 => ih (j + 1) x3 x5 (by omega)
    simp only [← nI_1] at ih1
    have h99 : ∀ (x3 : Int32) x5, hG ra (d + 3) 141 σ [some (.ref 176), some (.int l9), some (.int e9), some (.int x3), some (.int (nI j)), x5] [] 99 (pI (fun σ' v => RS b σ0 F0 σ' 0 u g F)) := by
      intro x3 x5
      refine h_st rfl rfl ?_
      refine h_st rfl rfl ?_
      exact ih1 _ _
    refine h_st rfl rfl ?_
    refine h_st rfl rfl ?_
    refine h_st rfl rfl ?_
    refine h_pc (if_neg (fun z9 => (nI_ge (show j < 12 by omega) (by decide)) (of_decide_eq_true z9))) ?_
    refine h_st rfl rfl ?_
    refine h_st rfl rfl ?_
    refine h_st rfl (e_get h.2.1 rfl) ?_
    refine h_st rfl rfl ?_
    refine h_st rfl (q_ia h.a180 (el) (hl) (by decide)) ?_
    refine h_st rfl rfl ?_
    refine h_ci3 rfl (Nat.le_of_ble_eq_true rfl) rfl rfl (r_126 _ _ _) (fun σ' y9 hq => ?_)
    replace hq := hq.symm
    subst hq
    refine h_st rfl rfl ?_
    refine h_br (fun _ => ?_) (fun _ => ?_)
    · refine h_st rfl rfl ?_
      refine h_st rfl rfl ?_
      exact r_141i h h99 8 0 _ rfl
    · refine h_st rfl rfl ?_
      exact h99 _ _
theorem r_141t {b : Bool} {σ0 : ae_S} {F0 F : Nat → Nat → Int32} {c u g : Int32} (h : RS b σ0 F0 σ c u g F) (l9 e9 : Int32) : hE ra (d + 4) 141 [.ref 176, .int l9, .int e9] σ (pI (fun σ' v => RS b σ0 F0 σ' 0 u g F)) := by
  refine h_in rfl rfl (Nat.le_of_ble_eq_true rfl) ?_
  refine h_st rfl rfl ?_
  refine h_st rfl rfl ?_
  refine r_put rfl h rfl (Nat.le_of_ble_eq_true rfl) rfl (fun σ2 h2 => ?_)
  replace h := h2
  clear h2
  refine h_st rfl rfl ?_
  refine h_st rfl rfl ?_
  refine h_st rfl rfl ?_
  refine h_ci3 rfl (Nat.le_of_ble_eq_true rfl) (e_rcv h.2.1) rfl (r_119t h e9 l9) (fun σ' y7 hq => ?_)
  obtain ⟨hss, hv7⟩ := hq
  replace hss := hss.symm
  subst hss
  refine h_st rfl rfl ?_
  refine h_br (fun q1 => ?_) (fun q1 => ?_)
  · obtain ⟨-, ⟨l, hl, el, hil⟩, ke, hke, eke⟩ := hv7.resolve_left q1
    refine h_st rfl rfl ?_
    refine h_st rfl rfl ?_
    refine h_st rfl rfl ?_
    refine h_st rfl rfl ?_
    exact r_141l h el hl 12 0 _ _ rfl
  · refine h_st rfl rfl ?_
    exact h_rt rfl rfl (⟨_, _, rfl, h⟩)
end RF7
