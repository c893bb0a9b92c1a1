section RFB
variable {ra : ae_R} {d : Nat} {σ : ae_S}
def toI (x : Int32) : Int32 := if 4 ≤ x then (if 8 ≤ x then (if ¬ x = 9 then (if ¬ x = 10 then 1 else 0) else 2) else -1) else x - x / 3 * 3
def frI (x : Int32) : Int32 := if 4 ≤ x then (if 8 ≤ x then (if ¬ x = 8 then (if ¬ x = 11 then 1 else 2) else 0) else (x - 4) - (x - 4) / 3 * 3) else -1
def owI (x a b : Int32) : Int32 := if 4 ≤ x then (if 8 ≤ x then (if toI x ≤ frI x then (if a - a / 3 * 3 < frI x then 0 else if toI x < b - b / 3 * 3 then 0 else 1) else (if frI x < a - a / 3 * 3 then 0 else if b - b / 3 * 3 < toI x then 0 else 1)) else (if ¬ x = b + 4 then 0 else 1)) else (if ¬ x = a then 0 else 1)
def opf (ln s t : Int32) : Nat → Int32
  | 0 => 0
  | e + 1 => if ¬ opf ln s t e = 0 then 1 else if ¬ (t >>> (nI e &&& 31)) &&& 1 = 1 then 0 else if owI ln s (nI e) = 0 then 0 else 1
theorem r_115x (x : Int32) : hE ra (d + 1) 115 [.int x] σ (pI (fun σ' y => σ' = σ ∧ y = toI x)) := by
  refine h_in rfl rfl (Nat.le_of_ble_eq_true rfl) ?_
  refine h_st rfl rfl ?_
  refine h_st rfl rfl ?_
  refine h_st rfl rfl ?_
  refine h_br (fun q1 => ?_) (fun q1 => ?_)
  · refine h_st rfl rfl ?_
    refine h_st rfl rfl ?_
    refine h_st rfl rfl ?_
    refine h_br (fun q2 => ?_) (fun q2 => ?_)
    · refine h_st rfl rfl ?_
      refine h_st rfl rfl ?_
      refine h_st rfl rfl ?_
      refine h_br (fun q3 => ?_) (fun q3 => ?_)
      · refine h_st rfl rfl ?_
        refine h_st rfl rfl ?_
        refine h_st rfl rfl ?_
        refine h_br (fun q4 => ?_) (fun q4 => ?_)
        · refine h_st rfl rfl ?_
          exact h_rt rfl rfl (⟨_, _, rfl, rfl, by unfold toI; rw [if_pos q1, if_pos q2, if_pos q3, if_pos q4]⟩)
        · refine h_st rfl rfl ?_
          refine h_st rfl rfl ?_
          exact h_rt rfl rfl (⟨_, _, rfl, rfl, by unfold toI; rw [if_pos q1, if_pos q2, if_pos q3, if_neg q4]⟩)
      · refine h_st rfl rfl ?_
        refine h_st rfl rfl ?_
        exact h_rt rfl rfl (⟨_, _, rfl, rfl, by unfold toI; rw [if_pos q1, if_pos q2, if_neg q3]⟩)
    · refine h_st rfl rfl ?_
      refine h_st rfl rfl ?_
      exact h_rt rfl rfl (⟨_, _, rfl, rfl, by unfold toI; rw [if_pos q1, if_neg q2]⟩)
  · refine h_st rfl rfl ?_
    refine h_st rfl rfl ?_
    refine h_st rfl (e_dv (by decide)) ?_
    refine h_st rfl rfl ?_
    exact h_rt rfl rfl (⟨_, _, rfl, rfl, by unfold toI; rw [if_neg q1]⟩)
theorem r_127x (x : Int32) : hE ra (d + 1) 127 [.int x] σ (pI (fun σ' y => σ' = σ ∧ y = frI x)) := by
  refine h_in rfl rfl (Nat.le_of_ble_eq_true rfl) ?_
  refine h_st rfl rfl ?_
  refine h_st rfl rfl ?_
  refine h_st rfl rfl ?_
  refine h_br (fun q1 => ?_) (fun q1 => ?_)
  · refine h_st rfl rfl ?_
    refine h_st rfl rfl ?_
    refine h_st rfl rfl ?_
    refine h_br (fun q2 => ?_) (fun q2 => ?_)
    · refine h_st rfl rfl ?_
      refine h_st rfl rfl ?_
      refine h_st rfl rfl ?_
      refine h_br (fun q3 => ?_) (fun q3 => ?_)
      · refine h_st rfl rfl ?_
        refine h_st rfl rfl ?_
        refine h_st rfl rfl ?_
        refine h_br (fun q4 => ?_) (fun q4 => ?_)
        · refine h_st rfl rfl ?_
          exact h_rt rfl rfl (⟨_, _, rfl, rfl, by unfold frI; rw [if_pos q1, if_pos q2, if_pos q3, if_pos q4]⟩)
        · refine h_st rfl rfl ?_
          refine h_st rfl rfl ?_
          exact h_rt rfl rfl (⟨_, _, rfl, rfl, by unfold frI; rw [if_pos q1, if_pos q2, if_pos q3, if_neg q4]⟩)
      · refine h_st rfl rfl ?_
        refine h_st rfl rfl ?_
        exact h_rt rfl rfl (⟨_, _, rfl, rfl, by unfold frI; rw [if_pos q1, if_pos q2, if_neg q3]⟩)
    · refine h_st rfl rfl ?_
      refine h_st rfl rfl ?_
      refine h_st rfl rfl ?_
      refine h_st rfl rfl ?_
      refine h_st rfl (e_dv (by decide)) ?_
      refine h_st rfl rfl ?_
      exact h_rt rfl rfl (⟨_, _, rfl, rfl, by unfold frI; rw [if_pos q1, if_neg q2]⟩)
  · refine h_st rfl rfl ?_
    refine h_st rfl rfl ?_
    exact h_rt rfl rfl (⟨_, _, rfl, rfl, by unfold frI; rw [if_neg q1]⟩)
theorem r_126x (x y z : Int32) : hE ra (d + 2) 126 [.int x, .int y, .int z] σ (pI (fun σ' v => σ' = σ ∧ v = owI x y z)) := by
  refine h_in rfl rfl (Nat.le_of_ble_eq_true rfl) ?_
  refine h_st rfl rfl ?_
  refine h_st rfl rfl ?_
  refine h_st rfl rfl ?_
  refine h_br (fun q1 => ?_) (fun q1 => ?_)
  · refine h_st rfl rfl ?_
    refine h_st rfl rfl ?_
    refine h_st rfl rfl ?_
    refine h_br (fun q2 => ?_) (fun q2 => ?_)
    · refine h_st rfl rfl ?_
      refine h_st rfl rfl ?_
      refine h_st rfl (e_dv (by decide)) ?_
      refine h_st rfl rfl ?_
      refine h_st rfl rfl ?_
      refine h_st rfl rfl ?_
      refine h_st rfl (e_dv (by decide)) ?_
      refine h_st rfl rfl ?_
      refine h_st rfl rfl ?_
      refine h_ci1 rfl (Nat.le_of_ble_eq_true rfl) rfl rfl (r_115x _) (fun σ' y hq => ?_)
      obtain ⟨hss, rfl⟩ := hq
      replace hss := hss.symm
      subst hss
      refine h_st rfl rfl ?_
      refine h_ci1 rfl (Nat.le_of_ble_eq_true rfl) rfl rfl (r_127x _) (fun σ' y hq => ?_)
      obtain ⟨hss, rfl⟩ := hq
      replace hss := hss.symm
      subst hss
      refine h_st rfl rfl ?_
      refine h_br (fun q3 => ?_) (fun q3 => ?_)
      · refine h_st rfl rfl ?_
        refine h_ci1 rfl (Nat.le_of_ble_eq_true rfl) rfl rfl (r_127x _) (fun σ' y hq => ?_)
        obtain ⟨hss, rfl⟩ := hq
        replace hss := hss.symm
        subst hss
        refine h_st rfl rfl ?_
        refine h_st rfl rfl ?_
        refine h_br (fun q4 => ?_) (fun q4 => ?_)
        · refine h_st rfl rfl ?_
          exact h_rt rfl rfl (⟨_, _, rfl, rfl, by unfold owI; rw [if_pos q1, if_pos q2, if_pos q3, if_pos q4]⟩)
        · refine h_st rfl rfl ?_
          refine h_ci1 rfl (Nat.le_of_ble_eq_true rfl) rfl rfl (r_115x _) (fun σ' y hq => ?_)
          obtain ⟨hss, rfl⟩ := hq
          replace hss := hss.symm
          subst hss
          refine h_st rfl rfl ?_
          refine h_st rfl rfl ?_
          refine h_br (fun q5 => ?_) (fun q5 => ?_)
          · refine h_st rfl rfl ?_
            exact h_rt rfl rfl (⟨_, _, rfl, rfl, by unfold owI; rw [if_pos q1, if_pos q2, if_pos q3, if_neg q4, if_pos q5]⟩)
          · refine h_st rfl rfl ?_
            refine h_st rfl rfl ?_
            exact h_rt rfl rfl (⟨_, _, rfl, rfl, by unfold owI; rw [if_pos q1, if_pos q2, if_pos q3, if_neg q4, if_neg q5]⟩)
      · refine h_st rfl rfl ?_
        refine h_ci1 rfl (Nat.le_of_ble_eq_true rfl) rfl rfl (r_127x _) (fun σ' y hq => ?_)
        obtain ⟨hss, rfl⟩ := hq
        replace hss := hss.symm
        subst hss
        refine h_st rfl rfl ?_
        refine h_st rfl rfl ?_
        refine h_br (fun q4 => ?_) (fun q4 => ?_)
        · refine h_st rfl rfl ?_
          refine h_st rfl rfl ?_
          exact h_rt rfl rfl (⟨_, _, rfl, rfl, by unfold owI; rw [if_pos q1, if_pos q2, if_neg q3, if_pos q4]⟩)
        · refine h_st rfl rfl ?_
          refine h_ci1 rfl (Nat.le_of_ble_eq_true rfl) rfl rfl (r_115x _) (fun σ' y hq => ?_)
          obtain ⟨hss, rfl⟩ := hq
          replace hss := hss.symm
          subst hss
          refine h_st rfl rfl ?_
          refine h_st rfl rfl ?_
          refine h_br (fun q5 => ?_) (fun q5 => ?_)
          · refine h_st rfl rfl ?_
            refine h_st rfl rfl ?_
            exact h_rt rfl rfl (⟨_, _, rfl, rfl, by unfold owI; rw [if_pos q1, if_pos q2, if_neg q3, if_neg q4, if_pos q5]⟩)
          · refine h_st rfl rfl ?_
            refine h_st rfl rfl ?_
            exact h_rt rfl rfl (⟨_, _, rfl, rfl, by unfold owI; rw [if_pos q1, if_pos q2, if_neg q3, if_neg q4, if_neg q5]⟩)
    · refine h_st rfl rfl ?_
      refine h_st rfl rfl ?_
      refine h_st rfl rfl ?_
      refine h_st rfl rfl ?_
      refine h_st rfl rfl ?_
      refine h_br (fun q3 => ?_) (fun q3 => ?_)
      · refine h_st rfl rfl ?_
        exact h_rt rfl rfl (⟨_, _, rfl, rfl, by unfold owI; rw [if_pos q1, if_neg q2, if_pos q3]⟩)
      · refine h_st rfl rfl ?_
        refine h_st rfl rfl ?_
        exact h_rt rfl rfl (⟨_, _, rfl, rfl, by unfold owI; rw [if_pos q1, if_neg q2, if_neg q3]⟩)
  · refine h_st rfl rfl ?_
    refine h_st rfl rfl ?_
    refine h_st rfl rfl ?_
    refine h_br (fun q2 => ?_) (fun q2 => ?_)
    · refine h_st rfl rfl ?_
      exact h_rt rfl rfl (⟨_, _, rfl, rfl, by unfold owI; rw [if_neg q1, if_pos q2]⟩)
    · refine h_st rfl rfl ?_
      refine h_st rfl rfl ?_
      exact h_rt rfl rfl (⟨_, _, rfl, rfl, by unfold owI; rw [if_neg q1, if_neg q2]⟩)
theorem opf_b (ln s t : Int32) : ∀ n, k_bool (.int (opf ln s t n)) = true
  | 0 => rfl
  | n + 1 => by
    unfold opf
    split
    · rfl
    · split
      · rfl
      · split <;> rfl
theorem r_125lx {b : Bool} {σ0 : ae_S} {F0 F : Nat → Nat → Int32} {c u g : Int32} (h : RS b σ0 F0 σ c u g F) {l : Nat} {x y : Int32} (el : x = nI l) (hl : l < 8) : ∀ (m j : Nat), j + m = 4 → hG ra (d + 2) 125 σ [some (.ref 176), some (.int y), some (.int x), some (.int (opf y (F 180 l) (F 183 l) j)), some (.int (nI j))] [] 5 (pI (fun σ' v => σ' = σ ∧ v = opf y (F 180 l) (F 183 l) 4)) := by
  intro m
  induction m with
  | zero =>
    intro j hj
    have hj : j = 4 := by omega
    subst hj
    refine h_st rfl rfl ?_
    refine h_st rfl rfl ?_
    refine h_st rfl rfl ?_
    refine h_pc (if_pos (decide_eq_true (nI_le (Nat.le_refl 4) (by decide)))) ?_
    refine h_st rfl rfl ?_
    exact h_rt rfl (opf_b _ _ _ _) (⟨_, _, rfl, rfl, rfl⟩)
  | succ m ih =>
    intro j hj
    have ih1 := ih (j + 1) (by omega)
    simp only [← nI_1] at ih1
    refine h_st rfl rfl ?_
    refine h_st rfl rfl ?_
    refine h_st rfl rfl ?_
    refine h_pc (if_neg (fun z9 => (nI_ge (show j < 4 by omega) (by decide)) (of_decide_eq_true z9))) ?_
    refine h_st rfl rfl ?_
    refine h_st rfl rfl ?_
    refine h_br (fun q1 => ?_) (fun q1 => ?_)
    · have ep : opf y (F 180 l) (F 183 l) (j + 1) = 1 := by
        unfold opf
        rw [if_pos q1]
      rw [ep] at ih1
      refine h_st rfl rfl ?_
      refine h_st rfl rfl ?_
      refine h_st rfl rfl ?_
      refine h_st rfl rfl ?_
      refine h_st rfl rfl ?_
      exact ih1
    · refine h_st rfl rfl ?_
      refine h_st rfl (e_get h.2.1 rfl) ?_
      refine h_st rfl rfl ?_
      refine h_st rfl (q_ia h.a183 (el) (hl) (by decide)) ?_
      refine h_st rfl rfl ?_
      refine h_st rfl rfl ?_
      refine h_st rfl rfl ?_
      refine h_st rfl rfl ?_
      refine h_st rfl rfl ?_
      refine h_st rfl rfl ?_
      refine h_br (fun q2 => ?_) (fun q2 => ?_)
      · have ep : opf y (F 180 l) (F 183 l) (j + 1) = 0 := by
          unfold opf
          rw [if_neg q1, if_pos q2]
        rw [ep] at ih1
        refine h_st rfl rfl ?_
        refine h_st rfl rfl ?_
        refine h_st rfl rfl ?_
        refine h_st rfl rfl ?_
        exact ih1
      · refine h_st rfl rfl ?_
        refine h_st rfl rfl ?_
        refine h_st rfl (e_get h.2.1 rfl) ?_
        refine h_st rfl rfl ?_
        refine h_st rfl (q_ia h.a180 (el) (hl) (by decide)) ?_
        refine h_st rfl rfl ?_
        refine h_ci3 rfl (Nat.le_of_ble_eq_true rfl) rfl rfl (r_126x _ _ _) (fun σ' y9 hq => ?_)
        obtain ⟨hss, rfl⟩ := hq
        replace hss := hss.symm
        subst hss
        refine h_st rfl rfl ?_
        refine h_br (fun q3 => ?_) (fun q3 => ?_)
        · have ep : opf y (F 180 l) (F 183 l) (j + 1) = 0 := by
            unfold opf
            rw [if_neg q1, if_neg q2, if_pos q3]
          rw [ep] at ih1
          refine h_st rfl rfl ?_
          refine h_st rfl rfl ?_
          refine h_st rfl rfl ?_
          refine h_st rfl rfl ?_
          exact ih1
        · have ep : opf y (F 180 l) (F 183 l) (j + 1) = 1 := by
            unfold opf
            rw [if_neg q1, if_neg q2, if_neg q3]
          rw [ep] at ih1
          refine h_st rfl rfl ?_
          refine h_st rfl rfl ?_
          refine h_st rfl rfl ?_
          refine h_st rfl rfl ?_
          refine h_st rfl rfl ?_
          exact ih1
theorem r_125x {b : Bool} {σ0 : ae_S} {F0 F : Nat → Nat → Int32} {c u g : Int32} (h : RS b σ0 F0 σ c u g F) {l : Nat} {x y : Int32} (el : x = nI l) (hl : l < 8) : hE ra (d + 3) 125 [.ref 176, .int y, .int x] σ (pI (fun σ' v => σ' = σ ∧ v = opf y (F 180 l) (F 183 l) 4)) := by
  refine h_in rfl rfl (Nat.le_of_ble_eq_true rfl) ?_
  refine h_st rfl rfl ?_
  refine h_st rfl rfl ?_
  refine h_st rfl rfl ?_
  refine h_st rfl rfl ?_
  exact r_125lx h el hl 4 0 rfl
theorem r_119x {b : Bool} {σ0 : ae_S} {F0 F : Nat → Nat → Int32} {c u g : Int32} (h : RS b σ0 F0 σ c u g F) (y x : Int32) : hE ra (d + 2) 119 [.ref 176, .int y, .int x] σ (pI (fun σ' v => σ' = σ ∧ ((v = 0 ∧ ∀ j k, j < 8 → k < 4 → x = nI j → y = nI k → F 177 j = 0 ∨ ¬ (F 183 j >>> (nI k &&& 31)) &&& 1 = 1) ∨ (v = 1 ∧ ∃ j k, j < 8 ∧ k < 4 ∧ x = nI j ∧ y = nI k ∧ F 177 j ≠ 0 ∧ (F 183 j >>> (nI k &&& 31)) &&& 1 = 1)))) := by
  refine h_in rfl rfl (Nat.le_of_ble_eq_true rfl) ?_
  refine h_st rfl rfl ?_
  refine h_st rfl rfl ?_
  refine h_ci2 rfl (Nat.le_of_ble_eq_true rfl) (e_rcv h.2.1) rfl (r_99t h x) (fun σ' v hq => ?_)
  obtain ⟨hss, hv⟩ := hq
  replace hss := hss.symm
  subst hss
  refine h_st rfl rfl ?_
  refine h_br (fun q1 => ?_) (fun q1 => ?_)
  · refine h_st rfl rfl ?_
    exact h_rt rfl rfl (⟨_, _, rfl, rfl, Or.inl ⟨rfl, fun j k hj hk ej ek => Or.inl (hv.elim (fun z => z.2 j hj ej) (fun z => absurd (z.1.symm.trans q1) (by decide)))⟩⟩)
  · refine h_st rfl rfl ?_
    refine h_st rfl rfl ?_
    refine h_br (fun q2 => ?_) (fun q2 => ?_)
    · refine h_st rfl rfl ?_
      exact h_rt rfl rfl (⟨_, _, rfl, rfl, Or.inl ⟨rfl, fun j k hj hk ej ek => absurd q2 (by rw [ek]; exact Int32.not_lt.mpr (nI_le (a := 0) (Nat.zero_le _) (by omega)))⟩⟩)
    · refine h_st rfl rfl ?_
      refine h_st rfl rfl ?_
      refine h_st rfl rfl ?_
      refine h_br (fun q3 => ?_) (fun q3 => ?_)
      · refine h_st rfl rfl ?_
        exact h_rt rfl rfl (⟨_, _, rfl, rfl, Or.inl ⟨rfl, fun j k hj hk ej ek => absurd q3 (by rw [ek]; exact nI_ge hk (by decide))⟩⟩)
      · obtain ⟨l, hl, el, hil⟩ : ∃ l, l < 8 ∧ x = nI l ∧ F 177 l ≠ 0 := hv.elim (fun z => absurd z.1 q1) (fun z => z.2)
        obtain ⟨k, hk, ek⟩ := i_ix (n := 4) (by decide) q2 q3
        subst ek
        refine h_st rfl rfl ?_
        refine h_st rfl (e_get h.2.1 rfl) ?_
        refine h_st rfl rfl ?_
        refine h_st rfl (q_ia h.a183 (el) (hl) (by decide)) ?_
        refine h_st rfl rfl ?_
        refine h_st rfl rfl ?_
        refine h_st rfl rfl ?_
        refine h_st rfl rfl ?_
        refine h_st rfl rfl ?_
        refine h_st rfl rfl ?_
        refine h_br (fun q4 => ?_) (fun q4 => ?_)
        · refine h_st rfl rfl ?_
          exact h_rt rfl rfl (⟨_, _, rfl, rfl, Or.inl ⟨rfl, fun j k' hj hk' ej ek' => Or.inr (by rw [nI_inj (by omega) (by omega) (ej.symm.trans el), ← ek']; exact q4)⟩⟩)
        · refine h_st rfl rfl ?_
          refine h_st rfl rfl ?_
          exact h_rt rfl rfl (⟨_, _, rfl, rfl, Or.inr ⟨rfl, l, k, hl, hk, el, rfl, hil, Classical.not_not.mp q4⟩⟩)
theorem r_141ix {b : Bool} {σ0 : ae_S} {F0 F : Nat → Nat → Int32} {u g : Int32} (h : RS b σ0 F0 σ 0 u g F) {l9 e9 S : Int32} {j : Nat} {P : ae_S × ae_O → Prop} (hx : ∀ x5, hG ra (d + 3) 141 σ [some (.ref 176), some (.int l9), some (.int e9), some (.int (S + tks (fun k => F 177 k ≠ 0 ∧ ¬ opf (nI j) (F 180 k) (F 183 k) 4 = 0) (fun k => (F 182 k + 7) / 8) 8)), some (.int (nI j)), x5] [] 99 P) : ∀ (m i : Nat), i + m = 8 → hG ra (d + 3) 141 σ [some (.ref 176), some (.int l9), some (.int e9), some (.int (S + tks (fun k => F 177 k ≠ 0 ∧ ¬ opf (nI j) (F 180 k) (F 183 k) 4 = 0) (fun k => (F 182 k + 7) / 8) i)), some (.int (nI j)), some (.int (nI i))] [] 49 P := by
  intro m
  induction m with
  | zero =>
    intro i hi
    have hi : i = 8 := by omega
    subst hi
    refine h_st rfl rfl ?_
    refine h_st rfl rfl ?_
    refine h_st rfl rfl ?_
    refine h_pc (if_pos (decide_eq_true (nI_le (Nat.le_refl 8) (by decide)))) ?_
    exact hx _
  | succ m ih =>
    intro i hi
    have ih1 := ih (i + 1) (by omega)
    simp only [← nI_1] at ih1
    have hi8 : i < 8 := by omega
    refine h_st rfl rfl ?_
    refine h_st rfl rfl ?_
    refine h_st rfl rfl ?_
    refine h_pc (if_neg (fun z9 => (nI_ge (show i < 8 by omega) (by decide)) (of_decide_eq_true z9))) ?_
    refine h_st rfl rfl ?_
    refine h_st rfl (e_get h.2.1 rfl) ?_
    refine h_st rfl rfl ?_
    refine h_st rfl (q_ba h.a177 (rfl) (hi8) (by decide)) ?_
    refine h_st rfl rfl ?_
    refine h_br (fun q1 => ?_) (fun q1 => ?_)
    · have ep : tks (fun k => F 177 k ≠ 0 ∧ ¬ opf (nI j) (F 180 k) (F 183 k) 4 = 0) (fun k => (F 182 k + 7) / 8) (i + 1) = tks (fun k => F 177 k ≠ 0 ∧ ¬ opf (nI j) (F 180 k) (F 183 k) 4 = 0) (fun k => (F 182 k + 7) / 8) i := if_neg (fun z => z.1 q1)
      rw [ep] at ih1
      refine h_st rfl rfl ?_
      refine h_st rfl rfl ?_
      exact ih1
    · refine h_st rfl rfl ?_
      refine h_st rfl rfl ?_
      refine h_st rfl rfl ?_
      refine h_ci3 rfl (Nat.le_of_ble_eq_true rfl) (e_rcv h.2.1) rfl (r_125x h rfl hi8) (fun σ' y7 hq => ?_)
      obtain ⟨hss, rfl⟩ := hq
      replace hss := hss.symm
      subst hss
      refine h_st rfl rfl ?_
      refine h_br (fun q2 => ?_) (fun q2 => ?_)
      · have ep : tks (fun k => F 177 k ≠ 0 ∧ ¬ opf (nI j) (F 180 k) (F 183 k) 4 = 0) (fun k => (F 182 k + 7) / 8) (i + 1) = tks (fun k => F 177 k ≠ 0 ∧ ¬ opf (nI j) (F 180 k) (F 183 k) 4 = 0) (fun k => (F 182 k + 7) / 8) i := if_neg (fun z => z.2 q2)
        rw [ep] at ih1
        refine h_st rfl rfl ?_
        refine h_st rfl rfl ?_
        exact ih1
      · have ep : tks (fun k => F 177 k ≠ 0 ∧ ¬ opf (nI j) (F 180 k) (F 183 k) 4 = 0) (fun k => (F 182 k + 7) / 8) (i + 1) = tks (fun k => F 177 k ≠ 0 ∧ ¬ opf (nI j) (F 180 k) (F 183 k) 4 = 0) (fun k => (F 182 k + 7) / 8) i + (F 182 i + 7) / 8 := if_pos ⟨q1, q2⟩
        rw [ep, ← Int32.add_assoc] at ih1
        refine h_st rfl rfl ?_
        refine h_st rfl rfl ?_
        refine h_st rfl (e_get h.2.1 rfl) ?_
        refine h_st rfl rfl ?_
        refine h_st rfl (q_ia h.a182 (rfl) (hi8) (by decide)) ?_
        refine h_st rfl rfl ?_
        refine h_st rfl rfl ?_
        refine h_st rfl rfl ?_
        refine h_st rfl (e_dv (by decide)) ?_
        refine h_st rfl rfl ?_
        refine h_st rfl rfl ?_
        refine h_st rfl rfl ?_
        refine h_st rfl rfl ?_
        exact ih1
theorem r_141lx {b : Bool} {σ0 : ae_S} {F0 F : Nat → Nat → Int32} {u g : Int32} (h : RS b σ0 F0 σ 0 u g F) {l9 e9 : Int32} {l : Nat} (el : l9 = nI l) (hl : l < 8) : ∀ (m j : Nat) (x5 : Option Value), j + m = 12 → hG ra (d + 3) 141 σ [some (.ref 176), some (.int l9), some (.int e9), some (.int (lns (fun ln => ¬ owI (nI ln) (F 180 l) e9 = 0) (fun ln => tks (fun k => F 177 k ≠ 0 ∧ ¬ opf (nI ln) (F 180 k) (F 183 k) 4 = 0) (fun k => (F 182 k + 7) / 8) 8) j)), some (.int (nI j)), x5] [] 21 (pI (fun σ' v => RS b σ0 F0 σ' 0 u g F ∧ v = lns (fun ln => ¬ owI (nI ln) (F 180 l) e9 = 0) (fun ln => tks (fun k => F 177 k ≠ 0 ∧ ¬ opf (nI ln) (F 180 k) (F 183 k) 4 = 0) (fun k => (F 182 k + 7) / 8) 8) 12)) := by
  intro m
  induction m with
  | zero =>
    intro j x5 hj
    have hj : j = 12 := by omega
    subst hj
    refine h_st rfl rfl ?_
    refine h_st rfl rfl ?_
    refine h_st rfl rfl ?_
    refine h_pc (if_pos (decide_eq_true (nI_le (Nat.le_refl 12) (by decide)))) ?_
    refine h_st rfl rfl ?_
    exact h_rt rfl rfl (⟨_, _, rfl, h, rfl⟩)
  | succ m ih =>
    intro j x5 hj
    have ih1 := fun x5 => ih (j + 1) x5 (by omega)
    simp only [← nI_1] at ih1
    refine h_st rfl rfl ?_
    refine h_st rfl rfl ?_
    refine h_st rfl rfl ?_
    refine h_pc (if_neg (fun z9 => (nI_ge (show j < 12 by omega) (by decide)) (of_decide_eq_true z9))) ?_
    refine h_st rfl rfl ?_
    refine h_st rfl rfl ?_
    refine h_st rfl (e_get h.2.1 rfl) ?_
    refine h_st rfl rfl ?_
    refine h_st rfl (q_ia h.a180 (el) (hl) (by decide)) ?_
    refine h_st rfl rfl ?_
    refine h_ci3 rfl (Nat.le_of_ble_eq_true rfl) rfl rfl (r_126x _ _ _) (fun σ' y9 hq => ?_)
    obtain ⟨hss, rfl⟩ := hq
    replace hss := hss.symm
    subst hss
    refine h_st rfl rfl ?_
    refine h_br (fun q => ?_) (fun q => ?_)
    · have ep : lns (fun ln => ¬ owI (nI ln) (F 180 l) e9 = 0) (fun ln => tks (fun k => F 177 k ≠ 0 ∧ ¬ opf (nI ln) (F 180 k) (F 183 k) 4 = 0) (fun k => (F 182 k + 7) / 8) 8) (j + 1) = lns (fun ln => ¬ owI (nI ln) (F 180 l) e9 = 0) (fun ln => tks (fun k => F 177 k ≠ 0 ∧ ¬ opf (nI ln) (F 180 k) (F 183 k) 4 = 0) (fun k => (F 182 k + 7) / 8) 8) j + tks (fun k => F 177 k ≠ 0 ∧ ¬ opf (nI j) (F 180 k) (F 183 k) 4 = 0) (fun k => (F 182 k + 7) / 8) 8 := if_pos q
      rw [ep] at ih1
      have h0 : lns (fun ln => ¬ owI (nI ln) (F 180 l) e9 = 0) (fun ln => tks (fun k => F 177 k ≠ 0 ∧ ¬ opf (nI ln) (F 180 k) (F 183 k) 4 = 0) (fun k => (F 182 k + 7) / 8) 8) j = lns (fun ln => ¬ owI (nI ln) (F 180 l) e9 = 0) (fun ln => tks (fun k => F 177 k ≠ 0 ∧ ¬ opf (nI ln) (F 180 k) (F 183 k) 4 = 0) (fun k => (F 182 k + 7) / 8) 8) j + tks (fun k => F 177 k ≠ 0 ∧ ¬ opf (nI j) (F 180 k) (F 183 k) 4 = 0) (fun k => (F 182 k + 7) / 8) 0 := (Int32.add_zero _).symm
      rw [h0]
      have h99 : ∀ x5, hG ra (d + 3) 141 σ [some (.ref 176), some (.int l9), some (.int e9), some (.int (lns (fun ln => ¬ owI (nI ln) (F 180 l) e9 = 0) (fun ln => tks (fun k => F 177 k ≠ 0 ∧ ¬ opf (nI ln) (F 180 k) (F 183 k) 4 = 0) (fun k => (F 182 k + 7) / 8) 8) j + tks (fun k => F 177 k ≠ 0 ∧ ¬ opf (nI j) (F 180 k) (F 183 k) 4 = 0) (fun k => (F 182 k + 7) / 8) 8)), some (.int (nI j)), x5] [] 99 (pI (fun σ' v => RS b σ0 F0 σ' 0 u g F ∧ v = lns (fun ln => ¬ owI (nI ln) (F 180 l) e9 = 0) (fun ln => tks (fun k => F 177 k ≠ 0 ∧ ¬ opf (nI ln) (F 180 k) (F 183 k) 4 = 0) (fun k => (F 182 k + 7) / 8) 8) 12)) := by
        intro x5
        refine h_st rfl rfl ?_
        refine h_st rfl rfl ?_
        exact ih1 _
      refine h_st rfl rfl ?_
      refine h_st rfl rfl ?_
      exact r_141ix h h99 8 0 rfl
    · have ep : lns (fun ln => ¬ owI (nI ln) (F 180 l) e9 = 0) (fun ln => tks (fun k => F 177 k ≠ 0 ∧ ¬ opf (nI ln) (F 180 k) (F 183 k) 4 = 0) (fun k => (F 182 k + 7) / 8) 8) (j + 1) = lns (fun ln => ¬ owI (nI ln) (F 180 l) e9 = 0) (fun ln => tks (fun k => F 177 k ≠ 0 ∧ ¬ opf (nI ln) (F 180 k) (F 183 k) 4 = 0) (fun k => (F 182 k + 7) / 8) 8) j := if_neg q
      rw [ep] at ih1
      refine h_st rfl rfl ?_
      refine h_st rfl rfl ?_
      refine h_st rfl rfl ?_
      exact ih1 _
theorem r_141x {b : Bool} {σ0 : ae_S} {F0 F : Nat → Nat → Int32} {c u g : Int32} (h : RS b σ0 F0 σ c u g F) (l9 e9 : Int32) : hE ra (d + 4) 141 [.ref 176, .int l9, .int e9] σ (pI (fun σ' v => RS b σ0 F0 σ' 0 u g F ∧ ((v = -1 ∧ ∀ j k, j < 8 → k < 4 → l9 = nI j → e9 = nI k → F 177 j = 0 ∨ ¬ (F 183 j >>> (nI k &&& 31)) &&& 1 = 1) ∨ ∃ l k, l < 8 ∧ k < 4 ∧ l9 = nI l ∧ e9 = nI k ∧ F 177 l ≠ 0 ∧ (F 183 l >>> (nI k &&& 31)) &&& 1 = 1 ∧ v = lns (fun ln => ¬ owI (nI ln) (F 180 l) e9 = 0) (fun ln => tks (fun k => F 177 k ≠ 0 ∧ ¬ opf (nI ln) (F 180 k) (F 183 k) 4 = 0) (fun k => (F 182 k + 7) / 8) 8) 12))) := by
  refine h_in rfl rfl (Nat.le_of_ble_eq_true rfl) ?_
  refine h_st rfl rfl ?_
  refine h_st rfl rfl ?_
  refine r_put rfl h rfl (Nat.le_of_ble_eq_true rfl) rfl (fun σ2 h2 => ?_)
  replace h := h2
  clear h2
  refine h_st rfl rfl ?_
  refine h_st rfl rfl ?_
  refine h_st rfl rfl ?_
  refine h_ci3 rfl (Nat.le_of_ble_eq_true rfl) (e_rcv h.2.1) rfl (r_119x h e9 l9) (fun σ' y7 hq => ?_)
  obtain ⟨hss, hv7⟩ := hq
  replace hss := hss.symm
  subst hss
  rcases hv7 with ⟨rfl, hv7⟩ | ⟨rfl, l, k, hl, hk, el, ek, hil, hbt⟩
  · refine h_st rfl rfl ?_
    refine h_pc (if_neg (by decide)) ?_
    refine h_st rfl rfl ?_
    exact h_rt rfl rfl (⟨_, _, rfl, h, Or.inl ⟨rfl, hv7⟩⟩)
  · refine h_st rfl rfl ?_
    refine h_pc (if_pos (by decide)) ?_
    refine h_st rfl rfl ?_
    refine h_st rfl rfl ?_
    refine h_st rfl rfl ?_
    refine h_st rfl rfl ?_
    have hfin : ∀ x5, hG ra (d + 3) 141 _ [some (.ref 176), some (.int l9), some (.int e9), some (.int (0)), some (.int (nI 0)), x5] [] 21 _ := fun x5 => r_141lx (ra := ra) (d := d) (e9 := e9) h el hl 12 0 x5 rfl
    obtain ⟨r, g1, σ9, v9, rfl, h9, rfl⟩ := hfin none
    exact ⟨_, g1, _, _, rfl, h9, Or.inr ⟨l, k, hl, hk, el, ek, hil, hbt, rfl⟩⟩
end RFB
