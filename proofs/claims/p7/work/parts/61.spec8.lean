section SP8
variable {ra : ae_R} {d : Nat} {σ σ0 : ae_S} {p pb k : Nat}
/-- a frame object and its bytes -/
def FR (σ : ae_S) (p pb k : Nat) : Prop := σ.2[p]? = some (.inr (2, [.ref pb, .int (nI k)])) ∧ (k ≤ 200 ∧ p ≠ pb) ∧ ∃ f, σ.2[pb]? = some (.inl (1, 200, .inl f)) ∧ ∀ j, j < 200 → fits .byte (.int (f j)) = true
def FR0 (σ : ae_S) (p pb : Nat) : Prop := (∃ x, σ.2[p]? = some (.inr (2, [.ref pb, .int x]))) ∧ p ≠ pb ∧ ∃ f, σ.2[pb]? = some (.inl (1, 200, .inl f)) ∧ ∀ j, j < 200 → fits .byte (.int (f j)) = true
theorem FR.same {σ' : ae_S} (h : FR σ p pb k) (e1 : σ'.2[p]? = σ.2[p]?) (e2 : σ'.2[pb]? = σ.2[pb]?) : FR σ' p pb k := by
  obtain ⟨h1, h2, f, h3, h4⟩ := h
  exact ⟨e1.trans h1, h2, f, e2.trans h3, h4⟩
def Op (p pb : Nat) (σ σ' : ae_S) : Prop := σ'.1 = σ.1 ∧ σ'.2.length = σ.2.length ∧ ∀ q, q ≠ p → q ≠ pb → σ'.2[q]? = σ.2[q]?
theorem Op.refl : Op p pb σ σ := ⟨rfl, rfl, fun _ _ _ => rfl⟩
theorem Op.trans {σ1 σ2 : ae_S} (h : Op p pb σ σ1) (h2 : Op p pb σ1 σ2) : Op p pb σ σ2 := ⟨h2.1.trans h.1, h2.2.1.trans h.2.1, fun q a b => (h2.2.2 q a b).trans (h.2.2 q a b)⟩
section BB
variable {mid pc np : Nat} {L : ae_Ls} {kk : List Value} {P : ae_S × ae_O → Prop}
theorem b_bas {j x : Int32} (ht : ae_tab (at0 mid) pc = some (.inl (o_bas np))) (h : FR σ p pb k) (hj : ¬ (j < 0 ∨ 200 ≤ j.toNatClampNeg)) (hc : ∀ σ', FR σ' p pb k → Op p pb σ σ' → hG ra d mid σ' L kk np P) : hG ra d mid σ L (.int x :: .int j :: .ref pb :: kk) pc P := by
  obtain ⟨h1, h2, f, hf, hb⟩ := h
  refine h_st ht (e_bas1 hf hj) (hc _ ⟨(st_ne (Ne.symm h2.2)).trans h1, h2, _, st_get hf, fun i hi => ?_⟩ ⟨rfl, List.length_set, fun q _ a => st_ne (Ne.symm a)⟩)
  by_cases e : i = j.toNatClampNeg
  · rw [e, pk_us, vp_nar_byte]
    exact pk_fb x
  · rw [pk_un e]
    exact hb i hi
theorem b_put {v : Int32} (ht : ae_tab (at0 mid) pc = some (.inl (o_put 2 1 k_int np))) (h : FR0 σ p pb) (hv : ∃ k', (64 ≤ k' ∧ k' ≤ 200) ∧ v = nI k') (hc : ∀ σ' k', FR σ' p pb k' → Op p pb σ σ' → hG ra d mid σ' L kk np P) : hG ra d mid σ L (.int v :: .ref p :: kk) pc P := by
  obtain ⟨⟨x, h1⟩, h2, f, hf, hb⟩ := h
  obtain ⟨k', hk, rfl⟩ := hv
  exact h_st ht (e_put h1 rfl (Nat.le_of_ble_eq_true rfl)) (hc _ k' ⟨st_get h1, ⟨hk.2, h2⟩, f, (st_ne h2).trans hf, hb⟩ ⟨rfl, List.length_set, fun q a _ => st_ne (Ne.symm a)⟩)
end BB
theorem mmx (x : Int32) : ∃ k', (64 ≤ k' ∧ k' ≤ 200) ∧ (if (if (64 : Int32) < x then x else 64) < 200 then (if (64 : Int32) < x then x else 64) else 200) = nI k' := by
  by_cases h : (64 : Int32) < x
  · rw [if_pos h]
    by_cases h2 : x < 200
    · rw [if_pos h2]
      obtain ⟨j, hj, rfl⟩ := nI_of2 (M := 200) (n := 200) (by decide) (fun z => absurd (Int32.lt_trans h z) (by decide)) (Int32.le_of_lt h2)
      refine ⟨j, ⟨?_, hj⟩, rfl⟩
      exact Nat.le_of_lt (Nat.lt_of_not_le (fun z => absurd (nI_le z (by decide)) (Int32.not_le.mpr h)))
    · rw [if_neg h2]
      exact ⟨200, ⟨by decide, by decide⟩, rfl⟩
  · rw [if_neg h, if_pos (by decide)]
    exact ⟨64, ⟨by decide, by decide⟩, rfl⟩
theorem c_17 (h : FR σ p pb k) (i x : Int32) : hE ra (d + 1) 17 [.ref p, .int i, .int x] σ (pV (fun σ' => FR σ' p pb k ∧ Op p pb σ σ')) := by
  refine h_in rfl rfl (Nat.le_of_ble_eq_true rfl) ?_
  refine h_st rfl rfl ?_
  refine h_st rfl rfl ?_
  refine h_br (fun q1 => ?_) (fun q1 => ?_)
  · exact h_rv rfl (⟨_, rfl, h, Op.refl⟩)
  · refine h_st rfl rfl ?_
    refine h_st rfl rfl ?_
    refine h_st rfl (e_get h.1 rfl) ?_
    refine h_st rfl rfl ?_
    refine h_br (fun q2 => ?_) (fun q2 => ?_)
    · exact h_rv rfl (⟨_, rfl, h, Op.refl⟩)
    · obtain ⟨j, hj, rfl⟩ := i_ix (n := k) (by have := h.2.1; omega) q1 q2
      refine h_st rfl rfl ?_
      refine h_st rfl (e_get h.1 rfl) ?_
      refine h_st rfl rfl ?_
      refine h_st rfl rfl ?_
      refine h_st rfl rfl ?_
      refine b_bas rfl h (nI_in (by have := h.2.1; omega) (by decide)) (fun σ2 h2 o2 => ?_)
      exact h_rv rfl (⟨_, rfl, h2, o2⟩)
theorem c_18 (h : FR σ p pb k) (i x : Int32) : hE ra (d + 2) 18 [.ref p, .int i, .int x] σ (pV (fun σ' => FR σ' p pb k ∧ Op p pb σ σ')) := by
  have ho := Op.refl (p := p) (pb := pb) (σ := σ)
  refine h_in rfl rfl (Nat.le_of_ble_eq_true rfl) ?_
  refine h_st rfl rfl ?_
  refine h_st rfl rfl ?_
  refine h_st rfl rfl ?_
  refine h_st rfl rfl ?_
  refine h_st rfl rfl ?_
  refine h_cv3 rfl (Nat.le_of_ble_eq_true rfl) (e_rcv (h.1)) rfl (c_17 h _ _) (fun σ2 hq => ?_)
  obtain ⟨h2, o2⟩ := hq
  replace ho := ho.trans o2
  replace h := h2
  clear h2 o2
  refine h_st rfl rfl ?_
  refine h_st rfl rfl ?_
  refine h_st rfl rfl ?_
  refine h_st rfl rfl ?_
  refine h_st rfl rfl ?_
  refine h_cv3 rfl (Nat.le_of_ble_eq_true rfl) (e_rcv (h.1)) rfl (c_17 h _ _) (fun σ2 hq => ?_)
  obtain ⟨h2, o2⟩ := hq
  replace ho := ho.trans o2
  replace h := h2
  clear h2 o2
  exact h_rv rfl (⟨_, rfl, h, ho⟩)
theorem c_19 (h : FR σ p pb k) (i x y : Int32) : hE ra (d + 3) 19 [.ref p, .int i, .int x, .int y] σ (pV (fun σ' => FR σ' p pb k ∧ Op p pb σ σ')) := by
  have ho := Op.refl (p := p) (pb := pb) (σ := σ)
  refine h_in rfl rfl (Nat.le_of_ble_eq_true rfl) ?_
  refine h_st rfl rfl ?_
  refine h_st rfl rfl ?_
  refine h_st rfl rfl ?_
  refine h_cv3 rfl (Nat.le_of_ble_eq_true rfl) (e_rcv (h.1)) rfl (c_18 h _ _) (fun σ2 hq => ?_)
  obtain ⟨h2, o2⟩ := hq
  replace ho := ho.trans o2
  replace h := h2
  clear h2 o2
  refine h_st rfl rfl ?_
  refine h_st rfl rfl ?_
  refine h_st rfl rfl ?_
  refine h_st rfl rfl ?_
  refine h_br (fun z => ?_) (fun z => ?_)
  · refine h_st rfl rfl ?_
    refine h_cv3 rfl (Nat.le_of_ble_eq_true rfl) (e_rcv (h.1)) rfl (c_17 h _ _) (fun σ2 hq => ?_)
    obtain ⟨h2, o2⟩ := hq
    replace ho := ho.trans o2
    replace h := h2
    clear h2 o2
    refine h_st rfl rfl ?_
    refine h_st rfl rfl ?_
    refine h_st rfl rfl ?_
    refine h_st rfl rfl ?_
    refine h_st rfl (e_dv (by decide)) ?_
    refine h_cv3 rfl (Nat.le_of_ble_eq_true rfl) (e_rcv (h.1)) rfl (c_17 h _ _) (fun σ2 hq => ?_)
    obtain ⟨h2, o2⟩ := hq
    replace ho := ho.trans o2
    replace h := h2
    clear h2 o2
    exact h_rv rfl (⟨_, rfl, h, ho⟩)
  · refine h_st rfl rfl ?_
    refine h_st rfl rfl ?_
    refine h_cv3 rfl (Nat.le_of_ble_eq_true rfl) (e_rcv (h.1)) rfl (c_17 h _ _) (fun σ2 hq => ?_)
    obtain ⟨h2, o2⟩ := hq
    replace ho := ho.trans o2
    replace h := h2
    clear h2 o2
    refine h_st rfl rfl ?_
    refine h_st rfl rfl ?_
    refine h_st rfl rfl ?_
    refine h_st rfl rfl ?_
    refine h_st rfl (e_dv (by decide)) ?_
    refine h_cv3 rfl (Nat.le_of_ble_eq_true rfl) (e_rcv (h.1)) rfl (c_17 h _ _) (fun σ2 hq => ?_)
    obtain ⟨h2, o2⟩ := hq
    replace ho := ho.trans o2
    replace h := h2
    clear h2 o2
    exact h_rv rfl (⟨_, rfl, h, ho⟩)
theorem c_23 (h : FR σ p pb k) {j : Nat} (hj : j < 2 ^ 30) : hE ra (d + 1) 23 [.ref p, .int (nI j)] σ (pI (fun σ' _ => σ' = σ)) := by
  obtain ⟨h1, h2, f, hf, hb⟩ := h
  refine h_in rfl rfl (Nat.le_of_ble_eq_true rfl) ?_
  refine h_st rfl rfl ?_
  refine h_st rfl rfl ?_
  refine h_pc (if_neg (fun z9 => (nI_pos (by omega)) (of_decide_eq_true z9))) ?_
  refine h_st rfl rfl ?_
  refine h_st rfl rfl ?_
  refine h_st rfl rfl ?_
  refine h_st rfl rfl ?_
  refine h_st rfl (e_get h1 rfl) ?_
  refine h_st rfl rfl ?_
  refine h_br (fun q => ?_) (fun q => ?_)
  · refine h_st rfl rfl ?_
    exact h_rt rfl rfl (⟨_, _, rfl, rfl⟩)
  · have hjk : j + 1 < k := Nat.lt_of_not_le (fun z => q (by show nI k ≤ nI j + 1; rw [nI_1]; exact nI_le z (by omega)))
    have i1 : ¬ (nI j < 0 ∨ 200 ≤ (nI j).toNatClampNeg) := nI_in (by omega) (by decide)
    have i2 : ¬ (nI j + 1 < 0 ∨ 200 ≤ (nI j + 1).toNatClampNeg) := by rw [nI_1]; exact nI_in (by omega) (by decide)
    refine h_st rfl rfl ?_
    refine h_st rfl (e_get h1 rfl) ?_
    refine h_st rfl rfl ?_
    refine h_st rfl (e_ba hf (Or.inl rfl) i1) ?_
    refine h_st rfl rfl ?_
    refine h_st rfl rfl ?_
    refine h_st rfl rfl ?_
    refine h_st rfl rfl ?_
    refine h_st rfl rfl ?_
    refine h_st rfl (e_get h1 rfl) ?_
    refine h_st rfl rfl ?_
    refine h_st rfl rfl ?_
    refine h_st rfl rfl ?_
    refine h_st rfl (e_ba hf (Or.inl rfl) i2) ?_
    refine h_st rfl rfl ?_
    refine h_st rfl rfl ?_
    refine h_st rfl rfl ?_
    refine h_st rfl rfl ?_
    exact h_rt rfl rfl (⟨_, _, rfl, rfl⟩)
theorem c_22l (h : FR σ p pb k) {P : ae_S × ae_O → Prop} (hx : ∀ x1 : Int32, hG ra (d + 1) 22 σ [some (.ref p), some (.int x1), some (.int (nI (14 + 2 * 10)))] [] 31 P) : ∀ (m j : Nat) (x1 : Int32), j + m = 10 → hG ra (d + 1) 22 σ [some (.ref p), some (.int x1), some (.int (nI (14 + 2 * j)))] [] 5 P := by
  intro m
  induction m with
  | zero =>
    intro j x1 hj
    have hj : j = 10 := by omega
    subst hj
    refine h_st rfl rfl ?_
    refine h_st rfl rfl ?_
    refine h_st rfl rfl ?_
    refine h_pc (if_pos (decide_eq_true (nI_le (Nat.le_refl 34) (by decide)))) ?_
    exact hx _
  | succ m ih =>
    intro j x1 hj
    have e2 : nI (14 + 2 * j) + 2 = nI (14 + 2 * (j + 1)) := by rw [show (2 : Int32) = nI 2 from rfl, nI_add]; rfl
    have ih1 := fun x1 => ih (j + 1) x1 (by omega)
    simp only [← e2] at ih1
    refine h_st rfl rfl ?_
    refine h_st rfl rfl ?_
    refine h_st rfl rfl ?_
    refine h_pc (if_neg (fun z9 => (nI_ge (show 14 + 2 * j < 34 by omega) (by decide)) (of_decide_eq_true z9))) ?_
    refine h_st rfl rfl ?_
    refine h_st rfl rfl ?_
    refine h_st rfl rfl ?_
    refine h_br (fun z => ?_) (fun z => ?_)
    · refine h_st rfl rfl ?_
      refine h_st rfl rfl ?_
      exact ih1 _
    · refine h_st rfl rfl ?_
      refine h_st rfl rfl ?_
      refine h_st rfl rfl ?_
      refine h_ci2 rfl (Nat.le_of_ble_eq_true rfl) (e_rcv (h.1)) rfl (c_23 h (by omega)) (fun σ' y hq => ?_)
      subst hq
      refine h_st rfl rfl ?_
      refine h_st rfl rfl ?_
      refine h_st rfl rfl ?_
      refine h_st rfl rfl ?_
      exact ih1 _
theorem c_22 (h : FR σ p pb k) : hE ra (d + 2) 22 [.ref p] σ (pI (fun σ' _ => σ' = σ)) := by
  refine h_in rfl rfl (Nat.le_of_ble_eq_true rfl) ?_
  refine h_st rfl rfl ?_
  refine h_st rfl rfl ?_
  refine h_st rfl rfl ?_
  refine h_st rfl rfl ?_
  refine c_22l h (fun x1 => ?_) 10 0 _ rfl
  refine h_st rfl rfl ?_
  refine h_st rfl rfl ?_
  refine h_st rfl rfl ?_
  refine h_st rfl rfl ?_
  refine h_st rfl rfl ?_
  refine h_st rfl rfl ?_
  refine h_st rfl rfl ?_
  refine h_st rfl rfl ?_
  refine h_st rfl rfl ?_
  refine h_st rfl rfl ?_
  refine h_st rfl rfl ?_
  refine h_st rfl rfl ?_
  refine h_st rfl rfl ?_
  refine h_st rfl rfl ?_
  refine h_st rfl rfl ?_
  refine h_st rfl rfl ?_
  refine h_st rfl rfl ?_
  refine h_st rfl rfl ?_
  refine h_st rfl rfl ?_
  refine h_st rfl rfl ?_
  refine h_st rfl rfl ?_
  exact h_rt rfl rfl (⟨_, _, rfl, rfl⟩)
theorem c_24l (hr : (ra 3).1 = 16) (h4 : 4 ≤ k) (h : FR σ p pb k) {P : ae_S × ae_O → Prop} (hx : ∀ x1 : Int32, hG ra d 24 σ [some (.ref p), some (.int x1), some (.int (nI (k - 4)))] [] 59 P) : ∀ (m j : Nat) (x1 : Int32), j + m = k - 4 → hG ra d 24 σ [some (.ref p), some (.int x1), some (.int (nI j))] [] 4 P := by
  obtain ⟨h1, h2, f, hf, hb⟩ := h
  have e4 : nI k - 4 = nI (k - 4) := pk_sub (a := k) (b := 4) (by omega)
  intro m
  induction m with
  | zero =>
    intro j x1 hj
    have hj : j = k - 4 := by omega
    subst hj
    refine h_st rfl rfl ?_
    refine h_st rfl rfl ?_
    refine h_st rfl (e_get h1 rfl) ?_
    refine h_st rfl rfl ?_
    refine h_st rfl rfl ?_
    refine h_st rfl rfl ?_
    refine h_pc (if_pos (decide_eq_true ((by show nI k - 4 ≤ _; rw [e4]; exact nI_le (Nat.le_refl _) (by omega))))) ?_
    exact hx _
  | succ m ih =>
    intro j x1 hj
    have ih1 := fun x1 => ih (j + 1) x1 (by omega)
    simp only [← nI_1] at ih1
    refine h_st rfl rfl ?_
    refine h_st rfl rfl ?_
    refine h_st rfl (e_get h1 rfl) ?_
    refine h_st rfl rfl ?_
    refine h_st rfl rfl ?_
    refine h_st rfl rfl ?_
    refine h_pc (if_neg (fun z9 => (fun q => absurd (show nI k - 4 ≤ nI j from q) (by rw [e4]; exact nI_ge (by omega) (by omega))) (of_decide_eq_true z9))) ?_
    refine h_st rfl rfl ?_
    refine h_st rfl rfl ?_
    refine h_st rfl (e_get h1 rfl) ?_
    refine h_st rfl rfl ?_
    refine h_st rfl (e_ba hf (Or.inl rfl) (nI_in (by omega) (by decide))) ?_
    refine h_st rfl rfl ?_
    refine h_st rfl rfl ?_
    refine h_st rfl rfl ?_
    refine h_st rfl rfl ?_
    refine h_st rfl rfl ?_
    refine h_st rfl rfl ?_
    refine h_st rfl rfl ?_
    refine h_st rfl rfl ?_
    refine h_st rfl rfl ?_
    refine h_st rfl rfl ?_
    refine h_st rfl rfl ?_
    refine h_st rfl (e_ro (by decide) (by rw [hr]; exact pk_andIn _ 4 (by decide) (by decide))) ?_
    refine h_st rfl rfl ?_
    refine h_st rfl rfl ?_
    refine h_st rfl rfl ?_
    refine h_st rfl rfl ?_
    refine h_st rfl rfl ?_
    refine h_st rfl rfl ?_
    refine h_st rfl rfl ?_
    refine h_st rfl rfl ?_
    refine h_st rfl rfl ?_
    refine h_st rfl (e_ro (by decide) (by rw [hr]; exact pk_andIn _ 4 (by decide) (by decide))) ?_
    refine h_st rfl rfl ?_
    refine h_st rfl rfl ?_
    refine h_st rfl rfl ?_
    refine h_st rfl rfl ?_
    exact ih1 _
theorem c_24 (hr : (ra 3).1 = 16) (h : FR σ p pb k) : hE ra (d + 1) 24 [.ref p] σ (pI (fun σ' _ => σ' = σ)) := by
  by_cases h4 : 4 ≤ k
  · refine h_in rfl rfl (Nat.le_of_ble_eq_true rfl) ?_
    refine h_st rfl rfl ?_
    refine h_st rfl rfl ?_
    refine h_st rfl rfl ?_
    refine h_st rfl rfl ?_
    refine c_24l hr h4 h (fun x1 => ?_) (k - 4) 0 _ (by omega)
    refine h_st rfl rfl ?_
    refine h_st rfl rfl ?_
    refine h_st rfl rfl ?_
    exact h_rt rfl rfl (⟨_, _, rfl, rfl⟩)
  · have hk3 : k = 0 ∨ k = 1 ∨ k = 2 ∨ k = 3 := by omega
    have hneg : nI k - 4 ≤ 0 := by rcases hk3 with rfl | rfl | rfl | rfl <;> decide
    refine h_in rfl rfl (Nat.le_of_ble_eq_true rfl) ?_
    refine h_st rfl rfl ?_
    refine h_st rfl rfl ?_
    refine h_st rfl rfl ?_
    refine h_st rfl rfl ?_
    refine h_st rfl rfl ?_
    refine h_st rfl rfl ?_
    refine h_st rfl (e_get h.1 rfl) ?_
    refine h_st rfl rfl ?_
    refine h_st rfl rfl ?_
    refine h_st rfl rfl ?_
    refine h_pc (if_pos (decide_eq_true (hneg))) ?_
    refine h_st rfl rfl ?_
    refine h_st rfl rfl ?_
    refine h_st rfl rfl ?_
    exact h_rt rfl rfl (⟨_, _, rfl, rfl⟩)
theorem c_21l {x y : Int32} {P : ae_S × ae_O → Prop} (hx : ∀ σ, FR σ p pb k → Op p pb σ0 σ → hG ra (d + 1) 21 σ [some (.ref p), some (.int x), some (.int y), some (.int (nI 4))] [] 59 P) : ∀ (m j : Nat) (σ : ae_S), j + m = 4 → FR σ p pb k → Op p pb σ0 σ → hG ra (d + 1) 21 σ [some (.ref p), some (.int x), some (.int y), some (.int (nI j))] [] 30 P := by
  intro m
  induction m with
  | zero =>
    intro j σ hj h ho
    have hj : j = 4 := by omega
    subst hj
    refine h_st rfl rfl ?_
    refine h_st rfl rfl ?_
    refine h_st rfl rfl ?_
    refine h_pc (if_pos (decide_eq_true (nI_le (Nat.le_refl 4) (by decide)))) ?_
    exact hx _ h ho
  | succ m ih =>
    intro j σ hj h ho
    have ih1 := fun σ h1 h2 => ih (j + 1) σ (by omega) h1 h2
    simp only [← nI_1] at ih1
    refine h_st rfl rfl ?_
    refine h_st rfl rfl ?_
    refine h_st rfl rfl ?_
    refine h_pc (if_neg (fun z9 => (nI_ge (show j < 4 by omega) (by decide)) (of_decide_eq_true z9))) ?_
    refine h_st rfl rfl ?_
    refine h_st rfl rfl ?_
    refine h_st rfl (e_get h.1 rfl) ?_
    refine h_st rfl rfl ?_
    refine h_st rfl rfl ?_
    refine h_st rfl rfl ?_
    refine h_st rfl rfl ?_
    refine h_st rfl rfl ?_
    refine h_st rfl rfl ?_
    refine h_st rfl rfl ?_
    refine h_st rfl rfl ?_
    refine h_st rfl rfl ?_
    refine h_cv3 rfl (Nat.le_of_ble_eq_true rfl) (e_rcv (h.1)) rfl (c_17 h _ _) (fun σ2 hq => ?_)
    obtain ⟨h2, o2⟩ := hq
    replace ho := ho.trans o2
    replace h := h2
    clear h2 o2
    refine h_st rfl rfl ?_
    refine h_st rfl rfl ?_
    exact ih1 _ h ho
theorem c_21 (hr : (ra 3).1 = 16) (h : FR σ p pb k) (x : Int32) : hE ra (d + 3) 21 [.ref p, .int x] σ (pV (fun σ' => FR σ' p pb k ∧ Op p pb σ σ')) := by
  have ho := Op.refl (p := p) (pb := pb) (σ := σ)
  refine h_in rfl rfl (Nat.le_of_ble_eq_true rfl) ?_
  refine h_st rfl rfl ?_
  refine h_st rfl rfl ?_
  refine h_st rfl rfl ?_
  refine h_ci1 rfl (Nat.le_of_ble_eq_true rfl) (e_rcv (h.1)) rfl (c_22 h) (fun σ2 y hq => ?_)
  subst hq
  refine h_cv3 rfl (Nat.le_of_ble_eq_true rfl) (e_rcv (h.1)) rfl (c_18 h _ _) (fun σ2 hq => ?_)
  obtain ⟨h2, o2⟩ := hq
  replace ho := ho.trans o2
  replace h := h2
  clear h2 o2
  refine h_st rfl rfl ?_
  refine h_st rfl rfl ?_
  refine h_st rfl (e_get h.1 rfl) ?_
  refine h_st rfl rfl ?_
  refine h_st rfl rfl ?_
  refine h_st rfl rfl ?_
  refine h_st rfl rfl ?_
  refine h_st rfl rfl ?_
  refine h_cv3 rfl (Nat.le_of_ble_eq_true rfl) (e_rcv (h.1)) rfl (c_17 h _ _) (fun σ2 hq => ?_)
  obtain ⟨h2, o2⟩ := hq
  replace ho := ho.trans o2
  replace h := h2
  clear h2 o2
  refine h_st rfl rfl ?_
  refine h_ci1 rfl (Nat.le_of_ble_eq_true rfl) (e_rcv (h.1)) rfl (c_24 hr h) (fun σ3 y hq => ?_)
  subst hq
  refine h_st rfl rfl ?_
  refine h_st rfl rfl ?_
  refine h_st rfl rfl ?_
  refine c_21l (fun σ h ho => ?_) 4 0 _ rfl h ho
  exact h_rv rfl (⟨_, rfl, h, ho⟩)
theorem c_16l {a1 a2 a3 a4 : Int32} {P : ae_S × ae_O → Prop} (hx : ∀ σ, FR σ p pb k → Op p pb σ0 σ → hG ra (d + 2) 16 σ [some (.ref p), some (.int a1), some (.int a2), some (.int a3), some (.int a4), some (.int (nI k))] [] 46 P) : ∀ (m j : Nat) (σ : ae_S), j + m = k → FR σ p pb k → Op p pb σ0 σ → hG ra (d + 2) 16 σ [some (.ref p), some (.int a1), some (.int a2), some (.int a3), some (.int a4), some (.int (nI j))] [] 23 P := by
  intro m
  induction m with
  | zero =>
    intro j σ hj h ho
    have hj : j = k := by omega
    subst hj
    have hk := h.2.1
    refine h_st rfl rfl ?_
    refine h_st rfl rfl ?_
    refine h_st rfl (e_get h.1 rfl) ?_
    refine h_st rfl rfl ?_
    refine h_pc (if_pos (decide_eq_true (nI_le (Nat.le_refl _) (by omega)))) ?_
    exact hx _ h ho
  | succ m ih =>
    intro j σ hj h ho
    have hk := h.2.1
    have ih1 := fun σ h1 h2 => ih (j + 1) σ (by omega) h1 h2
    simp only [← nI_1] at ih1
    refine h_st rfl rfl ?_
    refine h_st rfl rfl ?_
    refine h_st rfl (e_get h.1 rfl) ?_
    refine h_st rfl rfl ?_
    refine h_pc (if_neg (fun z9 => (nI_ge (show j < k by omega) (by omega)) (of_decide_eq_true z9))) ?_
    refine h_st rfl rfl ?_
    refine h_st rfl (e_get h.1 rfl) ?_
    refine h_st rfl rfl ?_
    refine h_st rfl rfl ?_
    refine b_bas rfl h (nI_in (show j < 200 by omega) (by decide)) (fun σ2 h2 o2 => ?_)
    refine h_st rfl rfl ?_
    refine h_st rfl rfl ?_
    exact ih1 _ h2 (ho.trans o2)
theorem c_16 (h : FR0 σ p pb) (a1 a2 a3 a4 : Int32) : hE ra (d + 3) 16 [.ref p, .int a1, .int a2, .int a3, .int a4] σ (pV (fun σ' => ∃ k', FR σ' p pb k' ∧ Op p pb σ σ')) := by
  have ho := Op.refl (p := p) (pb := pb) (σ := σ)
  refine h_in rfl rfl (Nat.le_of_ble_eq_true rfl) ?_
  refine h_st rfl rfl ?_
  refine h_st rfl rfl ?_
  refine h_st rfl rfl ?_
  refine h_st rfl rfl ?_
  refine h_st rfl rfl ?_
  refine h_st rfl rfl ?_
  refine h_st rfl rfl ?_
  refine h_st rfl rfl ?_
  refine b_put rfl h (mmx _) (fun σ2 k2 h2 o2 => ?_)
  replace ho := ho.trans o2
  replace h := h2
  clear h2 o2
  refine h_st rfl rfl ?_
  refine h_st rfl rfl ?_
  refine c_16l (fun σ h ho => ?_) k2 0 _ (by omega) h ho
  refine h_st rfl rfl ?_
  refine h_st rfl rfl ?_
  refine h_st rfl rfl ?_
  refine h_cv3 rfl (Nat.le_of_ble_eq_true rfl) (e_rcv (h.1)) rfl (c_17 h _ _) (fun σ2 hq => ?_)
  obtain ⟨h2, o2⟩ := hq
  replace ho := ho.trans o2
  replace h := h2
  clear h2 o2
  refine h_st rfl rfl ?_
  refine h_st rfl rfl ?_
  refine h_st rfl rfl ?_
  refine h_cv3 rfl (Nat.le_of_ble_eq_true rfl) (e_rcv (h.1)) rfl (c_17 h _ _) (fun σ2 hq => ?_)
  obtain ⟨h2, o2⟩ := hq
  replace ho := ho.trans o2
  replace h := h2
  clear h2 o2
  refine h_st rfl rfl ?_
  refine h_st rfl rfl ?_
  refine h_st rfl rfl ?_
  refine h_cv3 rfl (Nat.le_of_ble_eq_true rfl) (e_rcv (h.1)) rfl (c_17 h _ _) (fun σ2 hq => ?_)
  obtain ⟨h2, o2⟩ := hq
  replace ho := ho.trans o2
  replace h := h2
  clear h2 o2
  refine h_st rfl rfl ?_
  refine h_st rfl rfl ?_
  refine h_st rfl rfl ?_
  refine h_cv3 rfl (Nat.le_of_ble_eq_true rfl) (e_rcv (h.1)) rfl (c_17 h _ _) (fun σ2 hq => ?_)
  obtain ⟨h2, o2⟩ := hq
  replace ho := ho.trans o2
  replace h := h2
  clear h2 o2
  refine h_st rfl rfl ?_
  refine h_st rfl rfl ?_
  refine h_st rfl rfl ?_
  refine h_st rfl rfl ?_
  refine h_br (fun z => ?_) (fun z => ?_)
  · refine h_st rfl rfl ?_
    refine h_cv3 rfl (Nat.le_of_ble_eq_true rfl) (e_rcv (h.1)) rfl (c_17 h _ _) (fun σ2 hq => ?_)
    obtain ⟨h2, o2⟩ := hq
    replace ho := ho.trans o2
    replace h := h2
    clear h2 o2
    refine h_st rfl rfl ?_
    refine h_st rfl rfl ?_
    refine h_st rfl rfl ?_
    refine h_cv3 rfl (Nat.le_of_ble_eq_true rfl) (e_rcv (h.1)) rfl (c_17 h _ _) (fun σ2 hq => ?_)
    obtain ⟨h2, o2⟩ := hq
    replace ho := ho.trans o2
    replace h := h2
    clear h2 o2
    refine h_st rfl rfl ?_
    refine h_st rfl rfl ?_
    refine h_st rfl rfl ?_
    refine h_cv3 rfl (Nat.le_of_ble_eq_true rfl) (e_rcv (h.1)) rfl (c_17 h _ _) (fun σ2 hq => ?_)
    obtain ⟨h2, o2⟩ := hq
    replace ho := ho.trans o2
    replace h := h2
    clear h2 o2
    refine h_st rfl rfl ?_
    refine h_st rfl rfl ?_
    refine h_st rfl rfl ?_
    refine h_st rfl rfl ?_
    refine h_st rfl rfl ?_
    refine h_cv3 rfl (Nat.le_of_ble_eq_true rfl) (e_rcv (h.1)) rfl (c_18 h _ _) (fun σ2 hq => ?_)
    obtain ⟨h2, o2⟩ := hq
    replace ho := ho.trans o2
    replace h := h2
    clear h2 o2
    refine h_st rfl rfl ?_
    refine h_st rfl rfl ?_
    refine h_st rfl rfl ?_
    refine h_cv3 rfl (Nat.le_of_ble_eq_true rfl) (e_rcv (h.1)) rfl (c_17 h _ _) (fun σ2 hq => ?_)
    obtain ⟨h2, o2⟩ := hq
    replace ho := ho.trans o2
    replace h := h2
    clear h2 o2
    refine h_st rfl rfl ?_
    refine h_st rfl rfl ?_
    refine h_st rfl rfl ?_
    refine h_cv3 rfl (Nat.le_of_ble_eq_true rfl) (e_rcv (h.1)) rfl (c_17 h _ _) (fun σ2 hq => ?_)
    obtain ⟨h2, o2⟩ := hq
    replace ho := ho.trans o2
    replace h := h2
    clear h2 o2
    refine h_st rfl rfl ?_
    refine h_st rfl rfl ?_
    refine h_st rfl rfl ?_
    refine h_cv3 rfl (Nat.le_of_ble_eq_true rfl) (e_rcv (h.1)) rfl (c_17 h _ _) (fun σ2 hq => ?_)
    obtain ⟨h2, o2⟩ := hq
    replace ho := ho.trans o2
    replace h := h2
    clear h2 o2
    refine h_st rfl rfl ?_
    refine h_st rfl rfl ?_
    refine h_st rfl rfl ?_
    refine h_cv3 rfl (Nat.le_of_ble_eq_true rfl) (e_rcv (h.1)) rfl (c_17 h _ _) (fun σ2 hq => ?_)
    obtain ⟨h2, o2⟩ := hq
    replace ho := ho.trans o2
    replace h := h2
    clear h2 o2
    refine h_st rfl rfl ?_
    refine h_st rfl rfl ?_
    refine h_st rfl rfl ?_
    refine h_cv3 rfl (Nat.le_of_ble_eq_true rfl) (e_rcv (h.1)) rfl (c_17 h _ _) (fun σ2 hq => ?_)
    obtain ⟨h2, o2⟩ := hq
    replace ho := ho.trans o2
    replace h := h2
    clear h2 o2
    refine h_st rfl rfl ?_
    refine h_st rfl rfl ?_
    refine h_st rfl rfl ?_
    refine h_cv3 rfl (Nat.le_of_ble_eq_true rfl) (e_rcv (h.1)) rfl (c_17 h _ _) (fun σ2 hq => ?_)
    obtain ⟨h2, o2⟩ := hq
    replace ho := ho.trans o2
    replace h := h2
    clear h2 o2
    refine h_st rfl rfl ?_
    refine h_st rfl rfl ?_
    refine h_st rfl rfl ?_
    refine h_cv3 rfl (Nat.le_of_ble_eq_true rfl) (e_rcv (h.1)) rfl (c_17 h _ _) (fun σ2 hq => ?_)
    obtain ⟨h2, o2⟩ := hq
    replace ho := ho.trans o2
    replace h := h2
    clear h2 o2
    refine h_st rfl rfl ?_
    refine h_st rfl rfl ?_
    refine h_st rfl rfl ?_
    refine h_cv3 rfl (Nat.le_of_ble_eq_true rfl) (e_rcv (h.1)) rfl (c_17 h _ _) (fun σ2 hq => ?_)
    obtain ⟨h2, o2⟩ := hq
    replace ho := ho.trans o2
    replace h := h2
    clear h2 o2
    refine h_st rfl rfl ?_
    refine h_st rfl rfl ?_
    refine h_st rfl rfl ?_
    refine h_cv3 rfl (Nat.le_of_ble_eq_true rfl) (e_rcv (h.1)) rfl (c_17 h _ _) (fun σ2 hq => ?_)
    obtain ⟨h2, o2⟩ := hq
    replace ho := ho.trans o2
    replace h := h2
    clear h2 o2
    exact h_rv rfl (⟨_, rfl, _, h, ho⟩)
  · refine h_st rfl rfl ?_
    refine h_st rfl rfl ?_
    refine h_cv3 rfl (Nat.le_of_ble_eq_true rfl) (e_rcv (h.1)) rfl (c_17 h _ _) (fun σ2 hq => ?_)
    obtain ⟨h2, o2⟩ := hq
    replace ho := ho.trans o2
    replace h := h2
    clear h2 o2
    refine h_st rfl rfl ?_
    refine h_st rfl rfl ?_
    refine h_st rfl rfl ?_
    refine h_cv3 rfl (Nat.le_of_ble_eq_true rfl) (e_rcv (h.1)) rfl (c_17 h _ _) (fun σ2 hq => ?_)
    obtain ⟨h2, o2⟩ := hq
    replace ho := ho.trans o2
    replace h := h2
    clear h2 o2
    refine h_st rfl rfl ?_
    refine h_st rfl rfl ?_
    refine h_st rfl rfl ?_
    refine h_cv3 rfl (Nat.le_of_ble_eq_true rfl) (e_rcv (h.1)) rfl (c_17 h _ _) (fun σ2 hq => ?_)
    obtain ⟨h2, o2⟩ := hq
    replace ho := ho.trans o2
    replace h := h2
    clear h2 o2
    refine h_st rfl rfl ?_
    refine h_st rfl rfl ?_
    refine h_st rfl rfl ?_
    refine h_st rfl rfl ?_
    refine h_st rfl rfl ?_
    refine h_cv3 rfl (Nat.le_of_ble_eq_true rfl) (e_rcv (h.1)) rfl (c_18 h _ _) (fun σ2 hq => ?_)
    obtain ⟨h2, o2⟩ := hq
    replace ho := ho.trans o2
    replace h := h2
    clear h2 o2
    refine h_st rfl rfl ?_
    refine h_st rfl rfl ?_
    refine h_st rfl rfl ?_
    refine h_cv3 rfl (Nat.le_of_ble_eq_true rfl) (e_rcv (h.1)) rfl (c_17 h _ _) (fun σ2 hq => ?_)
    obtain ⟨h2, o2⟩ := hq
    replace ho := ho.trans o2
    replace h := h2
    clear h2 o2
    refine h_st rfl rfl ?_
    refine h_st rfl rfl ?_
    refine h_st rfl rfl ?_
    refine h_cv3 rfl (Nat.le_of_ble_eq_true rfl) (e_rcv (h.1)) rfl (c_17 h _ _) (fun σ2 hq => ?_)
    obtain ⟨h2, o2⟩ := hq
    replace ho := ho.trans o2
    replace h := h2
    clear h2 o2
    refine h_st rfl rfl ?_
    refine h_st rfl rfl ?_
    refine h_st rfl rfl ?_
    refine h_cv3 rfl (Nat.le_of_ble_eq_true rfl) (e_rcv (h.1)) rfl (c_17 h _ _) (fun σ2 hq => ?_)
    obtain ⟨h2, o2⟩ := hq
    replace ho := ho.trans o2
    replace h := h2
    clear h2 o2
    refine h_st rfl rfl ?_
    refine h_st rfl rfl ?_
    refine h_st rfl rfl ?_
    refine h_cv3 rfl (Nat.le_of_ble_eq_true rfl) (e_rcv (h.1)) rfl (c_17 h _ _) (fun σ2 hq => ?_)
    obtain ⟨h2, o2⟩ := hq
    replace ho := ho.trans o2
    replace h := h2
    clear h2 o2
    refine h_st rfl rfl ?_
    refine h_st rfl rfl ?_
    refine h_st rfl rfl ?_
    refine h_cv3 rfl (Nat.le_of_ble_eq_true rfl) (e_rcv (h.1)) rfl (c_17 h _ _) (fun σ2 hq => ?_)
    obtain ⟨h2, o2⟩ := hq
    replace ho := ho.trans o2
    replace h := h2
    clear h2 o2
    refine h_st rfl rfl ?_
    refine h_st rfl rfl ?_
    refine h_st rfl rfl ?_
    refine h_cv3 rfl (Nat.le_of_ble_eq_true rfl) (e_rcv (h.1)) rfl (c_17 h _ _) (fun σ2 hq => ?_)
    obtain ⟨h2, o2⟩ := hq
    replace ho := ho.trans o2
    replace h := h2
    clear h2 o2
    refine h_st rfl rfl ?_
    refine h_st rfl rfl ?_
    refine h_st rfl rfl ?_
    refine h_cv3 rfl (Nat.le_of_ble_eq_true rfl) (e_rcv (h.1)) rfl (c_17 h _ _) (fun σ2 hq => ?_)
    obtain ⟨h2, o2⟩ := hq
    replace ho := ho.trans o2
    replace h := h2
    clear h2 o2
    refine h_st rfl rfl ?_
    refine h_st rfl rfl ?_
    refine h_st rfl rfl ?_
    refine h_cv3 rfl (Nat.le_of_ble_eq_true rfl) (e_rcv (h.1)) rfl (c_17 h _ _) (fun σ2 hq => ?_)
    obtain ⟨h2, o2⟩ := hq
    replace ho := ho.trans o2
    replace h := h2
    clear h2 o2
    refine h_st rfl rfl ?_
    refine h_st rfl rfl ?_
    refine h_st rfl rfl ?_
    refine h_cv3 rfl (Nat.le_of_ble_eq_true rfl) (e_rcv (h.1)) rfl (c_17 h _ _) (fun σ2 hq => ?_)
    obtain ⟨h2, o2⟩ := hq
    replace ho := ho.trans o2
    replace h := h2
    clear h2 o2
    exact h_rv rfl (⟨_, rfl, _, h, ho⟩)
end SP8
