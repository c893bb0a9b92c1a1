section TY3
variable {ra : ae_R} {d : Nat} {σ σ0 : ae_S} {p pb k : Nat}
theorem c_35 (h : FR σ p pb k) (i : Int32) : hE ra (d + 1) 35 [.ref p, .int i] σ (pI (fun σ' _ => σ' = σ)) := by
  obtain ⟨h1, h2, f, hf, hb⟩ := h
  refine h_in rfl rfl (Nat.le_of_ble_eq_true rfl) ?_
  refine h_st rfl rfl ?_
  refine h_st rfl rfl ?_
  refine h_br (fun q1 => ?_) (fun q1 => ?_)
  · refine h_st rfl rfl ?_
    exact h_rt rfl rfl (⟨_, _, rfl, rfl⟩)
  · refine h_st rfl rfl ?_
    refine h_st rfl rfl ?_
    refine h_st rfl (e_get h1 rfl) ?_
    refine h_st rfl rfl ?_
    refine h_br (fun q2 => ?_) (fun q2 => ?_)
    · refine h_st rfl rfl ?_
      exact h_rt rfl rfl (⟨_, _, rfl, rfl⟩)
    · obtain ⟨j, hj, rfl⟩ := i_ix (n := k) (by omega) q1 q2
      refine h_st rfl rfl ?_
      refine h_st rfl (e_get h1 rfl) ?_
      refine h_st rfl rfl ?_
      refine h_st rfl (e_ba hf (Or.inl rfl) (nI_in (show j < 200 by omega) (by decide))) ?_
      refine h_st rfl rfl ?_
      refine h_st rfl rfl ?_
      refine h_st rfl rfl ?_
      exact h_rt rfl rfl (⟨_, _, rfl, rfl⟩)
theorem c_36 (h : FR σ p pb k) : hE ra (d + 2) 36 [.ref p] σ (pI (fun σ' _ => σ' = σ)) := by
  refine h_in rfl rfl (Nat.le_of_ble_eq_true rfl) ?_
  refine h_st rfl rfl ?_
  refine h_st rfl rfl ?_
  refine h_ci2 rfl (Nat.le_of_ble_eq_true rfl) (e_rcv (h.1)) rfl (c_35 h 0) (fun σ' y hy => ?_)
  subst hy
  refine h_st rfl rfl ?_
  refine h_st rfl rfl ?_
  refine h_br (fun q1 => ?_) (fun q1 => ?_)
  · refine h_st rfl rfl ?_
    refine h_st rfl rfl ?_
    refine h_st rfl rfl ?_
    refine h_st rfl rfl ?_
    refine h_pc (if_pos (by decide)) ?_
    refine h_st rfl rfl ?_
    exact h_rt rfl rfl (⟨_, _, rfl, rfl⟩)
  · refine h_st rfl rfl ?_
    refine h_st rfl rfl ?_
    refine h_ci2 rfl (Nat.le_of_ble_eq_true rfl) (e_rcv (h.1)) rfl (c_23 h (j := 1) (by decide)) (fun σ' y hy => ?_)
    subst hy
    refine h_st rfl rfl ?_
    refine h_br (fun q2 => ?_) (fun q2 => ?_)
    · refine h_st rfl rfl ?_
      refine h_st rfl rfl ?_
      refine h_st rfl rfl ?_
      refine h_st rfl rfl ?_
      refine h_pc (if_pos (by decide)) ?_
      refine h_st rfl rfl ?_
      exact h_rt rfl rfl (⟨_, _, rfl, rfl⟩)
    · refine h_st rfl rfl ?_
      refine h_st rfl rfl ?_
      refine h_ci2 rfl (Nat.le_of_ble_eq_true rfl) (e_rcv (h.1)) rfl (c_23 h (j := 3) (by decide)) (fun σ' y hy => ?_)
      subst hy
      refine h_st rfl rfl ?_
      refine h_br (fun q3 => ?_) (fun q3 => ?_)
      · refine h_st rfl rfl ?_
        refine h_st rfl rfl ?_
        refine h_st rfl rfl ?_
        refine h_st rfl rfl ?_
        refine h_pc (if_pos (by decide)) ?_
        refine h_st rfl rfl ?_
        exact h_rt rfl rfl (⟨_, _, rfl, rfl⟩)
      · refine h_st rfl rfl ?_
        refine h_st rfl rfl ?_
        refine h_st rfl rfl ?_
        refine h_st rfl rfl ?_
        refine h_st rfl rfl ?_
        refine h_pc (if_neg (by decide)) ?_
        refine h_st rfl rfl ?_
        refine h_st rfl rfl ?_
        refine h_ci2 rfl (Nat.le_of_ble_eq_true rfl) (e_rcv (h.1)) rfl (c_35 h 5) (fun σ' y hy => ?_)
        subst hy
        refine h_st rfl rfl ?_
        exact h_rt rfl rfl (⟨_, _, rfl, rfl⟩)
theorem c_42 (h : FR σ p pb k) : hE ra (d + 2) 42 [.ref p] σ (pI (fun σ' _ => σ' = σ)) := by
  refine h_in rfl rfl (Nat.le_of_ble_eq_true rfl) ?_
  refine h_st rfl rfl ?_
  refine h_st rfl rfl ?_
  refine h_ci2 rfl (Nat.le_of_ble_eq_true rfl) (e_rcv (h.1)) rfl (c_23 h (j := 16) (by decide)) (fun σ' y hy => ?_)
  subst hy
  refine h_st rfl rfl ?_
  refine h_st rfl rfl ?_
  exact h_rt rfl rfl (⟨_, _, rfl, rfl⟩)
theorem c_43 (h : FR σ p pb k) : hE ra (d + 2) 43 [.ref p] σ (pI (fun σ' _ => σ' = σ)) := by
  refine h_in rfl rfl (Nat.le_of_ble_eq_true rfl) ?_
  refine h_st rfl rfl ?_
  refine h_st rfl rfl ?_
  refine h_st rfl (e_get h.1 rfl) ?_
  refine h_st rfl rfl ?_
  refine h_st rfl rfl ?_
  refine h_st rfl rfl ?_
  refine h_st rfl rfl ?_
  refine h_ci2 rfl (Nat.le_of_ble_eq_true rfl) (e_rcv (h.1)) rfl (c_35 h _) (fun σ' y hy => ?_)
  subst hy
  exact h_rt rfl rfl (⟨_, _, rfl, rfl⟩)
theorem c_48 (h : FR σ p pb k) : hE ra (d + 2) 48 [.ref p] σ (pI (fun σ' _ => σ' = σ)) := by
  refine h_in rfl rfl (Nat.le_of_ble_eq_true rfl) ?_
  refine h_st rfl rfl ?_
  refine h_st rfl rfl ?_
  refine h_ci2 rfl (Nat.le_of_ble_eq_true rfl) (e_rcv (h.1)) rfl (c_35 h 21) (fun σ' y hy => ?_)
  subst hy
  refine h_st rfl rfl ?_
  refine h_st rfl rfl ?_
  exact h_rt rfl rfl (⟨_, _, rfl, rfl⟩)
theorem c_49 (h : FR σ p pb k) : hE ra (d + 2) 49 [.ref p] σ (pI (fun σ' _ => σ' = σ)) := by
  refine h_in rfl rfl (Nat.le_of_ble_eq_true rfl) ?_
  refine h_st rfl rfl ?_
  refine h_st rfl rfl ?_
  refine h_ci2 rfl (Nat.le_of_ble_eq_true rfl) (e_rcv (h.1)) rfl (c_23 h (j := 18) (by decide)) (fun σ' y hy => ?_)
  subst hy
  exact h_rt rfl rfl (⟨_, _, rfl, rfl⟩)
theorem c_51 (h : FR σ p pb k) : hE ra (d + 2) 51 [.ref p] σ (pI (fun σ' _ => σ' = σ)) := by
  refine h_in rfl rfl (Nat.le_of_ble_eq_true rfl) ?_
  refine h_st rfl rfl ?_
  refine h_st rfl rfl ?_
  refine h_ci2 rfl (Nat.le_of_ble_eq_true rfl) (e_rcv (h.1)) rfl (c_35 h 20) (fun σ' y hy => ?_)
  subst hy
  refine h_st rfl rfl ?_
  refine h_st rfl rfl ?_
  refine h_st rfl rfl ?_
  refine h_br (fun q => ?_) (fun q => ?_)
  · refine h_st rfl rfl ?_
    exact h_rt rfl rfl (⟨_, _, rfl, rfl⟩)
  · refine h_st rfl rfl ?_
    refine h_st rfl rfl ?_
    exact h_rt rfl rfl (⟨_, _, rfl, rfl⟩)
theorem c_41 (h : FR σ p pb k) : hE ra (d + 3) 41 [.ref p] σ (pI (fun σ' _ => σ' = σ)) := by
  refine h_in rfl rfl (Nat.le_of_ble_eq_true rfl) ?_
  refine h_st rfl rfl ?_
  refine h_st rfl rfl ?_
  refine h_ci2 rfl (Nat.le_of_ble_eq_true rfl) (e_rcv (h.1)) rfl (c_35 h 12) (fun σ' y hy => ?_)
  subst hy
  refine h_st rfl rfl ?_
  refine h_st rfl rfl ?_
  refine h_br (fun q1 => ?_) (fun q1 => ?_)
  · refine h_st rfl rfl ?_
    exact h_rt rfl rfl (⟨_, _, rfl, rfl⟩)
  · refine h_st rfl rfl ?_
    refine h_st rfl rfl ?_
    refine h_ci2 rfl (Nat.le_of_ble_eq_true rfl) (e_rcv (h.1)) rfl (c_35 h 13) (fun σ' y hy => ?_)
    subst hy
    refine h_st rfl rfl ?_
    refine h_br (fun q2 => ?_) (fun q2 => ?_)
    · refine h_st rfl rfl ?_
      exact h_rt rfl rfl (⟨_, _, rfl, rfl⟩)
    · refine h_st rfl rfl ?_
      refine h_st rfl rfl ?_
      refine h_ci2 rfl (Nat.le_of_ble_eq_true rfl) (e_rcv (h.1)) rfl (c_35 h 14) (fun σ' y hy => ?_)
      subst hy
      refine h_st rfl rfl ?_
      refine h_st rfl rfl ?_
      refine h_br (fun q3 => ?_) (fun q3 => ?_)
      · refine h_st rfl rfl ?_
        exact h_rt rfl rfl (⟨_, _, rfl, rfl⟩)
      · refine h_st rfl rfl ?_
        refine h_st rfl rfl ?_
        refine h_ci2 rfl (Nat.le_of_ble_eq_true rfl) (e_rcv (h.1)) rfl (c_35 h 23) (fun σ' y hy => ?_)
        subst hy
        refine h_st rfl rfl ?_
        refine h_st rfl rfl ?_
        refine h_br (fun q4 => ?_) (fun q4 => ?_)
        · refine h_st rfl rfl ?_
          exact h_rt rfl rfl (⟨_, _, rfl, rfl⟩)
        · refine h_st rfl rfl ?_
          refine h_st rfl rfl ?_
          refine h_ci2 rfl (Nat.le_of_ble_eq_true rfl) (e_rcv (h.1)) rfl (c_23 h (j := 24) (by decide)) (fun σ' y hy => ?_)
          subst hy
          refine h_st rfl rfl ?_
          refine h_ci1 rfl (Nat.le_of_ble_eq_true rfl) (e_rcv (h.1)) rfl (c_22 h) (fun σ' y hy => ?_)
          subst hy
          refine h_st rfl rfl ?_
          refine h_br (fun q5 => ?_) (fun q5 => ?_)
          · refine h_st rfl rfl ?_
            exact h_rt rfl rfl (⟨_, _, rfl, rfl⟩)
          · refine h_st rfl rfl ?_
            refine h_ci1 rfl (Nat.le_of_ble_eq_true rfl) (e_rcv (h.1)) rfl (c_42 h) (fun σ' y hy => ?_)
            subst hy
            refine h_st rfl rfl ?_
            refine h_br (fun q6 => ?_) (fun q6 => ?_)
            · refine h_st rfl rfl ?_
              exact h_rt rfl rfl (⟨_, _, rfl, rfl⟩)
            · refine h_st rfl rfl ?_
              refine h_ci1 rfl (Nat.le_of_ble_eq_true rfl) (e_rcv (h.1)) rfl (c_42 h) (fun σ' y hy => ?_)
              subst hy
              refine h_st rfl rfl ?_
              refine h_st rfl (e_get h.1 rfl) ?_
              refine h_st rfl rfl ?_
              refine h_st rfl rfl ?_
              refine h_st rfl rfl ?_
              refine h_br (fun q7 => ?_) (fun q7 => ?_)
              · refine h_st rfl rfl ?_
                exact h_rt rfl rfl (⟨_, _, rfl, rfl⟩)
              · refine h_st rfl rfl ?_
                refine h_st rfl rfl ?_
                exact h_rt rfl rfl (⟨_, _, rfl, rfl⟩)
theorem c_34l (h : FR σ p pb k) {x1 : Int32} {P : ae_S × ae_O → Prop} (hx : hG ra (d + 1) 34 σ [some (.ref p), some (.int x1), some (.int (nI 4))] [] 45 P) (h0 : P (σ, .inl (some (.int 0)))) : ∀ (m j : Nat), j + m = 4 → hG ra (d + 1) 34 σ [some (.ref p), some (.int x1), some (.int (nI j))] [] 7 P := by
  intro m
  induction m with
  | zero =>
    intro j hj
    have hj : j = 4 := by omega
    subst hj
    refine h_st rfl rfl ?_
    refine h_st rfl rfl ?_
    refine h_st rfl rfl ?_
    refine h_pc (if_pos (decide_eq_true (nI_le (Nat.le_refl 4) (by decide)))) ?_
    exact hx
  | succ m ih =>
    intro j hj
    have ih1 := ih (j + 1) (by omega)
    rw [← nI_1] at ih1
    refine h_st rfl rfl ?_
    refine h_st rfl rfl ?_
    refine h_st rfl rfl ?_
    refine h_pc (if_neg (fun z9 => (nI_ge (show j < 4 by omega) (by decide)) (of_decide_eq_true z9))) ?_
    refine h_st rfl rfl ?_
    refine h_st rfl rfl ?_
    refine h_st rfl (e_get h.1 rfl) ?_
    refine h_st rfl rfl ?_
    refine h_st rfl rfl ?_
    refine h_st rfl rfl ?_
    refine h_st rfl rfl ?_
    refine h_ci2 rfl (Nat.le_of_ble_eq_true rfl) (e_rcv (h.1)) rfl (c_35 h _) (fun σ' y hy => ?_)
    subst hy
    refine h_st rfl rfl ?_
    refine h_st rfl rfl ?_
    refine h_st rfl rfl ?_
    refine h_st rfl rfl ?_
    refine h_st rfl rfl ?_
    refine h_st rfl rfl ?_
    refine h_st rfl rfl ?_
    refine h_st rfl rfl ?_
    refine h_br (fun q => ?_) (fun q => ?_)
    · refine h_st rfl rfl ?_
      refine h_st rfl rfl ?_
      exact ih1
    · refine h_st rfl rfl ?_
      exact h_rt rfl rfl (h0)
theorem c_34 (hr : (ra 3).1 = 16) (h : FR σ p pb k) : hE ra (d + 2) 34 [.ref p] σ (pI (fun σ' _ => σ' = σ)) := by
  refine h_in rfl rfl (Nat.le_of_ble_eq_true rfl) ?_
  refine h_st rfl rfl ?_
  refine h_ci1 rfl (Nat.le_of_ble_eq_true rfl) (e_rcv (h.1)) rfl (c_24 hr h) (fun σ' y hy => ?_)
  subst hy
  refine h_st rfl rfl ?_
  refine h_st rfl rfl ?_
  refine h_st rfl rfl ?_
  refine c_34l h ?_ ⟨_, _, rfl, rfl⟩ 4 0 rfl
  refine h_st rfl rfl ?_
  exact h_rt rfl rfl (⟨_, _, rfl, rfl⟩)
theorem c_62 (h : FR σ p pb k) (i x : Int32) : hE ra (d + 2) 62 [.ref p, .int i, .int x] σ (pV (fun σ' => FR σ' p pb k ∧ Op p pb σ σ')) := by
  refine h_in rfl rfl (Nat.le_of_ble_eq_true rfl) ?_
  refine h_st rfl rfl ?_
  refine h_st rfl (e_get h.1 rfl) ?_
  refine h_st rfl rfl ?_
  refine h_br (fun q => ?_) (fun q => ?_)
  · exact h_rv rfl (⟨_, rfl, h, Op.refl⟩)
  · refine h_st rfl rfl ?_
    refine h_st rfl rfl ?_
    refine h_st rfl (e_get h.1 rfl) ?_
    refine h_st rfl (e_dv (fun z => q (by rw [z]; decide))) ?_
    refine h_st rfl rfl ?_
    refine h_st rfl rfl ?_
    refine h_st rfl rfl ?_
    refine h_st rfl rfl ?_
    refine h_st rfl rfl ?_
    refine h_ci2 rfl (Nat.le_of_ble_eq_true rfl) (e_rcv (h.1)) rfl (c_35 h _) (fun σ' y hy => ?_)
    subst hy
    refine h_st rfl rfl ?_
    refine h_st rfl rfl ?_
    refine h_cv3 rfl (Nat.le_of_ble_eq_true rfl) (e_rcv (h.1)) rfl (c_17 h _ _) (fun σ2 hq => ?_)
    exact h_rv rfl (⟨_, rfl, hq⟩)
def DR (σ : ae_S) (p pb k : Nat) : Prop := σ.2[p]? = some (.inr (0, [.ref pb, .int (nI k)])) ∧ (k ≤ 1000 ∧ p ≠ pb) ∧ ∃ f, σ.2[pb]? = some (.inl (1, 1000, .inl f)) ∧ ∀ j, j < 1000 → fits .byte (.int (f j)) = true
section DD
variable {mid pc np : Nat} {L : ae_Ls} {kk : List Value} {P : ae_S × ae_O → Prop}
theorem d_bas {j x : Int32} (ht : ae_tab (at0 mid) pc = some (.inl (o_bas np))) (h : DR σ p pb k) (hj : ¬ (j < 0 ∨ 1000 ≤ j.toNatClampNeg)) (hc : ∀ σ', DR σ' p pb k → Op p pb σ σ' → hG ra d mid σ' L kk np P) : hG ra d mid σ L (.int x :: .int j :: .ref pb :: kk) pc P := by
  obtain ⟨h1, h2, f, hf, hb⟩ := h
  refine h_st ht (e_bas1 hf hj) (hc _ ⟨(st_ne (Ne.symm h2.2)).trans h1, h2, _, st_get hf, fun i hi => ?_⟩ ⟨rfl, List.length_set, fun q _ a => st_ne (Ne.symm a)⟩)
  by_cases e : i = j.toNatClampNeg
  · rw [e, pk_us, vp_nar_byte]
    exact pk_fb x
  · rw [pk_un e]
    exact hb i hi
theorem d_put {k' : Nat} {v : Int32} (ht : ae_tab (at0 mid) pc = some (.inl (o_put 0 1 k_int np))) (h : DR σ p pb k) (hk : k' ≤ 1000) (hv : v = nI k') (hc : ∀ σ', DR σ' p pb k' → Op p pb σ σ' → hG ra d mid σ' L kk np P) : hG ra d mid σ L (.int v :: .ref p :: kk) pc P := by
  obtain ⟨h1, h2, f, hf, hb⟩ := h
  subst hv
  exact h_st ht (e_put h1 rfl (Nat.le_of_ble_eq_true rfl)) (hc _ ⟨st_get h1, ⟨hk, h2.2⟩, f, (st_ne h2.2).trans hf, hb⟩ ⟨rfl, List.length_set, fun q a _ => st_ne (Ne.symm a)⟩)
theorem b_cpg {N p1 : Nat} {f g : Nat → Int32} (ht : ae_tab (at0 mid) pc = some (.inl (o_cp np))) (hN : N < 2 ^ 31) (hk : k ≤ N) (hf : σ.2[pb]? = some (.inl (1, N, .inl f))) (hb : ∀ j, j < N → fits .byte (.int (f j)) = true) (hd : σ.2[p1]? = some (.inl (1, N, .inl g))) (hg : ∀ j, j < N → fits .byte (.int (g j)) = true) (hcat : ae_cat kk ≤ 8) (hc : ∀ g', (∀ j, j < N → fits .byte (.int (g' j)) = true) → hG ra d mid (σ.1, σ.2.set p1 (.inl (1, N, .inl g'))) L kk np P) : hG ra d mid σ L (.int (nI k) :: .int 0 :: .ref p1 :: .int 0 :: .ref pb :: kk) pc P := by
  have ek : (nI k).toNatClampNeg = k := nI_clamp (by omega)
  have e0 : (0 : Int32).toNatClampNeg = 0 := by decide
  refine h_st ht (?_ : _ = some ((σ.1, σ.2.set p1 (.inl (1, N, .inl (va_cpy f g 0 0 k)))), L, kk, np)) (hc _ (fun j hj => ?_))
  · simp only [o_cp, hf, hd, ek, e0]
    rw [if_pos ⟨⟨trivial, trivial, hcat⟩, ⟨by decide, by decide, nI_pos (by omega)⟩, by omega, by omega, fun i hi => hb _ (by omega)⟩]
  · by_cases h : j < k
    · rw [pk_cpy_in (Nat.zero_le _) (by omega)]
      exact hb _ (by omega)
    · rw [pk_cpy_out (Or.inr (by omega))]
      exact hg j hj
end DD
theorem c_30t {p1 b1 k1 : Nat} (h : FR σ p pb k) (g : FR σ p1 b1 k1) (a1 : b1 ≠ p) : hE ra (d + 1) 30 [.ref p1, .ref p] σ (pV (fun σ' => FR σ' p1 b1 k ∧ Op p1 b1 σ σ')) := by
  obtain ⟨h1, h2, f, hf, hb⟩ := h
  obtain ⟨g1, g2, fg, gf, gb⟩ := g
  refine h_in rfl rfl (Nat.le_of_ble_eq_true rfl) ?_
  refine h_st rfl rfl ?_
  refine h_st rfl (e_get h1 rfl) ?_
  refine h_st rfl rfl ?_
  refine h_st rfl rfl ?_
  refine h_st rfl (e_get g1 rfl) ?_
  refine h_st rfl rfl ?_
  refine h_st rfl rfl ?_
  refine h_st rfl (e_get h1 rfl) ?_
  refine b_cpg rfl (by decide) h2.1 hf hb gf gb (Nat.le_of_ble_eq_true rfl) (fun g' hg' => ?_)
  refine h_st rfl rfl ?_
  refine h_st rfl rfl ?_
  refine h_st rfl (e_get ((st_ne a1).trans h1) rfl) ?_
  refine h_st rfl (e_put ((st_ne (Ne.symm g2.2)).trans g1) rfl (Nat.le_of_ble_eq_true rfl)) ?_
  exact h_rv rfl (⟨_, rfl, ⟨st_get ((st_ne (Ne.symm g2.2)).trans g1), ⟨h2.1, g2.2⟩, g', (st_ne g2.2).trans (st_get gf), hg'⟩, rfl, by simp, fun q z1 z2 => (st_ne (Ne.symm z1)).trans (st_ne (Ne.symm z2))⟩)
theorem c_94 {p1 b1 k1 : Nat} (h : DR σ p pb k) (g : DR σ p1 b1 k1) (a1 : b1 ≠ p) : hE ra (d + 1) 94 [.ref p1, .ref p] σ (pV (fun σ' => DR σ' p1 b1 k ∧ Op p1 b1 σ σ')) := by
  obtain ⟨h1, h2, f, hf, hb⟩ := h
  obtain ⟨g1, g2, fg, gf, gb⟩ := g
  refine h_in rfl rfl (Nat.le_of_ble_eq_true rfl) ?_
  refine h_st rfl rfl ?_
  refine h_st rfl (e_get h1 rfl) ?_
  refine h_st rfl rfl ?_
  refine h_st rfl rfl ?_
  refine h_st rfl (e_get g1 rfl) ?_
  refine h_st rfl rfl ?_
  refine h_st rfl rfl ?_
  refine h_st rfl (e_get h1 rfl) ?_
  refine b_cpg rfl (by decide) h2.1 hf hb gf gb (Nat.le_of_ble_eq_true rfl) (fun g' hg' => ?_)
  refine h_st rfl rfl ?_
  refine h_st rfl rfl ?_
  refine h_st rfl (e_get ((st_ne a1).trans h1) rfl) ?_
  refine h_st rfl (e_put ((st_ne (Ne.symm g2.2)).trans g1) rfl (Nat.le_of_ble_eq_true rfl)) ?_
  exact h_rv rfl (⟨_, rfl, ⟨st_get ((st_ne (Ne.symm g2.2)).trans g1), ⟨h2.1, g2.2⟩, g', (st_ne g2.2).trans (st_get gf), hg'⟩, rfl, by simp, fun q z1 z2 => (st_ne (Ne.symm z1)).trans (st_ne (Ne.symm z2))⟩)
theorem c_53 (h : DR σ p pb k) (i : Int32) : hE ra (d + 1) 53 [.ref p, .int i] σ (pI (fun σ' _ => σ' = σ)) := by
  obtain ⟨h1, h2, f, hf, hb⟩ := h
  refine h_in rfl rfl (Nat.le_of_ble_eq_true rfl) ?_
  refine h_st rfl rfl ?_
  refine h_st rfl rfl ?_
  refine h_br (fun q1 => ?_) (fun q1 => ?_)
  · refine h_st rfl rfl ?_
    exact h_rt rfl rfl (⟨_, _, rfl, rfl⟩)
  · refine h_st rfl rfl ?_
    refine h_st rfl rfl ?_
    refine h_st rfl (e_get h1 rfl) ?_
    refine h_st rfl rfl ?_
    refine h_br (fun q2 => ?_) (fun q2 => ?_)
    · refine h_st rfl rfl ?_
      exact h_rt rfl rfl (⟨_, _, rfl, rfl⟩)
    · obtain ⟨j, hj, rfl⟩ := i_ix (n := k) (by omega) q1 q2
      refine h_st rfl rfl ?_
      refine h_st rfl (e_get h1 rfl) ?_
      refine h_st rfl rfl ?_
      refine h_st rfl (e_ba hf (Or.inl rfl) (nI_in (show j < 1000 by omega) (by decide))) ?_
      refine h_st rfl rfl ?_
      refine h_st rfl rfl ?_
      refine h_st rfl rfl ?_
      exact h_rt rfl rfl (⟨_, _, rfl, rfl⟩)
theorem c_52 (h : DR σ p pb k) : hE ra (d + 2) 52 [.ref p] σ (pI (fun σ' _ => σ' = σ)) := by
  refine h_in rfl rfl (Nat.le_of_ble_eq_true rfl) ?_
  refine h_st rfl rfl ?_
  refine h_st rfl (e_get h.1 rfl) ?_
  refine h_st rfl rfl ?_
  refine h_st rfl rfl ?_
  refine h_br (fun q => ?_) (fun q => ?_)
  · refine h_st rfl rfl ?_
    exact h_rt rfl rfl (⟨_, _, rfl, rfl⟩)
  · refine h_st rfl rfl ?_
    refine h_st rfl rfl ?_
    refine h_ci2 rfl (Nat.le_of_ble_eq_true rfl) (e_rcv (h.1)) rfl (c_53 h 4) (fun σ' y hy => ?_)
    subst hy
    refine h_st rfl rfl ?_
    refine h_st rfl rfl ?_
    refine h_st rfl rfl ?_
    refine h_st rfl rfl ?_
    refine h_ci2 rfl (Nat.le_of_ble_eq_true rfl) (e_rcv (h.1)) rfl (c_53 h 5) (fun σ' y hy => ?_)
    subst hy
    refine h_st rfl rfl ?_
    refine h_st rfl rfl ?_
    refine h_st rfl (e_get h.1 rfl) ?_
    refine h_st rfl rfl ?_
    refine h_br (fun q2 => ?_) (fun q2 => ?_)
    · refine h_st rfl rfl ?_
      exact h_rt rfl rfl (⟨_, _, rfl, rfl⟩)
    · refine h_st rfl rfl ?_
      refine h_st rfl rfl ?_
      exact h_rt rfl rfl (⟨_, _, rfl, rfl⟩)
theorem c_50l {n : Int32} {fp fb kf : Nat} (n1 : fp ≠ p) (n2 : fp ≠ pb) (n3 : fb ≠ p) (n4 : fb ≠ pb) : ∀ (m k : Nat) (σ : ae_S) (i : Int32), k + m = 1000 → DR σ p pb k → FR σ fp fb kf → Op p pb σ0 σ → hG ra (d + 1) 50 σ [some (.ref p), some (.ref fp), some (.int n), some (.int i)] [] 2 (pV (fun σ' => ∃ k', DR σ' p pb k' ∧ Op p pb σ0 σ')) := by
  intro m
  induction m with
  | zero =>
    intro k σ i hk h hF ho
    have hk : k = 1000 := by omega
    subst hk
    refine h_st rfl rfl ?_
    refine h_st rfl rfl ?_
    refine h_st rfl rfl ?_
    refine h_br (fun q => ?_) (fun q => ?_)
    · exact h_rv rfl (⟨_, rfl, _, h, ho⟩)
    · refine h_st rfl rfl ?_
      refine h_st rfl (e_get h.1 rfl) ?_
      refine h_st rfl rfl ?_
      refine h_st rfl rfl ?_
      refine h_pc (if_pos (decide_eq_true (nI_le (Nat.le_refl 1000) (by decide)))) ?_
      exact h_rv rfl (⟨_, rfl, _, h, ho⟩)
  | succ m ih =>
    intro k σ i hk h hF ho
    have hk1 : k < 1000 := by omega
    refine h_st rfl rfl ?_
    refine h_st rfl rfl ?_
    refine h_st rfl rfl ?_
    refine h_br (fun _ => h_rv rfl ⟨_, rfl, _, h, ho⟩) (fun _ => ?_)
    refine h_st rfl rfl ?_
    refine h_st rfl (e_get h.1 rfl) ?_
    refine h_st rfl rfl ?_
    refine h_st rfl rfl ?_
    refine h_pc (if_neg (fun z9 => (nI_ge hk1 (by decide)) (of_decide_eq_true z9))) ?_
    refine h_st rfl rfl ?_
    refine h_st rfl (e_get h.1 rfl) ?_
    refine h_st rfl rfl ?_
    refine h_st rfl (e_get h.1 rfl) ?_
    refine h_st rfl rfl ?_
    refine h_st rfl rfl ?_
    refine h_st rfl rfl ?_
    refine h_st rfl rfl ?_
    refine h_ci2 rfl (Nat.le_of_ble_eq_true rfl) (e_rcv (hF.1)) rfl (c_35 hF _) (fun σ' y hy => ?_)
    subst hy
    refine h_st rfl rfl ?_
    refine d_bas rfl h (nI_in hk1 (by decide)) (fun σ2 h2 o2 => ?_)
    replace hF := hF.same (o2.2.2 _ n1 n2) (o2.2.2 _ n3 n4)
    replace ho := ho.trans o2
    replace h := h2
    clear h2 o2
    refine h_st rfl rfl ?_
    refine h_st rfl rfl ?_
    refine h_st rfl (e_get h.1 rfl) ?_
    refine h_st rfl rfl ?_
    refine h_st rfl rfl ?_
    refine d_put (k' := k + 1) rfl h (by omega) (nI_1 k) (fun σ3 h3 o3 => ?_)
    replace hF := hF.same (o3.2.2 _ n1 n2) (o3.2.2 _ n3 n4)
    replace ho := ho.trans o3
    replace h := h3
    clear h3 o3
    refine h_st rfl rfl ?_
    refine h_st rfl rfl ?_
    exact ih (k + 1) _ _ (by omega) h hF ho
theorem c_50 {n : Int32} {fp fb kf : Nat} (h : DR σ p pb k) (hF : FR σ fp fb kf) (n1 : fp ≠ p) (n2 : fp ≠ pb) (n3 : fb ≠ p) (n4 : fb ≠ pb) : hE ra (d + 2) 50 [.ref p, .ref fp, .int n] σ (pV (fun σ' => ∃ k', DR σ' p pb k' ∧ Op p pb σ σ')) := by
  have hk := h.2.1
  refine h_in rfl rfl (Nat.le_of_ble_eq_true rfl) ?_
  refine h_st rfl rfl ?_
  refine h_st rfl rfl ?_
  exact c_50l n1 n2 n3 n4 (1000 - k) k _ _ (by omega) h hF Op.refl
end TY3
