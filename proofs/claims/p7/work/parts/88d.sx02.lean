section SX2
variable {ra : ae_R} {d : Nat} {σ σ0 : ae_S} {p pb n : Nat} {f : Nat → Int32}
def lnk (f : Nat → Int32) : Int32 := if f 0 = 3 ∧ pa f 1 = 0 ∧ pa f 3 = 0 then f 5 else -1
theorem c_36x (h : FX σ p pb n f) (hn : 64 ≤ n) : hE ra (d + 2) 36 [.ref p] σ (pI (fun σ' y => σ' = σ ∧ y = lnk f)) := by
  refine h_in rfl rfl (Nat.le_of_ble_eq_true rfl) ?_
  refine h_st rfl rfl ?_
  refine h_st rfl rfl ?_
  refine h_ci2 rfl (Nat.le_of_ble_eq_true rfl) (e_rcv (h.1)) rfl (c_35x h (j := 0) (rfl) (by omega)) (fun σ' y hy => ?_)
  obtain ⟨rfl, rfl⟩ := hy
  refine h_st rfl rfl ?_
  refine h_st rfl rfl ?_
  refine h_br (fun q1 => ?_) (fun q1 => ?_)
  · refine h_st rfl rfl ?_
    refine h_st rfl rfl ?_
    refine h_st rfl rfl ?_
    refine h_st rfl rfl ?_
    refine h_pc (if_pos (by decide)) ?_
    refine h_st rfl rfl ?_
    exact h_rt rfl rfl (⟨_, _, rfl, rfl, by unfold lnk; rw [if_neg (fun z => q1 z.1)]⟩)
  · refine h_st rfl rfl ?_
    refine h_st rfl rfl ?_
    refine h_ci2 rfl (Nat.le_of_ble_eq_true rfl) (e_rcv (h.1)) rfl (c_23x h (j := 1) (rfl) (by omega)) (fun σ' y hy => ?_)
    obtain ⟨rfl, rfl⟩ := hy
    refine h_st rfl rfl ?_
    refine h_br (fun q2 => ?_) (fun q2 => ?_)
    · refine h_st rfl rfl ?_
      refine h_st rfl rfl ?_
      refine h_st rfl rfl ?_
      refine h_st rfl rfl ?_
      refine h_pc (if_pos (by decide)) ?_
      refine h_st rfl rfl ?_
      exact h_rt rfl rfl (⟨_, _, rfl, rfl, by unfold lnk; rw [if_neg (fun z => q2 z.2.1)]⟩)
    · refine h_st rfl rfl ?_
      refine h_st rfl rfl ?_
      refine h_ci2 rfl (Nat.le_of_ble_eq_true rfl) (e_rcv (h.1)) rfl (c_23x h (j := 3) (rfl) (by omega)) (fun σ' y hy => ?_)
      obtain ⟨rfl, rfl⟩ := hy
      refine h_st rfl rfl ?_
      refine h_br (fun q3 => ?_) (fun q3 => ?_)
      · refine h_st rfl rfl ?_
        refine h_st rfl rfl ?_
        refine h_st rfl rfl ?_
        refine h_st rfl rfl ?_
        refine h_pc (if_pos (by decide)) ?_
        refine h_st rfl rfl ?_
        exact h_rt rfl rfl (⟨_, _, rfl, rfl, by unfold lnk; rw [if_neg (fun z => q3 z.2.2)]⟩)
      · refine h_st rfl rfl ?_
        refine h_st rfl rfl ?_
        refine h_st rfl rfl ?_
        refine h_st rfl rfl ?_
        refine h_st rfl rfl ?_
        refine h_pc (if_neg (by decide)) ?_
        refine h_st rfl rfl ?_
        refine h_st rfl rfl ?_
        refine h_ci2 rfl (Nat.le_of_ble_eq_true rfl) (e_rcv (h.1)) rfl (c_35x h (j := 5) (rfl) (by omega)) (fun σ' y hy => ?_)
        obtain ⟨rfl, rfl⟩ := hy
        refine h_st rfl rfl ?_
        exact h_rt rfl rfl (⟨_, _, rfl, rfl, by unfold lnk; rw [if_pos ⟨Decidable.of_not_not q1, Decidable.of_not_not q2, Decidable.of_not_not q3⟩]⟩)
theorem c_42x (h : FX σ p pb n f) (hn : 64 ≤ n) : hE ra (d + 2) 42 [.ref p] σ (pI (fun σ' y => σ' = σ ∧ y = pa f 16 - 20)) := by
  refine h_in rfl rfl (Nat.le_of_ble_eq_true rfl) ?_
  refine h_st rfl rfl ?_
  refine h_st rfl rfl ?_
  refine h_ci2 rfl (Nat.le_of_ble_eq_true rfl) (e_rcv (h.1)) rfl (c_23x h (j := 16) (rfl) (by omega)) (fun σ' y hy => ?_)
  obtain ⟨rfl, rfl⟩ := hy
  refine h_st rfl rfl ?_
  refine h_st rfl rfl ?_
  exact h_rt rfl rfl (⟨_, _, rfl, rfl, rfl⟩)
theorem e_n5 (hn : 64 ≤ n) : nI n - 4 - 1 = nI (n - 5) := by
  rw [show (4 : Int32) = nI 4 from rfl, pk_sub (by omega), show (1 : Int32) = nI 1 from rfl, pk_sub (by omega)]
  rfl
theorem c_43x (h : FX σ p pb n f) (hn : 64 ≤ n) : hE ra (d + 2) 43 [.ref p] σ (pI (fun σ' y => σ' = σ ∧ y = f (n - 5))) := by
  have hb := h.2.1
  refine h_in rfl rfl (Nat.le_of_ble_eq_true rfl) ?_
  refine h_st rfl rfl ?_
  refine h_st rfl rfl ?_
  refine h_st rfl (e_get h.1 rfl) ?_
  refine h_st rfl rfl ?_
  refine h_st rfl rfl ?_
  refine h_st rfl rfl ?_
  refine h_st rfl rfl ?_
  refine h_ci2 rfl (Nat.le_of_ble_eq_true rfl) (e_rcv (h.1)) rfl (c_35x h (j := n - 5) (e_n5 hn) (by omega)) (fun σ' y hy => ?_)
  obtain ⟨rfl, rfl⟩ := hy
  exact h_rt rfl rfl (⟨_, _, rfl, rfl, rfl⟩)
theorem c_48x (h : FX σ p pb n f) (hn : 64 ≤ n) : hE ra (d + 2) 48 [.ref p] σ (pI (fun σ' y => σ' = σ ∧ y = f 21 * 8)) := by
  refine h_in rfl rfl (Nat.le_of_ble_eq_true rfl) ?_
  refine h_st rfl rfl ?_
  refine h_st rfl rfl ?_
  refine h_ci2 rfl (Nat.le_of_ble_eq_true rfl) (e_rcv (h.1)) rfl (c_35x h (j := 21) (rfl) (by omega)) (fun σ' y hy => ?_)
  obtain ⟨rfl, rfl⟩ := hy
  refine h_st rfl rfl ?_
  refine h_st rfl rfl ?_
  exact h_rt rfl rfl (⟨_, _, rfl, rfl, rfl⟩)
theorem c_49x (h : FX σ p pb n f) (hn : 64 ≤ n) : hE ra (d + 2) 49 [.ref p] σ (pI (fun σ' y => σ' = σ ∧ y = pa f 18)) := by
  refine h_in rfl rfl (Nat.le_of_ble_eq_true rfl) ?_
  refine h_st rfl rfl ?_
  refine h_st rfl rfl ?_
  refine h_ci2 rfl (Nat.le_of_ble_eq_true rfl) (e_rcv (h.1)) rfl (c_23x h (j := 18) (rfl) (by omega)) (fun σ' y hy => ?_)
  obtain ⟨rfl, rfl⟩ := hy
  exact h_rt rfl rfl (⟨_, _, rfl, rfl, rfl⟩)
abbrev mof (f : Nat → Int32) : Prop := ¬ f 20 &&& 32 = 0
theorem c_51x (h : FX σ p pb n f) (hn : 64 ≤ n) : hE ra (d + 2) 51 [.ref p] σ (pI (fun σ' y => σ' = σ ∧ ((y = 1 ∧ mof f) ∨ (y = 0 ∧ ¬ mof f)))) := by
  refine h_in rfl rfl (Nat.le_of_ble_eq_true rfl) ?_
  refine h_st rfl rfl ?_
  refine h_st rfl rfl ?_
  refine h_ci2 rfl (Nat.le_of_ble_eq_true rfl) (e_rcv (h.1)) rfl (c_35x h (j := 20) (rfl) (by omega)) (fun σ' y hy => ?_)
  obtain ⟨rfl, rfl⟩ := hy
  refine h_st rfl rfl ?_
  refine h_st rfl rfl ?_
  refine h_st rfl rfl ?_
  refine h_br (fun q => ?_) (fun q => ?_)
  · refine h_st rfl rfl ?_
    exact h_rt rfl rfl (⟨_, _, rfl, rfl, Or.inr ⟨rfl, fun z => z q⟩⟩)
  · refine h_st rfl rfl ?_
    refine h_st rfl rfl ?_
    exact h_rt rfl rfl (⟨_, _, rfl, rfl, Or.inl ⟨rfl, q⟩⟩)
/-- the form is right -/
abbrev fom (n : Nat) (f : Nat → Int32) : Prop := f 12 = 8 ∧ f 13 = 0 ∧ f 14 = 69 ∧ f 23 = 17 ∧ pa f 24 = smc f ∧ ¬ pa f 16 - 20 < 0 ∧ ¬ nI n - 39 < pa f 16 - 20
theorem c_41x (h : FX σ p pb n f) (hn : 64 ≤ n) : hE ra (d + 3) 41 [.ref p] σ (pI (fun σ' y => σ' = σ ∧ ((y = 1 ∧ fom n f) ∨ (y = 0 ∧ ¬ fom n f)))) := by
  refine h_in rfl rfl (Nat.le_of_ble_eq_true rfl) ?_
  refine h_st rfl rfl ?_
  refine h_st rfl rfl ?_
  refine h_ci2 rfl (Nat.le_of_ble_eq_true rfl) (e_rcv (h.1)) rfl (c_35x h (j := 12) (rfl) (by omega)) (fun σ' y hy => ?_)
  obtain ⟨rfl, rfl⟩ := hy
  refine h_st rfl rfl ?_
  refine h_st rfl rfl ?_
  refine h_br (fun q1 => ?_) (fun q1 => ?_)
  · refine h_st rfl rfl ?_
    exact h_rt rfl rfl (⟨_, _, rfl, rfl, Or.inr ⟨rfl, fun z => q1 z.1⟩⟩)
  · refine h_st rfl rfl ?_
    refine h_st rfl rfl ?_
    refine h_ci2 rfl (Nat.le_of_ble_eq_true rfl) (e_rcv (h.1)) rfl (c_35x h (j := 13) (rfl) (by omega)) (fun σ' y hy => ?_)
    obtain ⟨rfl, rfl⟩ := hy
    refine h_st rfl rfl ?_
    refine h_br (fun q2 => ?_) (fun q2 => ?_)
    · refine h_st rfl rfl ?_
      exact h_rt rfl rfl (⟨_, _, rfl, rfl, Or.inr ⟨rfl, fun z => q2 z.2.1⟩⟩)
    · refine h_st rfl rfl ?_
      refine h_st rfl rfl ?_
      refine h_ci2 rfl (Nat.le_of_ble_eq_true rfl) (e_rcv (h.1)) rfl (c_35x h (j := 14) (rfl) (by omega)) (fun σ' y hy => ?_)
      obtain ⟨rfl, rfl⟩ := hy
      refine h_st rfl rfl ?_
      refine h_st rfl rfl ?_
      refine h_br (fun q3 => ?_) (fun q3 => ?_)
      · refine h_st rfl rfl ?_
        exact h_rt rfl rfl (⟨_, _, rfl, rfl, Or.inr ⟨rfl, fun z => q3 z.2.2.1⟩⟩)
      · refine h_st rfl rfl ?_
        refine h_st rfl rfl ?_
        refine h_ci2 rfl (Nat.le_of_ble_eq_true rfl) (e_rcv (h.1)) rfl (c_35x h (j := 23) (rfl) (by omega)) (fun σ' y hy => ?_)
        obtain ⟨rfl, rfl⟩ := hy
        refine h_st rfl rfl ?_
        refine h_st rfl rfl ?_
        refine h_br (fun q4 => ?_) (fun q4 => ?_)
        · refine h_st rfl rfl ?_
          exact h_rt rfl rfl (⟨_, _, rfl, rfl, Or.inr ⟨rfl, fun z => q4 z.2.2.2.1⟩⟩)
        · refine h_st rfl rfl ?_
          refine h_st rfl rfl ?_
          refine h_ci2 rfl (Nat.le_of_ble_eq_true rfl) (e_rcv (h.1)) rfl (c_23x h (j := 24) (rfl) (by omega)) (fun σ' y hy => ?_)
          obtain ⟨rfl, rfl⟩ := hy
          refine h_st rfl rfl ?_
          refine h_ci1 rfl (Nat.le_of_ble_eq_true rfl) (e_rcv (h.1)) rfl (c_22x h hn) (fun σ' y hy => ?_)
          obtain ⟨rfl, rfl⟩ := hy
          refine h_st rfl rfl ?_
          refine h_br (fun q5 => ?_) (fun q5 => ?_)
          · refine h_st rfl rfl ?_
            exact h_rt rfl rfl (⟨_, _, rfl, rfl, Or.inr ⟨rfl, fun z => q5 z.2.2.2.2.1⟩⟩)
          · refine h_st rfl rfl ?_
            refine h_ci1 rfl (Nat.le_of_ble_eq_true rfl) (e_rcv (h.1)) rfl (c_42x h hn) (fun σ' y hy => ?_)
            obtain ⟨rfl, rfl⟩ := hy
            refine h_st rfl rfl ?_
            refine h_br (fun q6 => ?_) (fun q6 => ?_)
            · refine h_st rfl rfl ?_
              exact h_rt rfl rfl (⟨_, _, rfl, rfl, Or.inr ⟨rfl, fun z => z.2.2.2.2.2.1 q6⟩⟩)
            · refine h_st rfl rfl ?_
              refine h_ci1 rfl (Nat.le_of_ble_eq_true rfl) (e_rcv (h.1)) rfl (c_42x h hn) (fun σ' y hy => ?_)
              obtain ⟨rfl, rfl⟩ := hy
              refine h_st rfl rfl ?_
              refine h_st rfl (e_get h.1 rfl) ?_
              refine h_st rfl rfl ?_
              refine h_st rfl rfl ?_
              refine h_st rfl rfl ?_
              refine h_br (fun q7 => ?_) (fun q7 => ?_)
              · refine h_st rfl rfl ?_
                exact h_rt rfl rfl (⟨_, _, rfl, rfl, Or.inr ⟨rfl, fun z => z.2.2.2.2.2.2 q7⟩⟩)
              · refine h_st rfl rfl ?_
                refine h_st rfl rfl ?_
                exact h_rt rfl rfl (⟨_, _, rfl, rfl, Or.inl ⟨rfl, Decidable.of_not_not q1, Decidable.of_not_not q2, Decidable.of_not_not q3, Decidable.of_not_not q4, Decidable.of_not_not q5, q6, q7⟩⟩)
/-- the check is right -/
abbrev okc (n : Nat) (f : Nat → Int32) : Prop := ∀ i, i < 4 → f (n - 4 + i) = (chk n f >>> ((8 * nI i) &&& 31)) &&& 255
theorem c_34lx (h : FX σ p pb n f) (hn : 64 ≤ n) : ∀ (m j : Nat), j + m = 4 → (∀ i, i < j → f (n - 4 + i) = (chk n f >>> ((8 * nI i) &&& 31)) &&& 255) → hG ra (d + 1) 34 σ [some (.ref p), some (.int (chk n f)), some (.int (nI j))] [] 7 (pI (fun σ' y => σ' = σ ∧ ((y = 1 ∧ okc n f) ∨ (y = 0 ∧ ¬ okc n f)))) := by
  have hb := h.2.1
  intro m
  induction m with
  | zero =>
    intro j hj hi
    have hj : j = 4 := by omega
    subst hj
    refine h_st rfl rfl ?_
    refine h_st rfl rfl ?_
    refine h_st rfl rfl ?_
    refine h_pc (if_pos (decide_eq_true (nI_le (Nat.le_refl 4) (by decide)))) ?_
    refine h_st rfl rfl ?_
    exact h_rt rfl rfl (⟨_, _, rfl, rfl, Or.inl ⟨rfl, hi⟩⟩)
  | succ m ih =>
    intro j hj hi
    have e4 : nI n - 4 + nI j = nI (n - 4 + j) := by rw [show (4 : Int32) = nI 4 from rfl, pk_sub (by omega), nI_add]
    have ih1 := ih (j + 1) (by omega)
    rw [← nI_1] at ih1
    refine h_st rfl rfl ?_
    refine h_st rfl rfl ?_
    refine h_st rfl rfl ?_
    refine h_pc (if_neg (fun z9 => (nI_ge (show j < 4 by omega) (by decide)) (of_decide_eq_true z9))) ?_
    refine h_st rfl rfl ?_
    refine h_st rfl rfl ?_
    refine h_st rfl (e_get h.1 rfl) ?_
    refine h_st rfl rfl ?_
    refine h_st rfl rfl ?_
    refine h_st rfl rfl ?_
    refine h_st rfl rfl ?_
    refine h_ci2 rfl (Nat.le_of_ble_eq_true rfl) (e_rcv (h.1)) rfl (c_35x h (j := n - 4 + j) (e4) (by omega)) (fun σ' y hy => ?_)
    obtain ⟨rfl, rfl⟩ := hy
    refine h_st rfl rfl ?_
    refine h_st rfl rfl ?_
    refine h_st rfl rfl ?_
    refine h_st rfl rfl ?_
    refine h_st rfl rfl ?_
    refine h_st rfl rfl ?_
    refine h_st rfl rfl ?_
    refine h_st rfl rfl ?_
    refine h_br (fun q => ?_) (fun q => ?_)
    · refine h_st rfl rfl ?_
      refine h_st rfl rfl ?_
      exact ih1 (fun i hi2 => by rcases Nat.lt_succ_iff_lt_or_eq.mp hi2 with z | z; exact hi i z; rw [z]; exact q)
    · refine h_st rfl rfl ?_
      exact h_rt rfl rfl (⟨_, _, rfl, rfl, Or.inr ⟨rfl, fun z => q (z j (by omega))⟩⟩)
theorem c_34x (hr : ra 3 = (16, ckt)) (h : FX σ p pb n f) (hn : 64 ≤ n) : hE ra (d + 2) 34 [.ref p] σ (pI (fun σ' y => σ' = σ ∧ ((y = 1 ∧ okc n f) ∨ (y = 0 ∧ ¬ okc n f)))) := by
  refine h_in rfl rfl (Nat.le_of_ble_eq_true rfl) ?_
  refine h_st rfl rfl ?_
  refine h_ci1 rfl (Nat.le_of_ble_eq_true rfl) (e_rcv (h.1)) rfl (c_24x hr h hn) (fun σ' y hy => ?_)
  obtain ⟨rfl, rfl⟩ := hy
  refine h_st rfl rfl ?_
  refine h_st rfl rfl ?_
  refine h_st rfl rfl ?_
  exact c_34lx h hn 4 0 rfl (fun i hi => absurd hi (Nat.not_lt_zero _))
theorem c_62x (h : FX σ p pb n f) (hn : 64 ≤ n) {i : Int32} {pl : Nat} (ei : i = nI pl) (hpl : pl < 2 ^ 31) (x : Int32) : hE ra (d + 2) 62 [.ref p, .int i, .int x] σ (pV (fun σ' => FX σ' p pb n (ub f (pl % n) (f (pl % n) ^^^ x)) ∧ Op p pb σ σ')) := by
  have hb := h.2.1
  have em : i - i / nI n * nI n = nI (pl % n) := by rw [ei]; exact pk_rem hpl (by omega) (by omega)
  have hm := Nat.mod_lt pl (show n > 0 by omega)
  refine h_in rfl rfl (Nat.le_of_ble_eq_true rfl) ?_
  refine h_st rfl rfl ?_
  refine h_st rfl (e_get h.1 rfl) ?_
  refine h_st rfl rfl ?_
  refine h_pc (if_neg (fun z9 => (nI_nle (by omega) (by omega)) (of_decide_eq_true z9))) ?_
  refine h_st rfl rfl ?_
  refine h_st rfl rfl ?_
  refine h_st rfl (e_get h.1 rfl) ?_
  refine h_st rfl (e_dv (nI_ne0 (by omega) (by omega))) ?_
  refine h_st rfl rfl ?_
  refine h_st rfl rfl ?_
  refine h_st rfl rfl ?_
  refine h_st rfl rfl ?_
  refine h_st rfl rfl ?_
  refine h_ci2 rfl (Nat.le_of_ble_eq_true rfl) (e_rcv (h.1)) rfl (c_35x h (j := pl % n) (em) (by omega)) (fun σ' y hy => ?_)
  obtain ⟨rfl, rfl⟩ := hy
  refine h_st rfl rfl ?_
  refine h_st rfl rfl ?_
  refine h_cv3 rfl (Nat.le_of_ble_eq_true rfl) (e_rcv (h.1)) rfl (c_17x h (j := pl % n) em hm _) (fun σ2 hq => ?_)
  exact h_rv rfl (⟨_, rfl, hq⟩)
theorem b_cpx {N p1 k : Nat} {f g : Nat → Int32} {mid pc np : Nat} {L : ae_Ls} {kk : List Value} {P : ae_S × ae_O → Prop} (ht : ae_tab (at0 mid) pc = some (.inl (o_cp np))) (hN : N < 2 ^ 31) (hk : k ≤ N) (hf : σ.2[pb]? = some (.inl (1, N, .inl f))) (hb : ∀ j, j < N → fits .byte (.int (f j)) = true) (hd : σ.2[p1]? = some (.inl (1, N, .inl g))) (hg : ∀ j, j < N → fits .byte (.int (g j)) = true) (hcat : ae_cat kk ≤ 8) (hc : ∀ g', (∀ j, j < N → fits .byte (.int (g' j)) = true) → (∀ j, j < k → g' j = f j) → hG ra d mid (σ.1, σ.2.set p1 (.inl (1, N, .inl g'))) L kk np P) : hG ra d mid σ L (.int (nI k) :: .int 0 :: .ref p1 :: .int 0 :: .ref pb :: kk) pc P := by
  have ek : (nI k).toNatClampNeg = k := nI_clamp (by omega)
  have e0 : (0 : Int32).toNatClampNeg = 0 := by decide
  refine h_st ht (?_ : _ = some ((σ.1, σ.2.set p1 (.inl (1, N, .inl (va_cpy f g 0 0 k)))), L, kk, np)) (hc _ (fun j hj => ?_) (fun j hj => ?_))
  · simp only [o_cp, hf, hd, ek, e0]
    rw [if_pos ⟨⟨trivial, trivial, hcat⟩, ⟨by decide, by decide, nI_pos (by omega)⟩, by omega, by omega, fun i hi => hb _ (by omega)⟩]
  · by_cases h : j < k
    · rw [pk_cpy_in (Nat.zero_le _) (by omega)]
      exact hb _ (by omega)
    · rw [pk_cpy_out (Or.inr (by omega))]
      exact hg j hj
  · rw [pk_cpy_in (Nat.zero_le _) (by omega), Nat.zero_add, Nat.sub_zero]
/-- a frame's bytes are no frame -/
theorem FX.pb_ne {p1 b1 n1 : Nat} {f1 : Nat → Int32} (h : FX σ p pb n f) (g : FX σ p1 b1 n1 f1) : b1 ≠ p := fun e => by
  obtain ⟨h1, _⟩ := h
  obtain ⟨_, _, g', g3, _⟩ := g
  rw [e, h1] at g3
  cases g3
theorem c_30x {p1 b1 n1 : Nat} {f1 : Nat → Int32} (h : FX σ p pb n f) (g : FX σ p1 b1 n1 f1) : hE ra (d + 1) 30 [.ref p1, .ref p] σ (pV (fun σ' => FX σ' p1 b1 n f ∧ Op p1 b1 σ σ')) := by
  have a1 := h.pb_ne g
  obtain ⟨h1, h2, fh, hf, hb, hv⟩ := h
  obtain ⟨g1, g2, fg, gf, gb, _⟩ := g
  refine h_in rfl rfl (Nat.le_of_ble_eq_true rfl) ?_
  refine h_st rfl rfl ?_
  refine h_st rfl (e_get h1 rfl) ?_
  refine h_st rfl rfl ?_
  refine h_st rfl rfl ?_
  refine h_st rfl (e_get g1 rfl) ?_
  refine h_st rfl rfl ?_
  refine h_st rfl rfl ?_
  refine h_st rfl (e_get h1 rfl) ?_
  refine b_cpx rfl (by decide) h2.1 hf hb gf gb (Nat.le_of_ble_eq_true rfl) (fun g' hg' hg2 => ?_)
  refine h_st rfl rfl ?_
  refine h_st rfl rfl ?_
  refine h_st rfl (e_get ((st_ne a1).trans h1) rfl) ?_
  refine h_st rfl (e_put ((st_ne (Ne.symm g2.2)).trans g1) rfl (Nat.le_of_ble_eq_true rfl)) ?_
  exact h_rv rfl (⟨_, rfl, ⟨st_get ((st_ne (Ne.symm g2.2)).trans g1), ⟨h2.1, g2.2⟩, g', (st_ne g2.2).trans (st_get gf), hg', fun j hj => by rw [hg2 j hj]; exact hv j hj⟩, rfl, by simp, fun q z1 z2 => (st_ne (Ne.symm z1)).trans (st_ne (Ne.symm z2))⟩)
end SX2
