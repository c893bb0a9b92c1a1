section SP10
variable {ra : ae_R} {d : Nat} {σ σ' : ae_S} {cc : Nat × Nat} {z : Nat}
theorem h_ci8 {mid : Nat} {σ : ae_S} {L : ae_Ls} {pc : Nat} {P : ae_S × ae_O → Prop} {P1 : ae_S → Int32 → Prop} {mi np : Nat} {rc : Option Nat} {hs : List (Nat × Nat × Nat)} {a0 a1 a2 a3 a4 a5 a6 a7 : Value} {rest : List Value} (ht : ae_tab (at0 mid) pc = some (.inr (.inr (.inl (mi, 8, np, rc, hs))))) (hc : ae_cat rest ≤ 8) (hr : ae_rcv σ rc [a0, a1, a2, a3, a4, a5, a6, a7] = true) (ha : ([a0, a1, a2, a3, a4, a5, a6, a7] : List Value).all (fun v => v.category == 1) = true) (h1 : hE ra d mi [a0, a1, a2, a3, a4, a5, a6, a7] σ (pI P1)) (h : ∀ σ' x, P1 σ' x → hG ra d mid σ' L (.int x :: rest) np P) : hG ra d mid σ L (a7 :: a6 :: a5 :: a4 :: a3 :: a2 :: a1 :: a0 :: rest) pc P := by
  obtain ⟨r, g1, σ', x, rfl, g2⟩ := h1
  obtain ⟨r2, q1, q2⟩ := h σ' x g2
  exact ⟨r2, g_ca (as := [a0, a1, a2, a3, a4, a5, a6, a7]) (rest := rest) ht rfl rfl hc hr ha g1 q1, q2⟩
/-- the counts of the rows are nought -/
def Ct (σ : ae_S) : Prop := ∃ f, σ.2[198]? = some (.inl (0, 48, .inl f)) ∧ ∀ j, j < 48 → f j = 0
theorem Ct.o (h : Ct σ) (e : σ'.2[198]? = σ.2[198]?) : Ct σ' := by
  obtain ⟨f, h1, h2⟩ := h
  exact ⟨f, e.trans h1, h2⟩
/-- the first frame has length z -/
def Sz (σ : ae_S) (z : Nat) : Prop := (64 ≤ z ∧ z ≤ 200) ∧ ∃ f, σ.2[195]? = some (.inl (0, 400, .inl f)) ∧ f 0 = nI z
theorem Sz.o (h : Sz σ z) (e : σ'.2[195]? = σ.2[195]?) : Sz σ' z := by
  obtain ⟨h0, f, h1, h2⟩ := h
  exact ⟨h0, f, e.trans h1, h2⟩
theorem z200 (x : Int32) : (200 : Int32) * 0 + x = x := by simp
theorem i200 {i : Nat} (hi : i < 200) : ¬ ((200 : Int32) * 0 + nI i < 0 ∨ 80000 ≤ ((200 : Int32) * 0 + nI i).toNatClampNeg) := by
  rw [z200]
  exact nI_in (by omega) (by decide)
def RB (σ : ae_S) (cc : Nat × Nat) (z : Nat) : Prop := RSh σ cc 0 0 0 ∧ Ct σ ∧ Sz σ z
theorem RB.sz (h : RB σ cc z) : 64 ≤ z ∧ z ≤ 200 := h.2.2.1

theorem r_104l {P : ae_S × ae_O → Prop} (hx : ∀ σ, RSh σ cc 0 0 0 → Ct σ → hG ra d 104 σ [some (.ref 176), some (.int 0), some (.int (nI 200))] [] 52 P) : ∀ (m j : Nat) (σ : ae_S), j + m = 200 → RSh σ cc 0 0 0 → Ct σ → hG ra d 104 σ [some (.ref 176), some (.int 0), some (.int (nI j))] [] 26 P := by
  intro m
  induction m with
  | zero =>
    intro j σ hj h hct
    have hj : j = 200 := by omega
    subst hj
    refine h_st rfl rfl ?_
    refine h_st rfl rfl ?_
    refine h_st rfl rfl ?_
    refine h_pc (if_pos (decide_eq_true (nI_le (Nat.le_refl 200) (by decide)))) ?_
    exact hx _ h hct
  | succ m ih =>
    intro j σ hj h hct
    have ih1 := fun σ h1 h2 => ih (j + 1) σ (by omega) h1 h2
    simp only [← nI_1] at ih1
    have hix := i200 (show j < 200 by omega)
    refine h_st rfl rfl ?_
    refine h_st rfl rfl ?_
    refine h_st rfl rfl ?_
    refine h_pc (if_neg (fun z9 => (nI_ge (show j < 200 by omega) (by decide)) (of_decide_eq_true z9))) ?_
    refine h_st rfl rfl ?_
    refine h_st rfl (e_get h.2.1 rfl) ?_
    refine h_st rfl rfl ?_
    refine h_st rfl rfl ?_
    refine h_st rfl rfl ?_
    refine h_st rfl rfl ?_
    refine h_st rfl rfl ?_
    refine h_st rfl rfl ?_
    refine s_ias rfl h (n := 80000) (m := 0) (v := 0) (p := 194) (by simp [rf_A]) (hix) (fun σ2 f2 h2 ho hn => ?_)
    replace hct := hct.o (ho 198 (by decide))
    clear hn ho
    replace h := h2
    clear h2
    refine h_st rfl rfl ?_
    refine h_st rfl rfl ?_
    exact ih1 _ h hct
theorem r_104 (hF : RF σ) : hE ra (d + 1) 104 [.ref 176] σ (pI (fun σ' x => x = 0 ∧ RSh σ' σ.1 0 0 0 ∧ Ct σ')) := by
  have hm := rf_o hF
  have h := hF.sh
  have hct : Ct σ := rf_a hF (p := 198) (t := 0) (n := 48) (m := 48) (v := 0) (by simp [rf_A])
  obtain ⟨f196, a196, b196⟩ := rf_a hF (p := 196) (t := 2) (n := 400) (m := 400) (v := 0) (by simp [rf_A])
  have hin : ¬ ((0 : Int32) < 0 ∨ 400 ≤ (0 : Int32).toNatClampNeg) := by decide
  have hv : f196 (0 : Int32).toNatClampNeg = 0 := b196 0 (by decide)
  refine h_in rfl rfl (Nat.le_of_ble_eq_true rfl) ?_
  refine h_st rfl rfl ?_
  refine h_st rfl rfl ?_
  refine h_st rfl rfl ?_
  refine h_st rfl (e_get hm rfl) ?_
  refine h_st rfl rfl ?_
  refine h_st rfl ((e_ba a196 (Or.inr rfl) hin).trans (by rw [hv])) ?_
  refine h_st rfl rfl ?_
  refine h_pc (if_pos (by decide)) ?_
  refine h_st rfl rfl ?_
  refine h_st rfl (e_get hm rfl) ?_
  refine h_st rfl rfl ?_
  refine h_st rfl rfl ?_
  refine s_bas rfl h (n := 400) (m := 400) (v := 0) (p := 196) (by simp [rf_A]) (hin) (fun σ2 f2 h2 ho hn => ?_)
  replace hct := hct.o (ho 198 (by decide))
  clear hn ho
  replace h := h2
  clear h2
  refine h_st rfl rfl ?_
  refine h_st rfl rfl ?_
  refine r_104l (fun σ h hct => ?_) 200 0 _ rfl h hct
  refine h_st rfl rfl ?_
  exact h_rt rfl rfl (⟨_, _, rfl, rfl, h, hct⟩)
theorem r_105 (hb : RB σ cc z) {i : Nat} (hi : i < 200) (x : Int32) : hE ra (d + 1) 105 [.ref 176, .int 0, .int (nI i), .int x] σ (pV (fun σ' => RB σ' cc z)) := by
  obtain ⟨h, hct, hsz⟩ := hb
  have hix := i200 hi
  refine h_in rfl rfl (Nat.le_of_ble_eq_true rfl) ?_
  refine h_st rfl rfl ?_
  refine h_st rfl (e_get h.2.1 rfl) ?_
  refine h_st rfl rfl ?_
  refine h_st rfl rfl ?_
  refine h_st rfl rfl ?_
  refine h_st rfl rfl ?_
  refine h_st rfl rfl ?_
  refine h_st rfl rfl ?_
  refine h_st rfl rfl ?_
  refine h_st rfl rfl ?_
  refine s_ias rfl h (n := 80000) (m := 0) (v := 0) (p := 194) (by simp [rf_A]) (hix) (fun σ2 f2 h2 ho hn => ?_)
  replace hct := hct.o (ho 198 (by decide))
  replace hsz := hsz.o (ho 195 (by decide))
  clear hn ho
  replace h := h2
  clear h2
  exact h_rv rfl (⟨_, rfl, h, hct, hsz⟩)
theorem r_108 (hb : RB σ cc z) {i : Nat} (hi : i < 200) : hE ra (d + 1) 108 [.ref 176, .int 0, .int (nI i)] σ (pI (fun σ' _ => σ' = σ)) := by
  obtain ⟨h, hct, hsz⟩ := hb
  have hix := i200 hi
  refine h_in rfl rfl (Nat.le_of_ble_eq_true rfl) ?_
  refine h_st rfl rfl ?_
  refine h_st rfl (e_get h.2.1 rfl) ?_
  refine h_st rfl rfl ?_
  refine h_st rfl rfl ?_
  refine h_st rfl rfl ?_
  refine h_st rfl rfl ?_
  refine h_st rfl rfl ?_
  refine s_ia rfl h (n := 80000) (m := 0) (v := 0) (p := 194) (by simp [rf_A]) (hix) (fun x => ?_)
  exact h_rt rfl rfl (⟨_, _, rfl, rfl⟩)
theorem r_107 (hb : RB σ cc z) {i : Nat} (hi : i + 1 < 200) : hE ra (d + 2) 107 [.ref 176, .int 0, .int (nI i)] σ (pI (fun σ' _ => σ' = σ)) := by
  have t2 : hE ra (d + 1) 108 [.ref 176, .int 0, .int (nI i + 1)] σ (pI (fun σ' _ => σ' = σ)) := by
    rw [nI_1]
    exact r_108 hb hi
  refine h_in rfl rfl (Nat.le_of_ble_eq_true rfl) ?_
  refine h_st rfl rfl ?_
  refine h_st rfl rfl ?_
  refine h_st rfl rfl ?_
  refine h_st rfl rfl ?_
  refine h_ci3 rfl (Nat.le_of_ble_eq_true rfl) (e_rcv (hb.1.2.1)) rfl (r_108 hb (show i < 200 by omega)) (fun σ' y hq => ?_)
  subst hq
  refine h_st rfl rfl ?_
  refine h_st rfl rfl ?_
  refine h_st rfl rfl ?_
  refine h_st rfl rfl ?_
  refine h_st rfl rfl ?_
  refine h_st rfl rfl ?_
  refine h_ci3 rfl (Nat.le_of_ble_eq_true rfl) (e_rcv (hb.1.2.1)) rfl (t2) (fun σ' y hq => ?_)
  subst hq
  refine h_st rfl rfl ?_
  exact h_rt rfl rfl (⟨_, _, rfl, rfl⟩)
theorem r_106l (hb : RB σ cc z) {P : ae_S × ae_O → Prop} (hx : ∀ x2 : Int32, hG ra (d + 2) 106 σ [some (.ref 176), some (.int 0), some (.int x2), some (.int (nI 10))] [] 49 P) : ∀ (m j : Nat) (x2 : Int32), j + m = 10 → hG ra (d + 2) 106 σ [some (.ref 176), some (.int 0), some (.int x2), some (.int (nI j))] [] 4 P := by
  intro m
  induction m with
  | zero =>
    intro j x2 hj
    have hj : j = 10 := by omega
    subst hj
    refine h_st rfl rfl ?_
    refine h_st rfl rfl ?_
    refine h_st rfl rfl ?_
    refine h_pc (if_pos (decide_eq_true (nI_le (Nat.le_refl 10) (by decide)))) ?_
    exact hx _
  | succ m ih =>
    intro j x2 hj
    have ih1 := fun x2 => ih (j + 1) x2 (by omega)
    simp only [← nI_1] at ih1
    have t2 : hE ra (d + 2) 107 [.ref 176, .int 0, .int (14 + 2 * nI j)] σ (pI (fun σ' _ => σ' = σ)) := by
      rw [show (14 : Int32) = nI 14 from rfl, show (2 : Int32) = nI 2 from rfl, pk_mul, nI_add]
      exact r_107 hb (by omega)
    refine h_st rfl rfl ?_
    refine h_st rfl rfl ?_
    refine h_st rfl rfl ?_
    refine h_pc (if_neg (fun z9 => (nI_ge (show j < 10 by omega) (by decide)) (of_decide_eq_true z9))) ?_
    refine h_st rfl rfl ?_
    refine h_st rfl rfl ?_
    refine h_st rfl rfl ?_
    refine h_br (fun y1 => ?_) (fun y1 => ?_)
    · refine h_st rfl rfl ?_
      refine h_st rfl rfl ?_
      refine h_st rfl rfl ?_
      refine h_st rfl rfl ?_
      refine h_st rfl rfl ?_
      refine h_st rfl rfl ?_
      refine h_st rfl rfl ?_
      refine h_st rfl rfl ?_
      refine h_ci3 rfl (Nat.le_of_ble_eq_true rfl) (e_rcv (hb.1.2.1)) rfl (t2) (fun σ' y hq => ?_)
      subst hq
      refine h_st rfl rfl ?_
      refine h_st rfl rfl ?_
      refine h_st rfl rfl ?_
      refine h_st rfl rfl ?_
      refine h_st rfl rfl ?_
      refine h_br (fun y2 => ?_) (fun y2 => ?_)
      · refine h_st rfl rfl ?_
        refine h_st rfl rfl ?_
        exact ih1 _
      · refine h_st rfl rfl ?_
        refine h_st rfl rfl ?_
        refine h_st rfl rfl ?_
        refine h_st rfl rfl ?_
        refine h_st rfl rfl ?_
        refine h_st rfl rfl ?_
        exact ih1 _
    · refine h_st rfl rfl ?_
      refine h_st rfl rfl ?_
      refine h_st rfl rfl ?_
      exact ih1 _
theorem r_106 (hb : RB σ cc z) : hE ra (d + 3) 106 [.ref 176, .int 0] σ (pI (fun σ' _ => σ' = σ)) := by
  refine h_in rfl rfl (Nat.le_of_ble_eq_true rfl) ?_
  refine h_st rfl rfl ?_
  refine h_st rfl rfl ?_
  refine h_st rfl rfl ?_
  refine h_st rfl rfl ?_
  refine r_106l hb (fun x2 => ?_) 10 0 _ rfl
  refine h_st rfl rfl ?_
  refine h_st rfl rfl ?_
  refine h_st rfl rfl ?_
  exact h_rt rfl rfl (⟨_, _, rfl, rfl⟩)
theorem r_111l (hb : RB σ cc z) {P : ae_S × ae_O → Prop} (hx : ∀ (x2 : Int32) (x4 x5 : Option Value), hG ra (d + 1) 111 σ [some (.ref 176), some (.int 0), some (.int x2), some (.int (nI (8 * (z - 4)))), x4, x5] [] 72 P) : ∀ (m j : Nat) (x2 : Int32) (x4 x5 : Option Value), j + m = 8 * (z - 4) → hG ra (d + 1) 111 σ [some (.ref 176), some (.int 0), some (.int x2), some (.int (nI j)), x4, x5] [] 4 P := by
  have hb0 := hb
  obtain ⟨h, hct, hsz⟩ := hb0
  obtain ⟨hz0, fz, a195, b195⟩ := hsz
  have hin : ¬ ((0 : Int32) < 0 ∨ 400 ≤ (0 : Int32).toNatClampNeg) := by decide
  have hv : fz (0 : Int32).toNatClampNeg = nI z := b195
  have e4 : 8 * (nI z - 4) = nI (8 * (z - 4)) := by
    rw [show (4 : Int32) = nI 4 from rfl, pk_sub (by omega), show (8 : Int32) = nI 8 from rfl, pk_mul]
  intro m
  induction m with
  | zero =>
    intro j x2 x4 x5 hj
    have hj : j = 8 * (z - 4) := by omega
    subst hj
    refine h_st rfl rfl ?_
    refine h_st rfl rfl ?_
    refine h_st rfl rfl ?_
    refine h_st rfl (e_get h.2.1 rfl) ?_
    refine h_st rfl rfl ?_
    refine h_st rfl ((e_ia a195 hin).trans (by rw [hv])) ?_
    refine h_st rfl rfl ?_
    refine h_st rfl rfl ?_
    refine h_st rfl rfl ?_
    refine h_st rfl rfl ?_
    refine h_pc (if_pos (decide_eq_true ((by show 8 * (nI z - 4) ≤ _; rw [e4]; exact nI_le (Nat.le_refl _) (by omega))))) ?_
    exact hx _ _ _
  | succ m ih =>
    intro j x2 x4 x5 hj
    have ih1 := fun x2 x4 x5 => ih (j + 1) x2 x4 x5 (by omega)
    simp only [← nI_1] at ih1
    have t2 : hE ra (d + 1) 108 [.ref 176, .int 0, .int (nI j / 8)] σ (pI (fun σ' _ => σ' = σ)) := by
      rw [show (8 : Int32) = nI 8 from rfl, pk_div (by omega) (by decide) (by decide)]
      exact r_108 hb (by omega)
    refine h_st rfl rfl ?_
    refine h_st rfl rfl ?_
    refine h_st rfl rfl ?_
    refine h_st rfl (e_get h.2.1 rfl) ?_
    refine h_st rfl rfl ?_
    refine h_st rfl ((e_ia a195 hin).trans (by rw [hv])) ?_
    refine h_st rfl rfl ?_
    refine h_st rfl rfl ?_
    refine h_st rfl rfl ?_
    refine h_st rfl rfl ?_
    refine h_pc (if_neg (fun z9 => (fun q => absurd (show 8 * (nI z - 4) ≤ nI j from q) (by rw [e4]; exact nI_ge (by omega) (by omega))) (of_decide_eq_true z9))) ?_
    refine h_st rfl rfl ?_
    refine h_st rfl rfl ?_
    refine h_st rfl rfl ?_
    refine h_st rfl rfl ?_
    refine h_st rfl (e_dv (by decide)) ?_
    refine h_ci3 rfl (Nat.le_of_ble_eq_true rfl) (e_rcv (h.2.1)) rfl (t2) (fun σ' y hq => ?_)
    subst hq
    refine h_st rfl rfl ?_
    refine h_st rfl rfl ?_
    refine h_st rfl (e_dv (by decide)) ?_
    refine h_st rfl rfl ?_
    refine h_st rfl rfl ?_
    refine h_st rfl rfl ?_
    refine h_st rfl rfl ?_
    refine h_st rfl rfl ?_
    refine h_st rfl rfl ?_
    refine h_st rfl rfl ?_
    refine h_st rfl rfl ?_
    refine h_st rfl rfl ?_
    refine h_br (fun y1 => ?_) (fun y1 => ?_)
    · refine h_st rfl rfl ?_
      refine h_st rfl rfl ?_
      refine h_st rfl rfl ?_
      refine h_st rfl rfl ?_
      refine h_st rfl rfl ?_
      refine h_st rfl rfl ?_
      refine h_st rfl rfl ?_
      refine h_st rfl rfl ?_
      refine h_pc (if_pos (by decide)) ?_
      refine h_st rfl rfl ?_
      refine h_st rfl rfl ?_
      exact ih1 _ _ _
    · refine h_st rfl rfl ?_
      refine h_st rfl rfl ?_
      refine h_st rfl rfl ?_
      refine h_st rfl rfl ?_
      refine h_st rfl rfl ?_
      refine h_st rfl rfl ?_
      refine h_st rfl rfl ?_
      refine h_st rfl rfl ?_
      refine h_st rfl rfl ?_
      refine h_pc (if_neg (by decide)) ?_
      refine h_st rfl rfl ?_
      refine h_st rfl rfl ?_
      refine h_st rfl rfl ?_
      refine h_st rfl rfl ?_
      refine h_st rfl rfl ?_
      refine h_st rfl rfl ?_
      exact ih1 _ _ _
theorem r_111 (hb : RB σ cc z) : hE ra (d + 2) 111 [.ref 176, .int 0] σ (pI (fun σ' _ => σ' = σ)) := by
  refine h_in rfl rfl (Nat.le_of_ble_eq_true rfl) ?_
  refine h_st rfl rfl ?_
  refine h_st rfl rfl ?_
  refine h_st rfl rfl ?_
  refine h_st rfl rfl ?_
  refine r_111l hb (fun x2 x4 x5 => ?_) (8 * (z - 4)) 0 _ _ _ (by omega)
  refine h_st rfl rfl ?_
  refine h_st rfl rfl ?_
  refine h_st rfl rfl ?_
  exact h_rt rfl rfl (⟨_, _, rfl, rfl⟩)
theorem r_110l {x y : Int32} {P : ae_S × ae_O → Prop} (hx : ∀ σ, RB σ cc z → hG ra (d + 2) 110 σ [some (.ref 176), some (.int 0), some (.int x), some (.int y), some (.int (nI 4))] [] 58 P) : ∀ (m j : Nat) (σ : ae_S), j + m = 4 → RB σ cc z → hG ra (d + 2) 110 σ [some (.ref 176), some (.int 0), some (.int x), some (.int y), some (.int (nI j))] [] 23 P := by
  intro m
  induction m with
  | zero =>
    intro j σ hj hb
    have hj : j = 4 := by omega
    subst hj
    refine h_st rfl rfl ?_
    refine h_st rfl rfl ?_
    refine h_st rfl rfl ?_
    refine h_pc (if_pos (decide_eq_true (nI_le (Nat.le_refl 4) (by decide)))) ?_
    exact hx _ hb
  | succ m ih =>
    intro j σ hj hb
    have ih1 := fun σ h1 => ih (j + 1) σ (by omega) h1
    simp only [← nI_1] at ih1
    have hb0 := hb
    obtain ⟨h, hct, hsz⟩ := hb0
    obtain ⟨hz0, fz, a195, b195⟩ := hsz
    have hin : ¬ ((0 : Int32) < 0 ∨ 400 ≤ (0 : Int32).toNatClampNeg) := by decide
    have hv : fz (0 : Int32).toNatClampNeg = nI z := b195
    have t2 : ∀ x : Int32, hE ra (d + 2) 105 [.ref 176, .int 0, .int (nI z - 4 + nI j), .int x] σ (pV (fun σ' => RB σ' cc z)) := by
      intro x
      rw [show (4 : Int32) = nI 4 from rfl, pk_sub (by omega), nI_add]
      exact r_105 hb (by omega) x
    refine h_st rfl rfl ?_
    refine h_st rfl rfl ?_
    refine h_st rfl rfl ?_
    refine h_pc (if_neg (fun z9 => (nI_ge (show j < 4 by omega) (by decide)) (of_decide_eq_true z9))) ?_
    refine h_st rfl rfl ?_
    refine h_st rfl rfl ?_
    refine h_st rfl rfl ?_
    refine h_st rfl (e_get h.2.1 rfl) ?_
    refine h_st rfl rfl ?_
    refine h_st rfl ((e_ia a195 hin).trans (by rw [hv])) ?_
    refine h_st rfl rfl ?_
    refine h_st rfl rfl ?_
    refine h_st rfl rfl ?_
    refine h_st rfl rfl ?_
    refine h_st rfl rfl ?_
    refine h_st rfl rfl ?_
    refine h_st rfl rfl ?_
    refine h_st rfl rfl ?_
    refine h_st rfl rfl ?_
    refine h_cv4 rfl (Nat.le_of_ble_eq_true rfl) (e_rcv (h.2.1)) rfl (t2 _) (fun σ2 hq => ?_)
    refine h_st rfl rfl ?_
    refine h_st rfl rfl ?_
    exact ih1 _ hq
theorem r_110 (hb : RB σ cc z) (x : Int32) : hE ra (d + 3) 110 [.ref 176, .int 0, .int x] σ (pV (fun σ' => RB σ' cc z)) := by
  have hb0 := hb
  obtain ⟨h, hct, hsz⟩ := hb0
  obtain ⟨hz0, fz, a195, b195⟩ := hsz
  have hin : ¬ ((0 : Int32) < 0 ∨ 400 ≤ (0 : Int32).toNatClampNeg) := by decide
  have hv : fz (0 : Int32).toNatClampNeg = nI z := b195
  have t2 : ∀ x : Int32, hE ra (d + 2) 105 [.ref 176, .int 0, .int (nI z - 5), .int x] σ (pV (fun σ' => RB σ' cc z)) := by
    intro x
    rw [show (5 : Int32) = nI 5 from rfl, pk_sub (by omega)]
    exact r_105 hb (by omega) x
  refine h_in rfl rfl (Nat.le_of_ble_eq_true rfl) ?_
  refine h_st rfl rfl ?_
  refine h_st rfl rfl ?_
  refine h_st rfl rfl ?_
  refine h_st rfl (e_get h.2.1 rfl) ?_
  refine h_st rfl rfl ?_
  refine h_st rfl ((e_ia a195 hin).trans (by rw [hv])) ?_
  refine h_st rfl rfl ?_
  refine h_st rfl rfl ?_
  refine h_st rfl rfl ?_
  refine h_cv4 rfl (Nat.le_of_ble_eq_true rfl) (e_rcv (h.2.1)) rfl (t2 _) (fun σ2 hq => ?_)
  refine h_st rfl rfl ?_
  refine h_st rfl rfl ?_
  refine h_ci2 rfl (Nat.le_of_ble_eq_true rfl) (e_rcv (hq.1.2.1)) rfl (r_111 hq) (fun σ3 y hy => ?_)
  subst hy
  refine h_st rfl rfl ?_
  refine h_st rfl rfl ?_
  refine h_st rfl rfl ?_
  refine r_110l (fun σ hb => ?_) 4 0 _ rfl hq
  exact h_rv rfl (⟨_, rfl, hb⟩)
theorem r_103 (hF : RF σ) (hz : 64 ≤ z ∧ z ≤ 200) (a1 a2 a3 a5 : Int32) : hE ra (d + 4) 103 [.ref 176, .int a1, .int a2, .int a3, .int (nI z - 39), .int a5, .int 0, .int 0] σ (pI (fun σ' x => x = 0 ∧ RB σ' σ.1 z)) := by
  have e39 : nI z - 39 + 39 = nI z := by
    rw [show (39 : Int32) = nI 39 from rfl, pk_sub (by omega), nI_add, Nat.sub_add_cancel (by omega)]
  have hin : ¬ ((0 : Int32) < 0 ∨ 400 ≤ (0 : Int32).toNatClampNeg) := by decide
  refine h_in rfl rfl (Nat.le_of_ble_eq_true rfl) ?_
  refine h_st rfl rfl ?_
  refine h_ci1 rfl (Nat.le_of_ble_eq_true rfl) (e_rcv (rf_o hF)) rfl (r_104 hF) (fun σ1 x hq => ?_)
  obtain ⟨rfl, h, hct⟩ := hq
  refine h_st rfl rfl ?_
  refine h_st rfl rfl ?_
  refine h_st rfl (e_get h.2.1 rfl) ?_
  refine h_st rfl rfl ?_
  refine h_st rfl rfl ?_
  refine h_st rfl rfl ?_
  refine h_st rfl rfl ?_
  refine h_st rfl rfl ?_
  refine h_st rfl rfl ?_
  refine h_pc (if_pos (decide_eq_true ((by show (64 : Int32) ≤ nI z - 39 + 39; rw [e39]; exact nI_le (a := 64) hz.1 (by omega))))) ?_
  refine h_st rfl rfl ?_
  refine h_st rfl rfl ?_
  refine h_st rfl rfl ?_
  refine s_ias rfl h (n := 400) (m := 0) (v := 0) (p := 195) (by simp [rf_A]) (hin) (fun σ2 f2 h2 ho hn => ?_)
  replace hct := hct.o (ho 198 (by decide))
  have hsz : Sz σ2 z := ⟨hz, _, hn.1, (pk_us (f := f2) (k := 0)).trans e39⟩
  clear hn ho
  replace h := h2
  clear h2
  have hb : RB _ _ _ := ⟨h, hct, hsz⟩
  refine h_st rfl rfl ?_
  refine h_st rfl rfl ?_
  refine h_st rfl rfl ?_
  refine h_st rfl rfl ?_
  refine h_cv4 rfl (Nat.le_of_ble_eq_true rfl) (e_rcv (hb.1.2.1)) rfl (r_105 hb (i := 0) (by decide) _) (fun σ2 hq => ?_)
  replace hb := hq
  clear hq
  refine h_st rfl rfl ?_
  refine h_st rfl rfl ?_
  refine h_st rfl rfl ?_
  refine h_st rfl rfl ?_
  refine h_cv4 rfl (Nat.le_of_ble_eq_true rfl) (e_rcv (hb.1.2.1)) rfl (r_105 hb (i := 5) (by decide) _) (fun σ2 hq => ?_)
  replace hb := hq
  clear hq
  refine h_st rfl rfl ?_
  refine h_st rfl rfl ?_
  refine h_st rfl rfl ?_
  refine h_st rfl rfl ?_
  refine h_cv4 rfl (Nat.le_of_ble_eq_true rfl) (e_rcv (hb.1.2.1)) rfl (r_105 hb (i := 6) (by decide) _) (fun σ2 hq => ?_)
  replace hb := hq
  clear hq
  refine h_st rfl rfl ?_
  refine h_st rfl rfl ?_
  refine h_st rfl rfl ?_
  refine h_st rfl rfl ?_
  refine h_cv4 rfl (Nat.le_of_ble_eq_true rfl) (e_rcv (hb.1.2.1)) rfl (r_105 hb (i := 10) (by decide) _) (fun σ2 hq => ?_)
  replace hb := hq
  clear hq
  refine h_st rfl rfl ?_
  refine h_st rfl rfl ?_
  refine h_st rfl rfl ?_
  refine h_st rfl rfl ?_
  refine h_st rfl rfl ?_
  refine h_br (fun zz => ?_) (fun zz => ?_)
  · refine h_st rfl rfl ?_
    refine h_cv4 rfl (Nat.le_of_ble_eq_true rfl) (e_rcv (hb.1.2.1)) rfl (r_105 hb (i := 11) (by decide) _) (fun σ2 hq => ?_)
    replace hb := hq
    clear hq
    refine h_st rfl rfl ?_
    refine h_st rfl rfl ?_
    refine h_st rfl rfl ?_
    refine h_st rfl rfl ?_
    refine h_cv4 rfl (Nat.le_of_ble_eq_true rfl) (e_rcv (hb.1.2.1)) rfl (r_105 hb (i := 12) (by decide) _) (fun σ2 hq => ?_)
    replace hb := hq
    clear hq
    refine h_st rfl rfl ?_
    refine h_st rfl rfl ?_
    refine h_st rfl rfl ?_
    refine h_st rfl rfl ?_
    refine h_cv4 rfl (Nat.le_of_ble_eq_true rfl) (e_rcv (hb.1.2.1)) rfl (r_105 hb (i := 14) (by decide) _) (fun σ2 hq => ?_)
    replace hb := hq
    clear hq
    refine h_st rfl rfl ?_
    refine h_st rfl rfl ?_
    refine h_st rfl rfl ?_
    refine h_st rfl rfl ?_
    refine h_st rfl rfl ?_
    refine h_st rfl rfl ?_
    refine h_st rfl rfl ?_
    refine h_st rfl (e_dv (by decide)) ?_
    refine h_cv4 rfl (Nat.le_of_ble_eq_true rfl) (e_rcv (hb.1.2.1)) rfl (r_105 hb (i := 16) (by decide) _) (fun σ2 hq => ?_)
    replace hb := hq
    clear hq
    refine h_st rfl rfl ?_
    refine h_st rfl rfl ?_
    refine h_st rfl rfl ?_
    refine h_st rfl rfl ?_
    refine h_st rfl rfl ?_
    refine h_st rfl rfl ?_
    refine h_cv4 rfl (Nat.le_of_ble_eq_true rfl) (e_rcv (hb.1.2.1)) rfl (r_105 hb (i := 17) (by decide) _) (fun σ2 hq => ?_)
    replace hb := hq
    clear hq
    refine h_st rfl rfl ?_
    refine h_st rfl rfl ?_
    refine h_st rfl rfl ?_
    refine h_st rfl rfl ?_
    refine h_st rfl rfl ?_
    refine h_st rfl (e_dv (by decide)) ?_
    refine h_cv4 rfl (Nat.le_of_ble_eq_true rfl) (e_rcv (hb.1.2.1)) rfl (r_105 hb (i := 18) (by decide) _) (fun σ2 hq => ?_)
    replace hb := hq
    clear hq
    refine h_st rfl rfl ?_
    refine h_st rfl rfl ?_
    refine h_st rfl rfl ?_
    refine h_st rfl rfl ?_
    refine h_cv4 rfl (Nat.le_of_ble_eq_true rfl) (e_rcv (hb.1.2.1)) rfl (r_105 hb (i := 19) (by decide) _) (fun σ2 hq => ?_)
    replace hb := hq
    clear hq
    refine h_st rfl rfl ?_
    refine h_st rfl rfl ?_
    refine h_st rfl rfl ?_
    refine h_st rfl rfl ?_
    refine h_st rfl rfl ?_
    refine h_pc (if_pos (by decide)) ?_
    refine h_st rfl rfl ?_
    refine h_cv4 rfl (Nat.le_of_ble_eq_true rfl) (e_rcv (hb.1.2.1)) rfl (r_105 hb (i := 20) (by decide) _) (fun σ2 hq => ?_)
    replace hb := hq
    clear hq
    refine h_st rfl rfl ?_
    refine h_st rfl rfl ?_
    refine h_st rfl rfl ?_
    refine h_st rfl rfl ?_
    refine h_st rfl rfl ?_
    refine h_st rfl (e_dv (by decide)) ?_
    refine h_cv4 rfl (Nat.le_of_ble_eq_true rfl) (e_rcv (hb.1.2.1)) rfl (r_105 hb (i := 21) (by decide) _) (fun σ2 hq => ?_)
    replace hb := hq
    clear hq
    refine h_st rfl rfl ?_
    refine h_st rfl rfl ?_
    refine h_st rfl rfl ?_
    refine h_st rfl rfl ?_
    refine h_cv4 rfl (Nat.le_of_ble_eq_true rfl) (e_rcv (hb.1.2.1)) rfl (r_105 hb (i := 22) (by decide) _) (fun σ2 hq => ?_)
    replace hb := hq
    clear hq
    refine h_st rfl rfl ?_
    refine h_st rfl rfl ?_
    refine h_st rfl rfl ?_
    refine h_st rfl rfl ?_
    refine h_cv4 rfl (Nat.le_of_ble_eq_true rfl) (e_rcv (hb.1.2.1)) rfl (r_105 hb (i := 23) (by decide) _) (fun σ2 hq => ?_)
    replace hb := hq
    clear hq
    refine h_st rfl rfl ?_
    refine h_st rfl rfl ?_
    refine h_st rfl rfl ?_
    refine h_st rfl rfl ?_
    refine h_cv4 rfl (Nat.le_of_ble_eq_true rfl) (e_rcv (hb.1.2.1)) rfl (r_105 hb (i := 26) (by decide) _) (fun σ2 hq => ?_)
    replace hb := hq
    clear hq
    refine h_st rfl rfl ?_
    refine h_st rfl rfl ?_
    refine h_st rfl rfl ?_
    refine h_st rfl rfl ?_
    refine h_cv4 rfl (Nat.le_of_ble_eq_true rfl) (e_rcv (hb.1.2.1)) rfl (r_105 hb (i := 27) (by decide) _) (fun σ2 hq => ?_)
    replace hb := hq
    clear hq
    refine h_st rfl rfl ?_
    refine h_st rfl rfl ?_
    refine h_st rfl rfl ?_
    refine h_st rfl rfl ?_
    refine h_cv4 rfl (Nat.le_of_ble_eq_true rfl) (e_rcv (hb.1.2.1)) rfl (r_105 hb (i := 28) (by decide) _) (fun σ2 hq => ?_)
    replace hb := hq
    clear hq
    refine h_st rfl rfl ?_
    refine h_st rfl rfl ?_
    refine h_st rfl rfl ?_
    refine h_st rfl rfl ?_
    refine h_cv4 rfl (Nat.le_of_ble_eq_true rfl) (e_rcv (hb.1.2.1)) rfl (r_105 hb (i := 29) (by decide) _) (fun σ2 hq => ?_)
    replace hb := hq
    clear hq
    refine h_st rfl rfl ?_
    refine h_st rfl rfl ?_
    refine h_st rfl rfl ?_
    refine h_st rfl rfl ?_
    refine h_cv4 rfl (Nat.le_of_ble_eq_true rfl) (e_rcv (hb.1.2.1)) rfl (r_105 hb (i := 30) (by decide) _) (fun σ2 hq => ?_)
    replace hb := hq
    clear hq
    refine h_st rfl rfl ?_
    refine h_st rfl rfl ?_
    refine h_st rfl rfl ?_
    refine h_st rfl rfl ?_
    refine h_cv4 rfl (Nat.le_of_ble_eq_true rfl) (e_rcv (hb.1.2.1)) rfl (r_105 hb (i := 31) (by decide) _) (fun σ2 hq => ?_)
    replace hb := hq
    clear hq
    refine h_st rfl rfl ?_
    refine h_st rfl rfl ?_
    refine h_st rfl rfl ?_
    refine h_st rfl rfl ?_
    refine h_cv4 rfl (Nat.le_of_ble_eq_true rfl) (e_rcv (hb.1.2.1)) rfl (r_105 hb (i := 33) (by decide) _) (fun σ2 hq => ?_)
    replace hb := hq
    clear hq
    refine h_st rfl rfl ?_
    refine h_st rfl rfl ?_
    refine h_ci2 rfl (Nat.le_of_ble_eq_true rfl) (e_rcv (hb.1.2.1)) rfl (r_106 hb) (fun σ3 y hy => ?_)
    subst hy
    refine h_st rfl rfl ?_
    refine h_st rfl rfl ?_
    refine h_st rfl rfl ?_
    refine h_st rfl rfl ?_
    refine h_st rfl rfl ?_
    refine h_st rfl rfl ?_
    refine h_st rfl (e_dv (by decide)) ?_
    refine h_cv4 rfl (Nat.le_of_ble_eq_true rfl) (e_rcv (hb.1.2.1)) rfl (r_105 hb (i := 24) (by decide) _) (fun σ2 hq => ?_)
    replace hb := hq
    clear hq
    refine h_st rfl rfl ?_
    refine h_st rfl rfl ?_
    refine h_st rfl rfl ?_
    refine h_st rfl rfl ?_
    refine h_cv4 rfl (Nat.le_of_ble_eq_true rfl) (e_rcv (hb.1.2.1)) rfl (r_105 hb (i := 25) (by decide) _) (fun σ2 hq => ?_)
    replace hb := hq
    clear hq
    refine h_st rfl rfl ?_
    exact h_rt rfl rfl (⟨_, _, rfl, rfl, hb⟩)
  · refine h_st rfl rfl ?_
    refine h_st rfl rfl ?_
    refine h_cv4 rfl (Nat.le_of_ble_eq_true rfl) (e_rcv (hb.1.2.1)) rfl (r_105 hb (i := 11) (by decide) _) (fun σ2 hq => ?_)
    replace hb := hq
    clear hq
    refine h_st rfl rfl ?_
    refine h_st rfl rfl ?_
    refine h_st rfl rfl ?_
    refine h_st rfl rfl ?_
    refine h_cv4 rfl (Nat.le_of_ble_eq_true rfl) (e_rcv (hb.1.2.1)) rfl (r_105 hb (i := 12) (by decide) _) (fun σ2 hq => ?_)
    replace hb := hq
    clear hq
    refine h_st rfl rfl ?_
    refine h_st rfl rfl ?_
    refine h_st rfl rfl ?_
    refine h_st rfl rfl ?_
    refine h_cv4 rfl (Nat.le_of_ble_eq_true rfl) (e_rcv (hb.1.2.1)) rfl (r_105 hb (i := 14) (by decide) _) (fun σ2 hq => ?_)
    replace hb := hq
    clear hq
    refine h_st rfl rfl ?_
    refine h_st rfl rfl ?_
    refine h_st rfl rfl ?_
    refine h_st rfl rfl ?_
    refine h_st rfl rfl ?_
    refine h_st rfl rfl ?_
    refine h_st rfl rfl ?_
    refine h_st rfl (e_dv (by decide)) ?_
    refine h_cv4 rfl (Nat.le_of_ble_eq_true rfl) (e_rcv (hb.1.2.1)) rfl (r_105 hb (i := 16) (by decide) _) (fun σ2 hq => ?_)
    replace hb := hq
    clear hq
    refine h_st rfl rfl ?_
    refine h_st rfl rfl ?_
    refine h_st rfl rfl ?_
    refine h_st rfl rfl ?_
    refine h_st rfl rfl ?_
    refine h_st rfl rfl ?_
    refine h_cv4 rfl (Nat.le_of_ble_eq_true rfl) (e_rcv (hb.1.2.1)) rfl (r_105 hb (i := 17) (by decide) _) (fun σ2 hq => ?_)
    replace hb := hq
    clear hq
    refine h_st rfl rfl ?_
    refine h_st rfl rfl ?_
    refine h_st rfl rfl ?_
    refine h_st rfl rfl ?_
    refine h_st rfl rfl ?_
    refine h_st rfl (e_dv (by decide)) ?_
    refine h_cv4 rfl (Nat.le_of_ble_eq_true rfl) (e_rcv (hb.1.2.1)) rfl (r_105 hb (i := 18) (by decide) _) (fun σ2 hq => ?_)
    replace hb := hq
    clear hq
    refine h_st rfl rfl ?_
    refine h_st rfl rfl ?_
    refine h_st rfl rfl ?_
    refine h_st rfl rfl ?_
    refine h_cv4 rfl (Nat.le_of_ble_eq_true rfl) (e_rcv (hb.1.2.1)) rfl (r_105 hb (i := 19) (by decide) _) (fun σ2 hq => ?_)
    replace hb := hq
    clear hq
    refine h_st rfl rfl ?_
    refine h_st rfl rfl ?_
    refine h_st rfl rfl ?_
    refine h_st rfl rfl ?_
    refine h_st rfl rfl ?_
    refine h_pc (if_pos (by decide)) ?_
    refine h_st rfl rfl ?_
    refine h_cv4 rfl (Nat.le_of_ble_eq_true rfl) (e_rcv (hb.1.2.1)) rfl (r_105 hb (i := 20) (by decide) _) (fun σ2 hq => ?_)
    replace hb := hq
    clear hq
    refine h_st rfl rfl ?_
    refine h_st rfl rfl ?_
    refine h_st rfl rfl ?_
    refine h_st rfl rfl ?_
    refine h_st rfl rfl ?_
    refine h_st rfl (e_dv (by decide)) ?_
    refine h_cv4 rfl (Nat.le_of_ble_eq_true rfl) (e_rcv (hb.1.2.1)) rfl (r_105 hb (i := 21) (by decide) _) (fun σ2 hq => ?_)
    replace hb := hq
    clear hq
    refine h_st rfl rfl ?_
    refine h_st rfl rfl ?_
    refine h_st rfl rfl ?_
    refine h_st rfl rfl ?_
    refine h_cv4 rfl (Nat.le_of_ble_eq_true rfl) (e_rcv (hb.1.2.1)) rfl (r_105 hb (i := 22) (by decide) _) (fun σ2 hq => ?_)
    replace hb := hq
    clear hq
    refine h_st rfl rfl ?_
    refine h_st rfl rfl ?_
    refine h_st rfl rfl ?_
    refine h_st rfl rfl ?_
    refine h_cv4 rfl (Nat.le_of_ble_eq_true rfl) (e_rcv (hb.1.2.1)) rfl (r_105 hb (i := 23) (by decide) _) (fun σ2 hq => ?_)
    replace hb := hq
    clear hq
    refine h_st rfl rfl ?_
    refine h_st rfl rfl ?_
    refine h_st rfl rfl ?_
    refine h_st rfl rfl ?_
    refine h_cv4 rfl (Nat.le_of_ble_eq_true rfl) (e_rcv (hb.1.2.1)) rfl (r_105 hb (i := 26) (by decide) _) (fun σ2 hq => ?_)
    replace hb := hq
    clear hq
    refine h_st rfl rfl ?_
    refine h_st rfl rfl ?_
    refine h_st rfl rfl ?_
    refine h_st rfl rfl ?_
    refine h_cv4 rfl (Nat.le_of_ble_eq_true rfl) (e_rcv (hb.1.2.1)) rfl (r_105 hb (i := 27) (by decide) _) (fun σ2 hq => ?_)
    replace hb := hq
    clear hq
    refine h_st rfl rfl ?_
    refine h_st rfl rfl ?_
    refine h_st rfl rfl ?_
    refine h_st rfl rfl ?_
    refine h_cv4 rfl (Nat.le_of_ble_eq_true rfl) (e_rcv (hb.1.2.1)) rfl (r_105 hb (i := 28) (by decide) _) (fun σ2 hq => ?_)
    replace hb := hq
    clear hq
    refine h_st rfl rfl ?_
    refine h_st rfl rfl ?_
    refine h_st rfl rfl ?_
    refine h_st rfl rfl ?_
    refine h_cv4 rfl (Nat.le_of_ble_eq_true rfl) (e_rcv (hb.1.2.1)) rfl (r_105 hb (i := 29) (by decide) _) (fun σ2 hq => ?_)
    replace hb := hq
    clear hq
    refine h_st rfl rfl ?_
    refine h_st rfl rfl ?_
    refine h_st rfl rfl ?_
    refine h_st rfl rfl ?_
    refine h_cv4 rfl (Nat.le_of_ble_eq_true rfl) (e_rcv (hb.1.2.1)) rfl (r_105 hb (i := 30) (by decide) _) (fun σ2 hq => ?_)
    replace hb := hq
    clear hq
    refine h_st rfl rfl ?_
    refine h_st rfl rfl ?_
    refine h_st rfl rfl ?_
    refine h_st rfl rfl ?_
    refine h_cv4 rfl (Nat.le_of_ble_eq_true rfl) (e_rcv (hb.1.2.1)) rfl (r_105 hb (i := 31) (by decide) _) (fun σ2 hq => ?_)
    replace hb := hq
    clear hq
    refine h_st rfl rfl ?_
    refine h_st rfl rfl ?_
    refine h_st rfl rfl ?_
    refine h_st rfl rfl ?_
    refine h_cv4 rfl (Nat.le_of_ble_eq_true rfl) (e_rcv (hb.1.2.1)) rfl (r_105 hb (i := 33) (by decide) _) (fun σ2 hq => ?_)
    replace hb := hq
    clear hq
    refine h_st rfl rfl ?_
    refine h_st rfl rfl ?_
    refine h_ci2 rfl (Nat.le_of_ble_eq_true rfl) (e_rcv (hb.1.2.1)) rfl (r_106 hb) (fun σ3 y hy => ?_)
    subst hy
    refine h_st rfl rfl ?_
    refine h_st rfl rfl ?_
    refine h_st rfl rfl ?_
    refine h_st rfl rfl ?_
    refine h_st rfl rfl ?_
    refine h_st rfl rfl ?_
    refine h_st rfl (e_dv (by decide)) ?_
    refine h_cv4 rfl (Nat.le_of_ble_eq_true rfl) (e_rcv (hb.1.2.1)) rfl (r_105 hb (i := 24) (by decide) _) (fun σ2 hq => ?_)
    replace hb := hq
    clear hq
    refine h_st rfl rfl ?_
    refine h_st rfl rfl ?_
    refine h_st rfl rfl ?_
    refine h_st rfl rfl ?_
    refine h_cv4 rfl (Nat.le_of_ble_eq_true rfl) (e_rcv (hb.1.2.1)) rfl (r_105 hb (i := 25) (by decide) _) (fun σ2 hq => ?_)
    replace hb := hq
    clear hq
    refine h_st rfl rfl ?_
    exact h_rt rfl rfl (⟨_, _, rfl, rfl, hb⟩)
theorem r_112 (hb : RB σ cc z) {a c : Nat} (ha : a < 2) (hc : c < 4) : hE ra (d + 1) 112 [.ref 176, .int (12 * nI a + nI c), .int 0, .int 0] σ (pV (fun σ' => σ'.1 = cc)) := by
  obtain ⟨h, ⟨fc, a198, b198⟩, hsz⟩ := hb
  have e0 : (12 : Int32) * nI a + nI c = nI (12 * a + c) := by rw [show (12 : Int32) = nI 12 from rfl, pk_mul, nI_add]
  rw [e0]
  have e1 : nI (12 * a + c) - nI (12 * a + c) / 12 * 12 = nI c := by
    rw [show (12 : Int32) = nI 12 from rfl, pk_rem (by omega) (by decide) (by decide)]
    congr 1
    omega
  have e2 : 2 * nI (12 * a + c) + 0 = nI (2 * (12 * a + c)) := by rw [show (2 : Int32) = nI 2 from rfl, pk_mul, show (0 : Int32) = nI 0 from rfl, nI_add]; rfl
  have hin : ¬ (2 * nI (12 * a + c) + 0 < 0 ∨ 48 ≤ (2 * nI (12 * a + c) + 0).toNatClampNeg) := by rw [e2]; exact nI_in (by omega) (by decide)
  have hv : fc (2 * nI (12 * a + c) + 0).toNatClampNeg = 0 := by rw [e2, nI_clamp (by omega)]; exact b198 _ (by omega)
  have hin2 : ¬ (16 * (2 * nI (12 * a + c) + 0) + 0 < 0 ∨ 768 ≤ (16 * (2 * nI (12 * a + c) + 0) + 0).toNatClampNeg) := by
    rw [e2, show (16 : Int32) = nI 16 from rfl, pk_mul, show (0 : Int32) = nI 0 from rfl, nI_add]
    exact nI_in (by omega) (by decide)
  refine h_in rfl rfl (Nat.le_of_ble_eq_true rfl) ?_
  refine h_st rfl rfl ?_
  refine h_st rfl rfl ?_
  refine h_st rfl (e_dv (by decide)) ?_
  refine h_st rfl rfl ?_
  refine h_st rfl rfl ?_
  refine h_pc (if_neg (fun z9 => (fun q => absurd (show (4 : Int32) ≤ nI (12 * a + c) - nI (12 * a + c) / 12 * 12 from q) (by rw [e1]; exact nI_ge (b := 4) hc (by decide))) (of_decide_eq_true z9))) ?_
  refine h_st rfl rfl ?_
  refine h_st rfl rfl ?_
  refine h_st rfl rfl ?_
  refine h_st rfl rfl ?_
  refine h_st rfl rfl ?_
  refine h_st rfl rfl ?_
  refine h_st rfl rfl ?_
  refine h_st rfl rfl ?_
  refine h_pc (if_pos (by decide)) ?_
  refine h_st rfl rfl ?_
  refine h_st rfl rfl ?_
  refine h_st rfl rfl ?_
  refine h_st rfl rfl ?_
  refine h_st rfl (e_get h.2.1 rfl) ?_
  refine h_st rfl rfl ?_
  refine h_st rfl ((e_ia a198 hin).trans (by rw [hv])) ?_
  refine h_st rfl rfl ?_
  refine h_st rfl rfl ?_
  refine h_pc (if_neg (by decide)) ?_
  refine h_st rfl rfl ?_
  refine h_st rfl rfl ?_
  refine h_st rfl rfl ?_
  refine h_pc (if_pos (by decide)) ?_
  refine h_st rfl rfl ?_
  refine h_st rfl (e_get h.2.1 rfl) ?_
  refine h_st rfl rfl ?_
  refine h_st rfl rfl ?_
  refine h_st rfl rfl ?_
  refine h_st rfl rfl ?_
  refine h_st rfl (e_get h.2.1 rfl) ?_
  refine h_st rfl rfl ?_
  refine h_st rfl ((e_ia a198 hin).trans (by rw [hv])) ?_
  refine h_st rfl rfl ?_
  refine h_st rfl rfl ?_
  refine s_ias rfl h (n := 768) (m := 0) (v := 0) (p := 197) (by simp [rf_A]) (hin2) (fun σ2 f2 h2 ho hn => ?_)
  clear hn ho
  replace h := h2
  clear h2
  refine h_st rfl rfl ?_
  refine h_st rfl (e_get h.2.1 rfl) ?_
  refine h_st rfl rfl ?_
  refine h_st rfl rfl ?_
  refine s_ia rfl h (n := 48) (m := 48) (v := 0) (p := 198) (by simp [rf_A]) (hin) (fun x => ?_)
  refine h_st rfl rfl ?_
  refine h_st rfl rfl ?_
  refine s_ias rfl h (n := 48) (m := 48) (v := 0) (p := 198) (by simp [rf_A]) (hin) (fun σ2 f2 h2 ho hn => ?_)
  clear hn ho
  replace h := h2
  clear h2
  exact h_rv rfl (⟨_, rfl, h.1⟩)
theorem i_lt {x : Int32} {a b : Int32} (ha : b.toInt = a.toInt + 1) : a < x ↔ b ≤ x := by
  rw [Int32.lt_iff_toInt_lt, Int32.le_iff_toInt_le, ha]
  omega
theorem r_135 (h : RF σ) (n s l y f : Int32) : hE ra (d + 5) 135 [.ref 176, .int n, .int s, .int l, .int y, .int f] σ (pI (fun σ' x => σ'.1 = σ.1 ∧ ((okB n s l y ∧ x = 1) ∨ (¬ okB n s l y ∧ x = 0)))) := by
  have hm := rf_o h
  obtain ⟨fc, a198, b198⟩ := rf_a h (p := 198) (t := 0) (n := 48) (m := 48) (v := 0) (by simp [rf_A])
  have k1 : ∀ x : Int32, 1 < x ↔ 2 ≤ x := fun x => i_lt (by decide)
  have k3 : ∀ x : Int32, 3 < x ↔ 4 ≤ x := fun x => i_lt (by decide)
  have k7 : ∀ x : Int32, 7 < x ↔ 8 ≤ x := fun x => i_lt (by decide)
  refine h_in rfl rfl (Nat.le_of_ble_eq_true rfl) ?_
  refine h_st rfl rfl ?_
  refine h_st rfl rfl ?_
  refine h_st rfl (e_putS hm rfl (Nat.le_of_ble_eq_true rfl) rfl) ?_
  refine h_st rfl rfl ?_
  refine h_st rfl rfl ?_
  refine h_br (fun q1 => ?_) (fun q1 => ?_)
  · refine h_st rfl rfl ?_
    exact h_rt rfl rfl (⟨_, _, rfl, rfl, Or.inr ⟨fun v => v.1.1 q1, rfl⟩⟩)
  · refine h_st rfl rfl ?_
    refine h_st rfl rfl ?_
    refine h_st rfl rfl ?_
    refine h_br (fun q2 => ?_) (fun q2 => ?_)
    · refine h_st rfl rfl ?_
      exact h_rt rfl rfl (⟨_, _, rfl, rfl, Or.inr ⟨fun v => v.1.2 ((k1 _).mp q2), rfl⟩⟩)
    · refine h_st rfl rfl ?_
      refine h_st rfl rfl ?_
      refine h_br (fun q3 => ?_) (fun q3 => ?_)
      · refine h_st rfl rfl ?_
        exact h_rt rfl rfl (⟨_, _, rfl, rfl, Or.inr ⟨fun v => v.2.1.1 q3, rfl⟩⟩)
      · refine h_st rfl rfl ?_
        refine h_st rfl rfl ?_
        refine h_st rfl rfl ?_
        refine h_br (fun q4 => ?_) (fun q4 => ?_)
        · refine h_st rfl rfl ?_
          exact h_rt rfl rfl (⟨_, _, rfl, rfl, Or.inr ⟨fun v => v.2.1.2 ((k3 _).mp q4), rfl⟩⟩)
        · refine h_st rfl rfl ?_
          refine h_st rfl rfl ?_
          refine h_br (fun q5 => ?_) (fun q5 => ?_)
          · refine h_st rfl rfl ?_
            exact h_rt rfl rfl (⟨_, _, rfl, rfl, Or.inr ⟨fun v => v.2.2.1.1 q5, rfl⟩⟩)
          · refine h_st rfl rfl ?_
            refine h_st rfl rfl ?_
            refine h_st rfl rfl ?_
            refine h_br (fun q6 => ?_) (fun q6 => ?_)
            · refine h_st rfl rfl ?_
              exact h_rt rfl rfl (⟨_, _, rfl, rfl, Or.inr ⟨fun v => v.2.2.1.2 ((k7 _).mp q6), rfl⟩⟩)
            · refine h_st rfl rfl ?_
              refine h_st rfl rfl ?_
              refine h_st rfl rfl ?_
              refine h_br (fun q7 => ?_) (fun q7 => ?_)
              · refine h_st rfl rfl ?_
                exact h_rt rfl rfl (⟨_, _, rfl, rfl, Or.inr ⟨fun v => v.2.2.2.1 q7, rfl⟩⟩)
              · refine h_st rfl rfl ?_
                refine h_st rfl rfl ?_
                refine h_st rfl rfl ?_
                refine h_br (fun q8 => ?_) (fun q8 => ?_)
                · refine h_st rfl rfl ?_
                  exact h_rt rfl rfl (⟨_, _, rfl, rfl, Or.inr ⟨fun v => absurd v.2.2.2.2 (Int32.not_le.mpr q8), rfl⟩⟩)
                · obtain ⟨a, ha, rfl⟩ := i_ix (n := 2) (by decide) q1 (fun v => q2 ((k1 n).mpr v))
                  obtain ⟨c, hc, rfl⟩ := i_ix (n := 4) (by decide) q3 (fun v => q4 ((k3 s).mpr v))
                  obtain ⟨z, hz, rfl⟩ := nI_of2 (M := 200) (n := 200) (by decide) (fun v => q7 (Int32.lt_trans v (by decide))) (Int32.not_lt.mp q8)
                  have hz2 : 64 ≤ z := Nat.le_of_not_lt (fun v => q7 (nI_lt (b := 64) v (by decide)))
                  have e2 : 2 * (12 * nI a + nI c) = nI (2 * (12 * a + c)) := by rw [show (12 : Int32) = nI 12 from rfl, show (2 : Int32) = nI 2 from rfl, pk_mul, nI_add, pk_mul]
                  have hin : ¬ (2 * (12 * nI a + nI c) < 0 ∨ 48 ≤ (2 * (12 * nI a + nI c)).toNatClampNeg) := by rw [e2]; exact nI_in (by omega) (by decide)
                  have hv : fc (2 * (12 * nI a + nI c)).toNatClampNeg = 0 := by rw [e2, nI_clamp (by omega)]; exact b198 _ (by omega)
                  refine h_st rfl rfl ?_
                  refine h_st rfl (e_get hm rfl) ?_
                  refine h_st rfl rfl ?_
                  refine h_st rfl rfl ?_
                  refine h_st rfl rfl ?_
                  refine h_st rfl rfl ?_
                  refine h_st rfl rfl ?_
                  refine h_st rfl rfl ?_
                  refine h_st rfl rfl ?_
                  refine h_st rfl ((e_ia a198 hin).trans (by rw [hv])) ?_
                  refine h_st rfl rfl ?_
                  refine h_st rfl rfl ?_
                  refine h_pc (if_pos (by decide)) ?_
                  refine h_st rfl rfl ?_
                  refine h_st rfl rfl ?_
                  refine h_st rfl rfl ?_
                  refine h_st rfl rfl ?_
                  refine h_st rfl rfl ?_
                  refine h_st rfl rfl ?_
                  refine h_st rfl rfl ?_
                  refine h_st rfl rfl ?_
                  refine h_st rfl rfl ?_
                  refine h_st rfl rfl ?_
                  refine h_st rfl rfl ?_
                  refine h_st rfl rfl ?_
                  refine h_ci8 rfl (Nat.le_of_ble_eq_true rfl) (e_rcv (hm)) rfl (r_103 h ⟨hz2, hz⟩ _ _ _ _) (fun σ2 x hq => ?_)
                  obtain ⟨rfl, hb⟩ := hq
                  refine h_st rfl rfl ?_
                  refine h_st rfl rfl ?_
                  refine h_st rfl rfl ?_
                  refine h_st rfl rfl ?_
                  refine h_st rfl rfl ?_
                  refine h_st rfl rfl ?_
                  refine h_cv3 rfl (Nat.le_of_ble_eq_true rfl) (e_rcv (hb.1.2.1)) rfl (r_110 hb _) (fun σ3 hq => ?_)
                  refine h_st rfl rfl ?_
                  refine h_st rfl rfl ?_
                  refine h_st rfl rfl ?_
                  refine h_st rfl rfl ?_
                  refine h_st rfl rfl ?_
                  refine h_st rfl rfl ?_
                  refine h_st rfl rfl ?_
                  refine h_st rfl rfl ?_
                  refine h_cv4 rfl (Nat.le_of_ble_eq_true rfl) (e_rcv (hq.1.2.1)) rfl (r_112 hq ha hc) (fun σ4 hq2 => ?_)
                  refine h_st rfl rfl ?_
                  exact h_rt rfl rfl (⟨_, _, rfl, hq2, Or.inl ⟨⟨⟨q1, fun v => q2 ((k1 _).mpr v)⟩, ⟨q3, fun v => q4 ((k3 _).mpr v)⟩, ⟨q5, fun v => q6 ((k7 _).mpr v)⟩, q7, Int32.not_lt.mp q8⟩, rfl⟩⟩)
end SP10
