section RF6
variable {ra : ae_R} {d : Nat} {σ : ae_S}
theorem h_ci8 {mid pc : Nat} {L : ae_Ls} {P : ae_S × ae_O → Prop} {P1 : ae_S → Int32 → Prop} {mi np : Nat} {rc : Option Nat} {hs : List (Nat × Nat × Nat)} {a0 a1 a2 a3 a4 a5 a6 a7 : Value} {rest : List Value} (ht : ae_tab (at0 mid) pc = some (.inr (.inr (.inl (mi, 8, np, rc, hs))))) (hc : ae_cat rest ≤ 8) (hr : ae_rcv σ rc [a0, a1, a2, a3, a4, a5, a6, a7] = true) (ha : ([a0, a1, a2, a3, a4, a5, a6, a7] : List Value).all (fun v => v.category == 1) = true) (h1 : hE ra d mi [a0, a1, a2, a3, a4, a5, a6, a7] σ (pI P1)) (h : ∀ σ' x, P1 σ' x → hG ra d mid σ' L (.int x :: rest) np P) : hG ra d mid σ L (a7 :: a6 :: a5 :: a4 :: a3 :: a2 :: a1 :: a0 :: rest) pc P := by
  obtain ⟨r, g1, σ', x, rfl, g2⟩ := h1
  obtain ⟨r2, q1, q2⟩ := h σ' x g2
  exact ⟨r2, g_ca (as := [a0, a1, a2, a3, a4, a5, a6, a7]) (rest := rest) ht rfl rfl hc hr ha g1 q1, q2⟩
theorem RS.base {b : Bool} {σ0 : ae_S} {F0 F : Nat → Nat → Int32} {c u g : Int32} (h : RS b σ0 F0 σ c u g F) : RS true σ0 F σ c u g F := ⟨h.1, h.2.1, h.2.2.1, fun _ _ _ _ => rfl⟩
theorem RS.fls {b : Bool} {σ0 : ae_S} {F0 F1 F : Nat → Nat → Int32} {c u g : Int32} (h : RS b σ0 F0 σ c u g F) : RS false σ0 F1 σ c u g F := ⟨h.1, h.2.1, h.2.2.1, fun z => by cases z⟩
theorem len_ok {x : Int32} (h : x ≤ 89) : ∃ m, (64 ≤ m ∧ m ≤ 200) ∧ (if 64 ≤ x + 39 then x + 39 else 64) = nI m := by
  by_cases q : 64 ≤ x + 39
  · have h1 : x.toInt ≤ 89 := by
      rw [Int32.le_iff_toInt_le] at h
      exact h
    have h2 := Int32.le_toInt x
    have h3 : (39 : Int32).toInt = 39 := by decide
    have h4 : (x + 39).toInt = x.toInt + 39 := by
      rw [Int32.toInt_add, h3, Int.bmod_def]
      split <;> omega
    have h5 : x + 39 ≤ 128 := by
      rw [Int32.le_iff_toInt_le, h4]
      have : (128 : Int32).toInt = 128 := by decide
      omega
    obtain ⟨m, hm, em⟩ := nI_of2 (x := x + 39) (M := 128) (n := 128) (by decide) (fun z => absurd (Int32.lt_of_lt_of_le z (by decide : (0 : Int32) ≤ 64)) (Int32.not_lt.mpr q)) h5
    rw [if_pos q]
    refine ⟨m, ⟨?_, by omega⟩, em⟩
    rw [em] at q
    exact (nI_leI (a := 64) (by decide) (by omega)).mp q
  · rw [if_neg q]
    exact ⟨64, by decide, rfl⟩
theorem le89 {x : Int32} {p : Nat} (h : ¬ nI p ≤ x) (hp : p ≤ 89) : x ≤ 89 := by
  have h1 := Int32.not_le.mp h
  have h2 : nI p ≤ nI 89 := nI_le hp (by decide)
  rw [Int32.lt_iff_toInt_lt] at h1
  rw [Int32.le_iff_toInt_le] at h2 ⊢
  have : (nI 89).toInt = (89 : Int32).toInt := rfl
  omega
theorem GW.up {f : Nat → Int32} {k : Nat} {x : Int32} (h : GW f) (hx : rg x 9) : GW (upd f k x) := rg.up h hx
theorem RP.w9 {F : Nat → Nat → Int32} {g : Int32} {a e : List Nat} {f : Nat → Int32} (h : RP F g a e) (hf : GW f) : RP (fu F 189 f) g a e := ⟨h.1, hf, h.2.2⟩
theorem ix8 (l : Nat) : (8 : Int32) * nI l = nI (8 * l) := by
  rw [show (8 : Int32) = nI 8 from rfl, pk_mul]
theorem r_102i {σ0 : ae_S} {F0 Fx : Nat → Nat → Int32} {c u g : Int32} {a e : List Nat} {f l : Nat} {x2 x3 x4 : Int32} {x5 : Option Value} (hf : f < 400) (hl : l < 8) (h4 : x4 ≤ 89) {P : ae_S × ae_O → Prop} (hx : ∀ σ F x7, RS false σ0 F0 σ c u g F → RP F g a e → (∀ q, q < 194 → F q = Fx q) → hG ra (d + 4) 102 σ [some (.ref 176), some (.int (nI l)), some (.int x2), some (.int x3), some (.int x4), x5, some (.int (nI f)), x7] [] 179 P) : ∀ (m k : Nat) (σ : ae_S) (F : Nat → Nat → Int32), k + m = 89 → RS false σ0 F0 σ c u g F → RP F g a e → (∀ q, q < 194 → F q = Fx q) → hG ra (d + 4) 102 σ [some (.ref 176), some (.int (nI l)), some (.int x2), some (.int x3), some (.int x4), x5, some (.int (nI f)), some (.int (nI k))] [] 137 P := by
  intro m
  induction m with
  | zero =>
    intro k σ F hk h hP hag
    have hk : k = 89 := by omega
    subst hk
    refine h_st rfl rfl ?_
    refine h_st rfl rfl ?_
    refine h_st rfl rfl ?_
    refine h_pc (if_pos (decide_eq_true (h4))) ?_
    exact hx _ _ _ h hP hag
  | succ m ih =>
    intro k σ F hk h hP hag
    have ih1 := fun σ F => ih (k + 1) σ F (by omega)
    simp only [← nI_1] at ih1
    have e34 : (34 : Int32) + nI k = nI (34 + k) := by rw [show (34 : Int32) = nI 34 from rfl, nI_add]
    refine h_st rfl rfl ?_
    refine h_st rfl rfl ?_
    refine h_st rfl rfl ?_
    refine h_br (fun _ => hx _ _ _ h hP hag) (fun q => ?_)
    refine h_st rfl rfl ?_
    refine h_st rfl rfl ?_
    refine h_st rfl rfl ?_
    refine h_st rfl rfl ?_
    refine h_st rfl rfl ?_
    refine h_st rfl rfl ?_
    refine h_st rfl rfl ?_
    refine h_st rfl rfl ?_
    refine h_st rfl (e_get h.2.1 rfl) ?_
    refine h_st rfl rfl ?_
    refine h_st rfl rfl ?_
    refine h_st rfl rfl ?_
    refine h_st rfl (q_ia h.a191 (ix8 l) (by omega) (by decide)) ?_
    refine h_st rfl rfl ?_
    refine h_st rfl rfl ?_
    refine h_st rfl rfl ?_
    refine h_ci4 rfl (Nat.le_of_ble_eq_true rfl) rfl rfl (r_109 _ _ _ _) (fun σ' y9 hq => ?_)
    replace hq := hq.symm
    subst hq
    refine h_cv4 rfl (Nat.le_of_ble_eq_true rfl) (e_rcv h.2.1) rfl (r_105 h hP.2.2.1 rfl hf e34 (by omega)) (fun σ2 hq => ?_)
    obtain ⟨F2, h2, hB2, ag2⟩ := hq
    refine h_st rfl rfl ?_
    refine h_st rfl rfl ?_
    exact ih1 _ _ h2 (hP.bg hB2 ag2) (fun q hq => (ag2 q (by omega)).trans (hag q hq))
theorem r_102n {σ0 : ae_S} {F0 Fx : Nat → Nat → Int32} {c u g : Int32} {a e : List Nat} {l : Nat} {x2 x3 x4 : Int32} (hl : l < 8) (h4 : x4 ≤ 89) (he : e.length ≤ 90) {P : ae_S × ae_O → Prop} (hx : ∀ σ F x6 x7, RS false σ0 F0 σ c u g F → RP F g a e → (∀ q, q < 194 → F q = Fx q) → hG ra (d + 4) 102 σ [some (.ref 176), some (.int (nI l)), some (.int x2), some (.int x3), some (.int x4), some (.int (nI 2)), x6, x7] [] 216 P) : ∀ (m j : Nat) (σ : ae_S) (F : Nat → Nat → Int32) (x6 x7 : Option Value), j + m = 2 → RS false σ0 F0 σ c u g F → RP F g a e → (∀ q, q < 194 → F q = Fx q) → hG ra (d + 4) 102 σ [some (.ref 176), some (.int (nI l)), some (.int x2), some (.int x3), some (.int x4), some (.int (nI j)), x6, x7] [] 85 P := by
  obtain ⟨m9, hm9, em9⟩ := len_ok h4
  intro m
  induction m with
  | zero =>
    intro j σ F x6 x7 hj h hP hag
    have hj : j = 2 := by omega
    subst hj
    refine h_st rfl rfl ?_
    refine h_st rfl rfl ?_
    refine h_st rfl rfl ?_
    refine h_pc (if_pos (decide_eq_true (nI_le (Nat.le_refl 2) (by decide)))) ?_
    exact hx _ _ _ _ h hP hag
  | succ m ih =>
    intro j σ F x6 x7 hj h hP hag
    have ih1 := fun σ F x6 x7 => ih (j + 1) σ F x6 x7 (by omega)
    simp only [← nI_1] at ih1
    obtain ⟨so, hso, eso⟩ := hP.1.1 l hl
    refine h_st rfl rfl ?_
    refine h_st rfl rfl ?_
    refine h_st rfl rfl ?_
    refine h_pc (if_neg (fun z9 => (nI_ge (show j < 2 by omega) (by decide)) (of_decide_eq_true z9))) ?_
    refine h_st rfl rfl ?_
    refine h_st rfl rfl ?_
    refine h_st rfl rfl ?_
    refine h_st rfl (e_get h.2.1 rfl) ?_
    refine h_st rfl rfl ?_
    refine h_st rfl (q_iaE h.a180 (rfl) (hl) (by decide) (eso)) ?_
    refine h_st rfl rfl ?_
    refine h_st rfl rfl ?_
    refine h_st rfl rfl ?_
    refine h_st rfl (e_get h.2.1 rfl) ?_
    refine h_st rfl rfl ?_
    refine h_st rfl rfl ?_
    refine h_st rfl rfl ?_
    refine h_st rfl (q_ia h.a192 (ix8 l) (by omega) (by decide)) ?_
    refine h_st rfl rfl ?_
    refine h_st rfl rfl ?_
    refine h_st rfl rfl ?_
    refine h_st rfl rfl ?_
    refine h_st rfl rfl ?_
    refine h_st rfl rfl ?_
    refine h_st rfl rfl ?_
    refine h_st rfl rfl ?_
    refine h_br (fun q1 => ?_) (fun q1 => ?_)
    · refine h_st rfl rfl ?_
      refine h_ci8 rfl (Nat.le_of_ble_eq_true rfl) (e_rcv h.2.1) rfl (r_103 h hP (by omega) em9 hm9) (fun σ1 v1 hq => ?_)
      obtain ⟨f, F1, rfl, hf, h1, hP1, ag1⟩ := hq
      refine h_st rfl rfl ?_
      refine h_st rfl rfl ?_
      refine h_st rfl rfl ?_
      refine r_102i (Fx := Fx) hf hl h4 (fun σ F x7 h hP hag => ?_) 89 0 _ _ rfl h1 hP1 (fun q hq => (ag1 q (by omega)).trans (hag q hq))
      obtain ⟨so2, hso2, eso2⟩ := hP.1.1 l hl
      have e12 : (12 : Int32) * nI j + nI so2 = nI (12 * j + so2) := by rw [show (12 : Int32) = nI 12 from rfl, pk_mul, nI_add]
      refine h_st rfl rfl ?_
      refine h_st rfl rfl ?_
      refine h_st rfl rfl ?_
      refine h_st rfl (e_get h.2.1 rfl) ?_
      refine h_st rfl rfl ?_
      refine h_st rfl (q_ia h.a187 (rfl) (hl) (by decide)) ?_
      refine h_cv3 rfl (Nat.le_of_ble_eq_true rfl) (e_rcv h.2.1) rfl (r_110 h hP rfl hf List.mem_cons_self _) (fun σ3 hq => ?_)
      obtain ⟨F3, h3, hP3, ag3⟩ := hq
      replace h := h3
      refine h_st rfl rfl ?_
      refine h_st rfl rfl ?_
      refine h_st rfl rfl ?_
      refine h_st rfl rfl ?_
      refine h_st rfl rfl ?_
      refine h_st rfl (e_get h.2.1 rfl) ?_
      refine h_st rfl rfl ?_
      refine h_st rfl (q_iaE h.a180 (rfl) (hl) (by decide) ((congrFun (ag3 180 (by decide)) l).trans eso2)) ?_
      refine h_st rfl rfl ?_
      refine h_st rfl rfl ?_
      refine h_st rfl rfl ?_
      refine h_cv4 rfl (Nat.le_of_ble_eq_true rfl) (e_rcv h.2.1) rfl (r_112 h rfl hf hP3 e12 (by omega) _) (fun σ4 hq => ?_)
      obtain ⟨F4, h4, hP4, ag4⟩ := hq
      refine h_st rfl rfl ?_
      refine h_st rfl rfl ?_
      exact ih1 _ _ _ _ h4 hP4 (fun q hq => (ag4 q (by omega)).trans ((ag3 q (by omega)).trans (hag q hq)))
    · refine h_st rfl rfl ?_
      refine h_st rfl rfl ?_
      refine h_ci8 rfl (Nat.le_of_ble_eq_true rfl) (e_rcv h.2.1) rfl (r_103 h hP (by omega) em9 hm9) (fun σ1 v1 hq => ?_)
      obtain ⟨f, F1, rfl, hf, h1, hP1, ag1⟩ := hq
      refine h_st rfl rfl ?_
      refine h_st rfl rfl ?_
      refine h_st rfl rfl ?_
      refine r_102i (Fx := Fx) hf hl h4 (fun σ F x7 h hP hag => ?_) 89 0 _ _ rfl h1 hP1 (fun q hq => (ag1 q (by omega)).trans (hag q hq))
      obtain ⟨so2, hso2, eso2⟩ := hP.1.1 l hl
      have e12 : (12 : Int32) * nI j + nI so2 = nI (12 * j + so2) := by rw [show (12 : Int32) = nI 12 from rfl, pk_mul, nI_add]
      refine h_st rfl rfl ?_
      refine h_st rfl rfl ?_
      refine h_st rfl rfl ?_
      refine h_st rfl (e_get h.2.1 rfl) ?_
      refine h_st rfl rfl ?_
      refine h_st rfl (q_ia h.a187 (rfl) (hl) (by decide)) ?_
      refine h_cv3 rfl (Nat.le_of_ble_eq_true rfl) (e_rcv h.2.1) rfl (r_110 h hP rfl hf List.mem_cons_self _) (fun σ3 hq => ?_)
      obtain ⟨F3, h3, hP3, ag3⟩ := hq
      replace h := h3
      refine h_st rfl rfl ?_
      refine h_st rfl rfl ?_
      refine h_st rfl rfl ?_
      refine h_st rfl rfl ?_
      refine h_st rfl rfl ?_
      refine h_st rfl (e_get h.2.1 rfl) ?_
      refine h_st rfl rfl ?_
      refine h_st rfl (q_iaE h.a180 (rfl) (hl) (by decide) ((congrFun (ag3 180 (by decide)) l).trans eso2)) ?_
      refine h_st rfl rfl ?_
      refine h_st rfl rfl ?_
      refine h_st rfl rfl ?_
      refine h_cv4 rfl (Nat.le_of_ble_eq_true rfl) (e_rcv h.2.1) rfl (r_112 h rfl hf hP3 e12 (by omega) _) (fun σ4 hq => ?_)
      obtain ⟨F4, h4, hP4, ag4⟩ := hq
      refine h_st rfl rfl ?_
      refine h_st rfl rfl ?_
      exact ih1 _ _ _ _ h4 hP4 (fun q hq => (ag4 q (by omega)).trans ((ag3 q (by omega)).trans (hag q hq)))
theorem r_102s {σ0 : ae_S} {F0 Fx : Nat → Nat → Int32} {c u g : Int32} {a e : List Nat} {l wn : Nat} {x2 x3 x4 x6 x7 : Option Value} (hl : l < 8) (hw : wn ≤ 7) {P : ae_S × ae_O → Prop} (hx : ∀ σ F, RS false σ0 F0 σ c u g F → RP F g a e → (∀ q, q < 190 → F q = Fx q) → P (σ, .inl none)) (h9 : Fx 189 l = nI wn) : ∀ (m k : Nat) (σ : ae_S) (F : Nat → Nat → Int32), k + m = 8 * l + wn → 8 * l ≤ k → RS false σ0 F0 σ c u g F → RP F g a e → (∀ q, q < 190 → F q = Fx q) → hG ra (d + 4) 102 σ [some (.ref 176), some (.int (nI l)), x2, x3, x4, some (.int (nI k)), x6, x7] [] 267 P := by
  have e8 : ∀ F : Nat → Nat → Int32, (∀ q, q < 190 → F q = Fx q) → F 189 l = nI wn := fun F hag => (congrFun (hag 189 (by decide)) l).trans h9
  have ea : (8 : Int32) * nI l + nI wn = nI (8 * l + wn) := by rw [ix8, nI_add]
  intro m
  induction m with
  | zero =>
    intro k σ F hk hk8 h hP hag
    have hk : k = 8 * l + wn := by omega
    subst hk
    refine h_st rfl rfl ?_
    refine h_st rfl rfl ?_
    refine h_st rfl rfl ?_
    refine h_st rfl rfl ?_
    refine h_st rfl rfl ?_
    refine h_st rfl (e_get h.2.1 rfl) ?_
    refine h_st rfl rfl ?_
    refine h_st rfl (q_iaE h.a189 (rfl) (hl) (by decide) (e8 F hag)) ?_
    refine h_st rfl rfl ?_
    refine h_st rfl rfl ?_
    refine h_pc (if_pos (decide_eq_true (show (8 : Int32) * nI l + nI wn ≤ nI (8 * l + wn) from by rw [ea]; exact nI_le (Nat.le_refl _) (by omega)))) ?_
    exact h_rv rfl (hx _ _ h hP hag)
  | succ m ih =>
    intro k σ F hk hk8 h hP hag
    have ih1 := fun σ F => ih (k + 1) σ F (by omega) (by omega)
    simp only [← nI_1] at ih1
    refine h_st rfl rfl ?_
    refine h_st rfl rfl ?_
    refine h_st rfl rfl ?_
    refine h_st rfl rfl ?_
    refine h_st rfl rfl ?_
    refine h_st rfl (e_get h.2.1 rfl) ?_
    refine h_st rfl rfl ?_
    refine h_st rfl (q_iaE h.a189 (rfl) (hl) (by decide) (e8 F hag)) ?_
    refine h_st rfl rfl ?_
    refine h_st rfl rfl ?_
    refine h_pc (if_neg (fun z9 => (show ¬ (8 : Int32) * nI l + nI wn ≤ nI k from by rw [ea]; exact nI_ge (show k < 8 * l + wn by omega) (by omega)) (of_decide_eq_true z9))) ?_
    refine h_st rfl rfl ?_
    refine h_st rfl (e_get h.2.1 rfl) ?_
    refine h_st rfl rfl ?_
    refine h_st rfl rfl ?_
    refine h_st rfl (e_get h.2.1 rfl) ?_
    refine h_st rfl rfl ?_
    refine h_st rfl rfl ?_
    refine h_st rfl rfl ?_
    refine h_st rfl (q_ia h.a190 (nI_1 k) (by omega) (by decide)) ?_
    refine r_ias rfl h m190 (fun z => by cases z) (by decide) (rfl) (by omega) (rfl) (fun σ2 h2 => ?_)
    replace h := h2
    clear h2
    refine h_st rfl rfl ?_
    refine h_st rfl (e_get h.2.1 rfl) ?_
    refine h_st rfl rfl ?_
    refine h_st rfl rfl ?_
    refine h_st rfl (e_get h.2.1 rfl) ?_
    refine h_st rfl rfl ?_
    refine h_st rfl rfl ?_
    refine h_st rfl rfl ?_
    refine h_st rfl (q_ia h.a191 (nI_1 k) (by omega) (by decide)) ?_
    refine r_ias rfl h m191 (fun z => by cases z) (by decide) (rfl) (by omega) (rfl) (fun σ2 h2 => ?_)
    replace h := h2
    clear h2
    refine h_st rfl rfl ?_
    refine h_st rfl (e_get h.2.1 rfl) ?_
    refine h_st rfl rfl ?_
    refine h_st rfl rfl ?_
    refine h_st rfl (e_get h.2.1 rfl) ?_
    refine h_st rfl rfl ?_
    refine h_st rfl rfl ?_
    refine h_st rfl rfl ?_
    refine h_st rfl (q_ia h.a192 (nI_1 k) (by omega) (by decide)) ?_
    refine r_ias rfl h m192 (fun z => by cases z) (by decide) (rfl) (by omega) (rfl) (fun σ2 h2 => ?_)
    replace h := h2
    clear h2
    refine h_st rfl rfl ?_
    refine h_st rfl (e_get h.2.1 rfl) ?_
    refine h_st rfl rfl ?_
    refine h_st rfl rfl ?_
    refine h_st rfl (e_get h.2.1 rfl) ?_
    refine h_st rfl rfl ?_
    refine h_st rfl rfl ?_
    refine h_st rfl rfl ?_
    refine h_st rfl (q_ia h.a193 (nI_1 k) (by omega) (by decide)) ?_
    refine r_ias rfl h m193 (fun z => by cases z) (by decide) (rfl) (by omega) (rfl) (fun σ2 h2 => ?_)
    replace h := h2
    clear h2
    refine h_st rfl rfl ?_
    refine h_st rfl rfl ?_
    exact ih1 _ _ h ((((hP.fo (by decide)).fo (by decide)).fo (by decide)).fo (by decide)) (fun q hq => (fu_n (by omega)).trans ((fu_n (by omega)).trans ((fu_n (by omega)).trans ((fu_n (by omega)).trans (hag q hq)))))
theorem r_102b {σ0 : ae_S} {F0 F : Nat → Nat → Int32} {c u g : Int32} (h : RS false σ0 F0 σ c u g F) {a e : List Nat} (hP : RP F g a e) {l wn : Nat} {x2 x3 x4 : Int32} {x5 x6 x7 : Option Value} (hl : l < 8) (h4 : x4 ≤ 89) (he : e.length ≤ 90) (hi : F 177 l ≠ 0) (hw : wn ≤ 7) (h9 : F 189 l = nI (wn + 1)) (hop : ¬ u < F 185 l) : hG ra (d + 4) 102 σ [some (.ref 176), some (.int (nI l)), some (.int x2), some (.int x3), some (.int x4), x5, x6, x7] [] 82 (pV (fun σ' => ∃ F', RS false σ0 F0 σ' c u g F' ∧ RP F' g a e ∧ ((F' = F ∧ (F 177 l = 0 ∨ F 189 l = 0 ∨ u < F 185 l)) ∨ (F 177 l ≠ 0 ∧ ¬ u < F 185 l ∧ (∃ wn, wn ≤ 7 ∧ F 189 l = nI (wn + 1) ∧ F' 189 = upd (F 189) l (nI wn)) ∧ F' 185 = upd (F 185) l (u + F 181 l) ∧ (∀ q, q < 185 → F' q = F q) ∧ F' 186 = F 186)))) := by
  refine h_st rfl rfl ?_
  refine h_st rfl rfl ?_
  refine r_102n (Fx := F) hl h4 he (fun σ9 F9 x6 x7 h hP hag => ?_) 2 0 _ _ _ _ rfl h hP (fun _ _ => rfl)
  refine h_st rfl rfl ?_
  refine h_st rfl (e_get h.2.1 rfl) ?_
  refine h_st rfl rfl ?_
  refine h_st rfl rfl ?_
  refine h_st rfl (e_get h.2.1 rfl) ?_
  refine h_st rfl rfl ?_
  refine h_st rfl (q_ia h.a187 (rfl) (hl) (by decide)) ?_
  refine h_st rfl rfl ?_
  refine h_st rfl (e_dv (by decide)) ?_
  refine h_st rfl rfl ?_
  refine h_st rfl rfl ?_
  refine r_ias rfl h m187 (fun z => by cases z) (by decide) (rfl) (hl) (rfl) (fun σ2 h2 => ?_)
  replace h := h2
  clear h2
  replace hP := RP.fo (p := 187) (f := upd (F9 187) l (F9 187 l - F9 187 l / 255 * 255 + 1)) hP (by decide)
  refine h_st rfl rfl ?_
  refine h_st rfl (e_get h.2.1 rfl) ?_
  refine h_st rfl rfl ?_
  refine h_st rfl rfl ?_
  refine h_st rfl (e_get h.2.1 rfl) ?_
  refine h_st rfl rfl ?_
  refine h_st rfl (e_get h.2.1 rfl) ?_
  refine h_st rfl rfl ?_
  refine h_st rfl (q_ia h.a181 (rfl) (hl) (by decide)) ?_
  refine h_st rfl rfl ?_
  refine r_ias rfl h m185 (fun z => by cases z) (by decide) (rfl) (hl) (rfl) (fun σ2 h2 => ?_)
  replace h := h2
  clear h2
  replace hP := RP.fo (p := 185) (f := upd (F9 185) l (u + F9 181 l)) hP (by decide)
  refine h_st rfl rfl ?_
  refine h_st rfl (e_get h.2.1 rfl) ?_
  refine h_st rfl rfl ?_
  refine h_st rfl rfl ?_
  refine h_st rfl (q_ia h.a189 (rfl) (hl) (by decide)) ?_
  refine h_st rfl rfl ?_
  refine h_st rfl rfl ?_
  refine r_ias rfl h m189 (fun z => by cases z) (by decide) (rfl) (hl) (show F9 189 l - 1 = nI wn from by rw [congrFun (hag 189 (by decide)) l, h9]; exact nI_pred wn) (fun σ2 h2 => ?_)
  replace h := h2
  clear h2
  replace hP := hP.w9 (hP.2.1.up (k := l) (x := nI wn) ⟨wn, by omega, rfl⟩)
  refine h_st rfl rfl ?_
  refine h_st rfl rfl ?_
  refine h_st rfl rfl ?_
  refine h_st rfl rfl ?_
  simp only [ix8]
  refine r_102s (wn := wn) hl hw (fun σ8 F8 h8 hP8 ag8 => ?_) pk_us wn (8 * l) _ _ rfl (Nat.le_refl _) h hP (fun _ _ => rfl)
  refine ⟨_, rfl, F8, h8, hP8, Or.inr ⟨hi, hop, ⟨wn, hw, h9, ?_⟩, ?_, fun q hq => ?_, ?_⟩⟩
  · rw [ag8 189 (by decide), ← hag 189 (by decide)]
    rfl
  · rw [ag8 185 (by decide), ← hag 185 (by decide), ← hag 181 (by decide)]
    rfl
  · rw [ag8 q (by omega), ← hag q (by omega)]
    exact (fu_n (by omega)).trans ((fu_n (by omega)).trans (fu_n (by omega)))
  · rw [ag8 186 (by decide), ← hag 186 (by decide)]
    rfl
theorem le89p {z : Prop} [Decidable z] {k : Nat} (_ : True) (hk : k ≤ 128) : nI (if z then k - 39 else (k - 39) / 8 * 8) ≤ 89 := by
  apply nI_le (b := 89)
  · split <;> omega
  · decide
theorem le89q {z : Prop} [Decidable z] {k : Nat} {x : Int32} (h : ¬ nI (if z then k - 39 else (k - 39) / 8 * 8) ≤ x) (hk : k ≤ 128) : x ≤ 89 := le89 h (by split <;> omega)
theorem r_102t {σ0 : ae_S} {F0 F : Nat → Nat → Int32} {c u g : Int32} (h : RS false σ0 F0 σ c u g F) {a e : List Nat} (hP : RP F g a e) (he : e.length ≤ 90) {l : Nat} {x : Int32} (el : x = nI l) (hl : l < 8) : hE ra (d + 5) 102 [.ref 176, .int x] σ (pV (fun σ' => ∃ F', RS false σ0 F0 σ' c u g F' ∧ RP F' g a e ∧ ((F' = F ∧ (F 177 l = 0 ∨ F 189 l = 0 ∨ u < F 185 l)) ∨ (F 177 l ≠ 0 ∧ ¬ u < F 185 l ∧ (∃ wn, wn ≤ 7 ∧ F 189 l = nI (wn + 1) ∧ F' 189 = upd (F 189) l (nI wn)) ∧ F' 185 = upd (F 185) l (u + F 181 l) ∧ (∀ q, q < 185 → F' q = F q) ∧ F' 186 = F 186)))) := by
  subst el
  obtain ⟨wm, hwm, ewm⟩ := hP.2.1 l hl
  refine h_in rfl rfl (Nat.le_of_ble_eq_true rfl) ?_
  refine h_st rfl rfl ?_
  refine h_st rfl (e_get h.2.1 rfl) ?_
  refine h_st rfl rfl ?_
  refine h_st rfl (q_ba h.a177 (rfl) (hl) (by decide)) ?_
  refine h_st rfl rfl ?_
  refine h_br (fun q1 => ?_) (fun q1 => ?_)
  · exact h_rv rfl (⟨_, rfl, F, h, hP, Or.inl ⟨rfl, Or.inl q1⟩⟩)
  · refine h_st rfl rfl ?_
    refine h_st rfl (e_get h.2.1 rfl) ?_
    refine h_st rfl rfl ?_
    refine h_st rfl (q_ia h.a189 (rfl) (hl) (by decide)) ?_
    refine h_st rfl rfl ?_
    refine h_br (fun q2 => ?_) (fun q2 => ?_)
    · exact h_rv rfl (⟨_, rfl, F, h, hP, Or.inl ⟨rfl, Or.inr (Or.inl q2)⟩⟩)
    · refine h_st rfl rfl ?_
      refine h_st rfl (e_get h.2.1 rfl) ?_
      refine h_st rfl rfl ?_
      refine h_st rfl (e_get h.2.1 rfl) ?_
      refine h_st rfl rfl ?_
      refine h_st rfl (q_ia h.a185 (rfl) (hl) (by decide)) ?_
      refine h_st rfl rfl ?_
      refine h_br (fun q3 => ?_) (fun q3 => ?_)
      · obtain ⟨k, hk1, hk2, ek⟩ := hP.1.2 l hl q1
        obtain ⟨wn, rfl⟩ : ∃ wn, wm = wn + 1 := ⟨wm - 1, by cases wm with | zero => exact absurd ewm q2 | succ m => rfl⟩
        refine h_st rfl rfl ?_
        refine h_st rfl (e_get h.2.1 rfl) ?_
        refine h_st rfl rfl ?_
        refine h_st rfl rfl ?_
        refine h_st rfl rfl ?_
        refine h_st rfl (q_ia h.a190 (ix8 l) (by omega) (by decide)) ?_
        refine h_st rfl rfl ?_
        refine h_st rfl rfl ?_
        refine h_st rfl (e_get h.2.1 rfl) ?_
        refine h_st rfl rfl ?_
        refine h_st rfl rfl ?_
        refine h_st rfl rfl ?_
        refine h_st rfl (q_ia h.a193 (ix8 l) (by omega) (by decide)) ?_
        refine h_st rfl rfl ?_
        refine h_st rfl rfl ?_
        refine h_st rfl rfl ?_
        refine h_st rfl rfl ?_
        refine h_st rfl rfl ?_
        refine h_st rfl rfl ?_
        refine h_st rfl rfl ?_
        refine h_st rfl rfl ?_
        refine h_ci2 rfl (Nat.le_of_ble_eq_true rfl) (e_rcv h.2.1) rfl (r_100 h rfl hl ek ⟨hk1, hk2⟩) (fun σ' y9 hq => ?_)
        obtain ⟨hss, rfl⟩ := hq
        replace hss := hss.symm
        subst hss
        refine h_st rfl rfl ?_
        refine h_br (fun q4 => ?_) (fun q4 => ?_)
        · refine h_st rfl rfl ?_
          refine h_st rfl rfl ?_
          refine h_ci2 rfl (Nat.le_of_ble_eq_true rfl) (e_rcv h.2.1) rfl (r_100 h rfl hl ek ⟨hk1, hk2⟩) (fun σ' y8 hq => ?_)
          obtain ⟨hss, rfl⟩ := hq
          replace hss := hss.symm
          subst hss
          refine h_st rfl rfl ?_
          exact r_102b h hP hl (le89p trivial hk2) he q1 (by omega) ewm (Int32.not_lt.mpr q3)
        · refine h_st rfl rfl ?_
          refine h_st rfl rfl ?_
          refine h_st rfl rfl ?_
          refine h_st rfl rfl ?_
          refine h_st rfl rfl ?_
          refine h_st rfl rfl ?_
          refine h_st rfl rfl ?_
          exact r_102b h hP hl (le89q q4 hk2) he q1 (by omega) ewm (Int32.not_lt.mpr q3)
      · exact h_rv rfl (⟨_, rfl, F, h, hP, Or.inl ⟨rfl, Or.inr (Or.inr (Int32.not_le.mp q3))⟩⟩)
end RF6
