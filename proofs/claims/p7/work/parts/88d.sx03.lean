section SX3
/-- a frame: its size and its bytes -/
abbrev AF : Type := Nat × (Nat → Int32)
variable {ra : ae_R} {d : Nat} {σ σ0 σ1 σ2 : ae_S} {w w0 w1 w2 : Nat → Nat} {C C' : Nat → Prop} {p pb q c : Nat} {x : AF}
/-- each cell has a code that says where it belongs: only cells whose code is in C move -/
def Sa (C : Nat → Prop) (σ : ae_S) (w : Nat → Nat) (σ' : ae_S) (w' : Nat → Nat) : Prop := σ.2.length ≤ σ'.2.length ∧ ∀ q, q < σ.2.length → ¬ C (w q) → σ'.2[q]? = σ.2[q]? ∧ w' q = w q
theorem Sa.refl : Sa C σ w σ w := ⟨Nat.le_refl _, fun _ _ _ => ⟨rfl, rfl⟩⟩
theorem Sa.mono (h : Sa C σ w σ1 w1) (hc : ∀ c, C c → C' c) : Sa C' σ w σ1 w1 := ⟨h.1, fun q hq hn => h.2 q hq (fun z => hn (hc _ z))⟩
theorem Sa.trans (h : Sa C σ w σ1 w1) (h2 : Sa C σ1 w1 σ2 w2) : Sa C σ w σ2 w2 := ⟨Nat.le_trans h.1 h2.1, fun q hq hn => by
  obtain ⟨e1, e2⟩ := h.2 q hq hn
  obtain ⟨e3, e4⟩ := h2.2 q (Nat.lt_of_lt_of_le hq h.1) (by rw [e2]; exact hn)
  exact ⟨e3.trans e1, e4.trans e2⟩⟩
theorem Sa.op (h : Op p pb σ σ1) : Sa (fun c => c = w p ∨ c = w pb) σ w σ1 w := ⟨Nat.le_of_eq h.2.1.symm, fun q _ hn => ⟨h.2.2 q (fun e => hn (Or.inl (by rw [e]))) (fun e => hn (Or.inr (by rw [e]))), rfl⟩⟩
theorem Sa.set {y : ae_C} : Sa (fun c => c = w p) σ w (σ.1, σ.2.set p y) w := ⟨by simp, fun q _ hn => ⟨st_ne (fun e => hn (by rw [e])), rfl⟩⟩
theorem ltc {y : ae_C} (h : σ.2[q]? = some y) : q < σ.2.length := (List.getElem?_eq_some_iff.mp h).1
theorem Sa.at {y : ae_C} (h : Sa C σ w σ1 w1) (hq : σ.2[q]? = some y) (hc : ¬ C (w q)) : σ1.2[q]? = some y := (h.2 q (ltc hq) hc).1.trans hq
theorem Sa.wt {y : ae_C} (h : Sa C σ w σ1 w1) (hq : σ.2[q]? = some y) (hc : ¬ C (w q)) : w1 q = w q := (h.2 q (ltc hq) hc).2
/-- a frame with its code -/
def Fw (σ : ae_S) (w : Nat → Nat) (p c : Nat) (x : AF) : Prop := w p = c ∧ ∃ pb, w pb = c + 1 ∧ FX σ p pb x.1 x.2
theorem FX.sa {n : Nat} {f : Nat → Int32} (h : FX σ p pb n f) (hs : Sa C σ w σ1 w1) (h1 : ¬ C (w p)) (h2 : ¬ C (w pb)) : FX σ1 p pb n f := by
  obtain ⟨g1, g2, g, g3, g4⟩ := h
  exact ⟨hs.at g1 h1, g2, g, hs.at g3 h2, g4⟩
theorem Fw.sa (h : Fw σ w p c x) (hs : Sa C σ w σ1 w1) (h1 : ¬ C c) (h2 : ¬ C (c + 1)) : Fw σ1 w1 p c x := by
  obtain ⟨e1, pb, e2, hF⟩ := h
  have hF' := hF
  obtain ⟨g1, g2, g, g3, g4⟩ := hF'
  exact ⟨(hs.wt g1 (by rw [e1]; exact h1)).trans e1, pb, (hs.wt g3 (by rw [e2]; exact h2)).trans e2, hF.sa hs (by rw [e1]; exact h1) (by rw [e2]; exact h2)⟩
def ix (n a j : Nat) : Nat := if a + j < n then a + j else a + j - n
theorem ix_lt {n a j : Nat} (ha : a < n ∨ a = 0) (hj : j < n) : ix n a j < n := by
  unfold ix
  split <;> omega
theorem ix_inj {n a i j : Nat} (ha : a < n ∨ a = 0) (hi : i < n) (hj : j < n) (h : ix n a i = ix n a j) : i = j := by
  unfold ix at h
  split at h <;> split at h <;> omega
theorem ix_s {n a j : Nat} (h : a < n) (hj : j + 1 < n) : ix n (if a + 1 < n then a + 1 else 0) j = ix n a (j + 1) := by
  unfold ix
  by_cases h1 : a + 1 < n
  · rw [if_pos h1]
    by_cases h2 : a + 1 + j < n
    · rw [if_pos h2, if_pos (by omega)]
      omega
    · rw [if_neg h2, if_neg (by omega)]
      omega
  · rw [if_neg h1, if_pos (by omega), if_neg (by omega)]
    omega
/-- a row: at R, its slots at S, with the codes cR, cR + 1, the slots' frames from c0 on -/
def RW (σ : ae_S) (w : Nat → Nat) (R S cR n c0 : Nat) (l : List AF) : Prop := (w R = cR ∧ w S = cR + 1 ∧ cR + 1 < c0 ∧ n ≤ 16) ∧ ∃ a f, σ.2[R]? = some (.inr (6, [.ref S, .int (nI a), .int (nI l.length)])) ∧ σ.2[S]? = some (.inl (6, rfs n f)) ∧ (l.length ≤ n ∧ (a < n ∨ a = 0)) ∧ (∀ j q, j < n → f j = some q → ∃ x, Fw σ w q (c0 + 2 * j) x) ∧ ∀ j x, l[j]? = some x → ∃ q, f (ix n a j) = some q ∧ Fw σ w q (c0 + 2 * ix n a j) x
def RC (cR c0 n : Nat) : Nat → Prop := fun c => c = cR ∨ c = cR + 1 ∨ (c0 ≤ c ∧ c < c0 + 2 * n)
variable {R S cR n c0 a j r sp sb : Nat} {f : Nat → Option Nat} {l : List AF}
theorem RW.sa (h : RW σ w R S cR n c0 l) (hs : Sa C σ w σ1 w1) (hc : ∀ c, RC cR c0 n c → ¬ C c) : RW σ1 w1 R S cR n c0 l := by
  obtain ⟨⟨e1, e2, e3, e4⟩, a, f, h1, h2, h3, h4, h5⟩ := h
  have c1 : ¬ C (w R) := hc _ (by unfold RC; omega)
  have c2 : ¬ C (w S) := hc _ (by unfold RC; omega)
  have c3 : ∀ j, j < n → ¬ C (c0 + 2 * j) ∧ ¬ C (c0 + 2 * j + 1) := fun j hj => ⟨hc _ (by unfold RC; omega), hc _ (by unfold RC; omega)⟩
  refine ⟨⟨(hs.wt h1 c1).trans e1, (hs.wt h2 c2).trans e2, e3, e4⟩, a, f, hs.at h1 c1, hs.at h2 c2, h3, fun j q hj hq => ?_, fun j x hx => ?_⟩
  · obtain ⟨x, hx⟩ := h4 j q hj hq
    exact ⟨x, hx.sa hs (c3 j hj).1 (c3 j hj).2⟩
  · obtain ⟨q, h6, h7⟩ := h5 j x hx
    have hj : j < n := Nat.lt_of_lt_of_le (List.getElem?_eq_some_iff.mp hx).1 h3.1
    have := c3 _ (ix_lt h3.2 hj)
    exact ⟨q, h6, h7.sa hs this.1 this.2⟩
theorem RW.len (h : RW σ w R S cR n c0 l) : l.length ≤ n ∧ n ≤ 16 := by
  obtain ⟨⟨e1, e2, e3, e4⟩, a, f, h1, h2, h3, h4, h5⟩ := h
  exact ⟨h3.1, e4⟩
theorem RW.rcv {as : List Value} (h : RW σ w R S cR n c0 l) : ae_rcv σ (some 6) (.ref R :: as) = true := by
  obtain ⟨_, a, f, h1, _⟩ := h
  exact e_rcv h1
theorem c_8x (h : RW σ w R S cR n c0 l) : hE ra (d + 1) 8 [.ref R] σ (pI (fun σ' y => σ' = σ ∧ ((y = 1 ∧ l = []) ∨ (y = 0 ∧ ¬ l = [])))) := by
  obtain ⟨⟨e1, e2, e3, e4⟩, a, f, h1, h2, h3, h4, h5⟩ := h
  refine h_in rfl rfl (Nat.le_of_ble_eq_true rfl) ?_
  refine h_st rfl rfl ?_
  refine h_st rfl (e_get h1 rfl) ?_
  refine h_st rfl rfl ?_
  refine h_br (fun q => ?_) (fun q => ?_)
  · refine h_st rfl rfl ?_
    exact h_rt rfl rfl (⟨_, _, rfl, rfl, Or.inr ⟨rfl, fun z => q (by rw [z]; rfl)⟩⟩)
  · refine h_st rfl rfl ?_
    refine h_st rfl rfl ?_
    exact h_rt rfl rfl (⟨_, _, rfl, rfl, Or.inl ⟨rfl, List.eq_nil_of_length_eq_zero (Decidable.of_not_not (fun z => nI_ne0 (by omega) (by omega) (Decidable.of_not_not q)))⟩⟩)
theorem c_29cx (hw : w R = cR ∧ w S = cR + 1 ∧ cR + 1 < c0 ∧ n ≤ 16) (h1 : σ.2[R]? = some (.inr (6, [.ref S, .int (nI a), .int (nI l.length)]))) (hs : σ.2[S]? = some (.inl (6, rfs n f))) (hab : l.length < n ∧ (a < n ∨ a = 0)) (hall : ∀ j q, j < n → f j = some q → ∃ x, Fw σ w q (c0 + 2 * j) x) (hl : ∀ j x, l[j]? = some x → ∃ q, f (ix n a j) = some q ∧ Fw σ w q (c0 + 2 * ix n a j) x) (hj : j = ix n a l.length) (hr : f (nI j).toNatClampNeg = some r) (hF : FX σ sp sb x.1 x.2) (h0 : Sa (RC cR c0 n) σ0 w0 σ w) : hG ra (d + 1) 29 σ [some (.ref R), some (.ref sp), some (.int (nI j))] [] 81 (pI (fun σ' y => y = 1 ∧ ∃ w', RW σ' w' R S cR n c0 (l ++ [x]) ∧ Sa (RC cR c0 n) σ0 w0 σ' w')) := by
  have hjn : j < n := by rw [hj]; exact ix_lt hab.2 hab.1
  have hin : ¬ (nI j < 0 ∨ n ≤ (nI j).toNatClampNeg) := nI_in hjn (by omega)
  have ej : (nI j).toNatClampNeg = j := nI_clamp (by omega)
  obtain ⟨y, wr, rb, wb, hG⟩ := hall j r hjn (by rw [← ej]; exact hr)
  refine h_st rfl rfl ?_
  refine h_st rfl (e_get h1 rfl) ?_
  refine h_st rfl rfl ?_
  refine h_st rfl ((e_aa hs (by decide) hin).trans (by rw [hr])) ?_
  refine h_st rfl rfl ?_
  refine h_cv2 rfl (Nat.le_of_ble_eq_true rfl) (e_rcv (hG.1)) rfl (c_30x hF hG) (fun σ2 hq2 => ?_)
  obtain ⟨f2, o2⟩ := hq2
  have s2 := Sa.op (w := w) o2
  rw [wr, wb] at s2
  have h1' := s2.at h1 (by omega)
  refine h_st rfl rfl ?_
  refine h_st rfl rfl ?_
  refine h_st rfl (e_get h1' rfl) ?_
  refine h_st rfl rfl ?_
  refine h_st rfl rfl ?_
  refine h_st rfl (e_put h1' rfl (Nat.le_of_ble_eq_true rfl)) ?_
  have s3 := Sa.set (σ := σ2) (w := w) (p := R) (y := .inr (6, [.ref S, .int (nI a), .int (nI l.length + 1)]))
  rw [hw.1] at s3
  have s : Sa (fun c => c = cR ∨ c = c0 + 2 * j ∨ c = c0 + 2 * j + 1) σ w (σ2.1, σ2.2.set R (.inr (6, [.ref S, .int (nI a), .int (nI l.length + 1)]))) w := (s2.mono (by intro c z; omega)).trans (s3.mono (by intro c z; omega))
  have h1'' : (σ2.2.set R (.inr (6, [.ref S, .int (nI a), .int (nI l.length + 1)])))[R]? = some (.inr (6, [.ref S, .int (nI a), .int (nI l.length + 1)])) := st_get h1'
  have hx : Fw (σ2.1, σ2.2.set R (.inr (6, [.ref S, .int (nI a), .int (nI l.length + 1)]))) w r (c0 + 2 * j) x := ⟨wr, rb, wb, f2.sa s3 (by rw [wr]; omega) (by rw [wb]; omega)⟩
  refine h_st rfl rfl ?_
  refine h_rt rfl rfl (⟨_, _, rfl, rfl, w, ⟨hw, a, f, by rw [List.length_append, show nI (l.length + [x].length) = nI l.length + 1 from (nI_1 _).symm]; exact h1'', s.at hs (by omega), ⟨by rw [List.length_append]; exact hab.1, hab.2⟩, fun j' q hj' hq => ?_, fun i y hy => ?_⟩, h0.trans (s.mono (by intro c z; unfold RC; omega))⟩)
  · by_cases e : j' = j
    · rw [e] at hq
      rw [ej, hq] at hr
      injection hr with hr
      rw [e, hr]
      exact ⟨x, hx⟩
    · obtain ⟨z, hz⟩ := hall j' q hj' hq
      exact ⟨z, hz.sa s (by omega) (by omega)⟩
  · by_cases e : i < l.length
    · rw [List.getElem?_append_left e] at hy
      obtain ⟨q, h6, h7⟩ := hl i y hy
      have hne : ix n a i ≠ j := fun z => by
        have := ix_inj hab.2 (by omega) hab.1 (z.trans hj)
        omega
      exact ⟨q, h6, h7.sa s (by omega) (by omega)⟩
    · rw [List.getElem?_append_right (by omega)] at hy
      have hi : i - l.length = 0 := by
        have := (List.getElem?_eq_some_iff.mp hy).1
        simp at this
        omega
      rw [hi] at hy
      injection hy with hy
      have hi2 : i = l.length := by omega
      rw [hi2, ← hj, ← hy]
      exact ⟨r, by rw [← ej]; exact hr, hx⟩
theorem c_29bx {X : Int32} (hw : w R = cR ∧ w S = cR + 1 ∧ cR + 1 < c0 ∧ n ≤ 16) (h1 : σ.2[R]? = some (.inr (6, [.ref S, .int (nI a), .int (nI l.length)]))) (hs : σ.2[S]? = some (.inl (6, rfs n f))) (hab : l.length < n ∧ (a < n ∨ a = 0)) (hall : ∀ j q, j < n → f j = some q → ∃ x, Fw σ w q (c0 + 2 * j) x) (hl : ∀ j x, l[j]? = some x → ∃ q, f (ix n a j) = some q ∧ Fw σ w q (c0 + 2 * ix n a j) x) (hj : j = ix n a l.length) (hF : FX σ sp sb x.1 x.2) (hX : X = nI j) : hG ra (d + 1) 29 σ [some (.ref R), some (.ref sp), some (.int X)] [] 59 (pI (fun σ' y => y = 1 ∧ ∃ w', RW σ' w' R S cR n c0 (l ++ [x]) ∧ Sa (RC cR c0 n) σ w σ' w')) := by
  subst hX
  have hjn : j < n := by rw [hj]; exact ix_lt hab.2 hab.1
  have hin : ¬ (nI j < 0 ∨ n ≤ (nI j).toNatClampNeg) := nI_in hjn (by omega)
  have ej : (nI j).toNatClampNeg = j := nI_clamp (by omega)
  have hlq := ltc hs
  have hlp := ltc h1
  refine h_st rfl rfl ?_
  refine h_st rfl (e_get h1 rfl) ?_
  refine h_st rfl rfl ?_
  refine h_st rfl (e_aa hs (by decide) hin) ?_
  refine h_nul rfl (fun hn1 => ?_) (fun r hr => c_29cx hw h1 hs hab hall hl hj hr hF Sa.refl)
  refine h_st rfl rfl ?_
  refine h_st rfl (e_get h1 rfl) ?_
  refine h_st rfl rfl ?_
  refine h_st rfl rfl ?_
  refine h_st rfl rfl ?_
  have hp0 : (((σ.1.1 + 1, σ.1.2 + 2), σ.2 ++ [.inr (2, cd_Frame)]) : ae_S).2[σ.2.length]? = some (.inr (2, cd_Frame)) := by simp
  refine h_cv1 rfl (Nat.le_of_ble_eq_true rfl) (e_rcv hp0) rfl (k_2s hp0) (fun σ2 hk => ?_)
  have hl1 : (((σ.1.1 + 1, σ.1.2 + 2), σ.2 ++ [.inr (2, cd_Frame)]) : ae_S).2.length = σ.2.length + 1 := by simp
  rw [hl1] at hk
  have hold : ∀ q, q < σ.2.length → σ2.2[q]? = σ.2[q]? := fun q hq => (hk.2.2.2.2 q (by rw [hl1]; omega) (by omega)).trans (List.getElem?_append_left hq)
  have hlen : σ.2.length ≤ σ2.2.length := by rw [hk.2.1]; omega
  have k1 := hk.at 0 rfl
  have k2 := hk.at 1 rfl
  let w2 : Nat → Nat := fun q => if q = σ.2.length then c0 + 2 * j else if q = σ.2.length + 1 then c0 + 2 * j + 1 else w q
  have s1 : Sa (fun _ => False) σ w σ2 w2 := ⟨hlen, fun q hq _ => ⟨hold q hq, by show (if q = _ then _ else if q = _ then _ else w q) = w q; rw [if_neg (by omega), if_neg (by omega)]⟩⟩
  have hx : Fw σ2 w2 σ.2.length (c0 + 2 * j) (0, fun _ => 0) := ⟨if_pos rfl, σ.2.length + 1, by show (if _ then _ else if _ then _ else _) = _; rw [if_neg (by omega), if_pos rfl], k1, ⟨by omega, by omega⟩, _, k2, fun _ _ => by decide, fun _ z => absurd z (Nat.not_lt_zero _)⟩
  have F : ¬ False := id
  refine h_st rfl (e_aas (s1.at hs F) k1 (by decide) hin) ?_
  rw [ej]
  have s3 := Sa.set (σ := σ2) (w := w2) (p := S) (y := .inl (6, rfs n (va_up f j (some σ.2.length))))
  have eS : w2 S = cR + 1 := (s1.wt hs F).trans hw.2.1
  have eR : w2 R = cR := (s1.wt h1 F).trans hw.1
  rw [eS] at s3
  refine c_29cx (j := j) (r := σ.2.length) (sb := sb) (f := va_up f j (some σ.2.length)) ⟨eR, eS, hw.2.2⟩ (s3.at (s1.at h1 F) (by omega)) (st_get (s1.at hs F)) hab (fun j' q hj' hq => ?_) (fun i y hy => ?_) hj (by rw [ej]; simp [va_up]) ((hF.sa s1 F F).same ?_ ?_) ((s1.mono (fun _ z => z.elim)).trans (s3.mono (fun c z => by unfold RC; omega)))
  · by_cases e : j' = j
    · rw [show va_up f j (some σ.2.length) j' = some σ.2.length by simp [va_up, e]] at hq
      cases hq
      rw [e]
      exact ⟨_, hx.sa s3 (by omega) (by omega)⟩
    · rw [show va_up f j (some σ.2.length) j' = f j' by simp [va_up, e]] at hq
      obtain ⟨z, hz⟩ := hall j' q hj' hq
      exact ⟨z, (hz.sa s1 F F).sa s3 (by omega) (by omega)⟩
  · obtain ⟨q, h6, h7⟩ := hl i y hy
    have hi := (List.getElem?_eq_some_iff.mp hy).1
    have hne : ix n a i ≠ j := fun z => by
      have := ix_inj hab.2 (by omega) hab.1 (z.trans hj)
      omega
    exact ⟨q, by rw [show va_up f j (some σ.2.length) (ix n a i) = f (ix n a i) by simp [va_up, hne]]; exact h6, (h7.sa s1 F F).sa s3 (by omega) (by omega)⟩
  · exact st_ne (fun e => by
      have := hF.1
      rw [← e, hs] at this
      cases this)
  · exact st_ne (fun e => by
      obtain ⟨_, _, g, g3, _⟩ := hF
      rw [← e, hs] at g3
      cases g3)
theorem c_29x (h : RW σ w R S cR n c0 l) (hF : FX σ sp sb x.1 x.2) : hE ra (d + 2) 29 [.ref R, .ref sp] σ (pI (fun σ' y => (l.length = n ∧ y = 0 ∧ σ' = σ) ∨ (l.length < n ∧ y = 1 ∧ ∃ w', RW σ' w' R S cR n c0 (l ++ [x]) ∧ Sa (RC cR c0 n) σ w σ' w'))) := by
  obtain ⟨hw, a, f, h1, hs, hab, hall, hl⟩ := h
  have eab : nI a + nI l.length = nI (a + l.length) := nI_add a l.length
  refine h_in rfl rfl (Nat.le_of_ble_eq_true rfl) ?_
  refine h_st rfl rfl ?_
  refine h_st rfl (e_get h1 rfl) ?_
  refine h_st rfl rfl ?_
  refine h_st rfl (e_get h1 rfl) ?_
  refine h_st rfl (e_len hs (by decide)) ?_
  refine h_st rfl rfl ?_
  refine h_br (fun q0 => ?_) (fun q0 => ?_)
  · have hbn : l.length < n := (nI_ltI (by omega) (by omega)).mp (show nI l.length < nI n from q0)
    refine h_st rfl rfl ?_
    refine h_st rfl (e_get h1 rfl) ?_
    refine h_st rfl rfl ?_
    refine h_st rfl (e_get h1 rfl) ?_
    refine h_st rfl rfl ?_
    refine h_st rfl rfl ?_
    refine h_st rfl (e_get h1 rfl) ?_
    refine h_st rfl (e_len hs (by decide)) ?_
    refine h_st rfl rfl ?_
    refine h_br (fun q1 => ?_) (fun q1 => ?_)
    · refine h_st rfl rfl ?_
      refine h_st rfl (e_get h1 rfl) ?_
      refine h_st rfl rfl ?_
      refine h_st rfl (e_get h1 rfl) ?_
      refine h_st rfl rfl ?_
      refine h_st rfl rfl ?_
      refine h_st rfl (e_get h1 rfl) ?_
      refine h_st rfl (e_len hs (by decide)) ?_
      refine h_st rfl rfl ?_
      have hge : n ≤ a + l.length := (nI_leI (by omega) (by omega)).mp (show nI n ≤ nI (a + l.length) from eab ▸ q1)
      refine h_st rfl rfl ?_
      refine hG_mono (c_29bx (j := a + l.length - n) hw h1 hs ⟨hbn, hab.2⟩ hall hl (by unfold ix; rw [if_neg (by omega)]) hF (show nI a + nI l.length - nI n = _ from by rw [eab]; exact pk_sub hge)) (fun r hr => ?_)
      obtain ⟨σ', y, e, hy, w', h6⟩ := hr
      exact ⟨σ', y, e, Or.inr ⟨hbn, hy, w', h6⟩⟩
    · refine h_st rfl rfl ?_
      refine h_st rfl (e_get h1 rfl) ?_
      refine h_st rfl rfl ?_
      refine h_st rfl (e_get h1 rfl) ?_
      refine h_st rfl rfl ?_
      refine h_st rfl rfl ?_
      refine h_st rfl rfl ?_
      refine hG_mono (c_29bx (j := a + l.length) hw h1 hs ⟨hbn, hab.2⟩ hall hl (by unfold ix; rw [if_pos (Nat.lt_of_not_le (fun z => q1 (show nI n ≤ nI a + nI l.length from by rw [eab]; exact nI_le z (by omega))))]) hF (eab)) (fun r hr => ?_)
      obtain ⟨σ', y, e, hy, w', h6⟩ := hr
      exact ⟨σ', y, e, Or.inr ⟨hbn, hy, w', h6⟩⟩
  · refine h_st rfl rfl ?_
    exact h_rt rfl rfl (⟨_, _, rfl, Or.inl ⟨Nat.le_antisymm hab.1 (Nat.le_of_not_lt (fun z => q0 (show nI l.length < nI n from nI_lt z (by omega)))), rfl, rfl⟩⟩)
end SX3
