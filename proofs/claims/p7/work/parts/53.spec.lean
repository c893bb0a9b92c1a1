section WK
variable {ra : ae_R} {d mid : Nat} {σ σ' : ae_S} {L L' : ae_Ls} {k k' : List Value} {pc pc' : Nat} {r : ae_S × ae_O}
theorem g_if1 {c : Bool} {a b : Nat} (hc : c = true) (h : gG ra d mid σ L k a r) : gG ra d mid σ L k (if c = true then a else b) r := by
  rw [if_pos hc]
  exact h
theorem g_if0 {c : Bool} {a b : Nat} (hc : c = false) (h : gG ra d mid σ L k b r) : gG ra d mid σ L k (if c = true then a else b) r := by
  rw [if_neg (by rw [hc]; decide)]
  exact h
theorem g_pc {pc'' : Nat} (he : pc = pc'') (h : gG ra d mid σ L k pc'' r) : gG ra d mid σ L k pc r := he ▸ h
theorem g_cv0 {mi np : Nat} {rc : Option Nat} {hs : List (Nat × Nat × Nat)} {rest : List Value} (ht : ae_tab (at0 mid) pc = some (.inr (.inr (.inl (mi, 0, np, rc, hs))))) (hc : ae_cat rest ≤ 8) (hr : ae_rcv σ rc [] = true) (ha : ([] : List Value).all (fun v => v.category == 1) = true) (hE : gE ra d mi [] σ (σ', .inl none)) (h : gG ra d mid σ' L rest np r) : gG ra d mid σ L (rest) pc r := g_ca (as := []) (rest := rest) ht rfl rfl hc hr ha hE h
theorem g_ci0 {v : Value} {mi np : Nat} {rc : Option Nat} {hs : List (Nat × Nat × Nat)} {rest : List Value} (ht : ae_tab (at0 mid) pc = some (.inr (.inr (.inl (mi, 0, np, rc, hs))))) (hc : ae_cat rest ≤ 8) (hr : ae_rcv σ rc [] = true) (ha : ([] : List Value).all (fun v => v.category == 1) = true) (hE : gE ra d mi [] σ (σ', .inl (some v))) (h : gG ra d mid σ' L (v :: rest) np r) : gG ra d mid σ L (rest) pc r := g_ca (as := []) (rest := rest) ht rfl rfl hc hr ha hE h
theorem g_cv1 {mi np : Nat} {rc : Option Nat} {hs : List (Nat × Nat × Nat)} {a0 : Value} {rest : List Value} (ht : ae_tab (at0 mid) pc = some (.inr (.inr (.inl (mi, 1, np, rc, hs))))) (hc : ae_cat rest ≤ 8) (hr : ae_rcv σ rc [a0] = true) (ha : ([a0] : List Value).all (fun v => v.category == 1) = true) (hE : gE ra d mi [a0] σ (σ', .inl none)) (h : gG ra d mid σ' L rest np r) : gG ra d mid σ L (a0 :: rest) pc r := g_ca (as := [a0]) (rest := rest) ht rfl rfl hc hr ha hE h
theorem g_ci1 {v : Value} {mi np : Nat} {rc : Option Nat} {hs : List (Nat × Nat × Nat)} {a0 : Value} {rest : List Value} (ht : ae_tab (at0 mid) pc = some (.inr (.inr (.inl (mi, 1, np, rc, hs))))) (hc : ae_cat rest ≤ 8) (hr : ae_rcv σ rc [a0] = true) (ha : ([a0] : List Value).all (fun v => v.category == 1) = true) (hE : gE ra d mi [a0] σ (σ', .inl (some v))) (h : gG ra d mid σ' L (v :: rest) np r) : gG ra d mid σ L (a0 :: rest) pc r := g_ca (as := [a0]) (rest := rest) ht rfl rfl hc hr ha hE h
theorem g_cv2 {mi np : Nat} {rc : Option Nat} {hs : List (Nat × Nat × Nat)} {a0 a1 : Value} {rest : List Value} (ht : ae_tab (at0 mid) pc = some (.inr (.inr (.inl (mi, 2, np, rc, hs))))) (hc : ae_cat rest ≤ 8) (hr : ae_rcv σ rc [a0, a1] = true) (ha : ([a0, a1] : List Value).all (fun v => v.category == 1) = true) (hE : gE ra d mi [a0, a1] σ (σ', .inl none)) (h : gG ra d mid σ' L rest np r) : gG ra d mid σ L (a1 :: a0 :: rest) pc r := g_ca (as := [a0, a1]) (rest := rest) ht rfl rfl hc hr ha hE h
theorem g_ci2 {v : Value} {mi np : Nat} {rc : Option Nat} {hs : List (Nat × Nat × Nat)} {a0 a1 : Value} {rest : List Value} (ht : ae_tab (at0 mid) pc = some (.inr (.inr (.inl (mi, 2, np, rc, hs))))) (hc : ae_cat rest ≤ 8) (hr : ae_rcv σ rc [a0, a1] = true) (ha : ([a0, a1] : List Value).all (fun v => v.category == 1) = true) (hE : gE ra d mi [a0, a1] σ (σ', .inl (some v))) (h : gG ra d mid σ' L (v :: rest) np r) : gG ra d mid σ L (a1 :: a0 :: rest) pc r := g_ca (as := [a0, a1]) (rest := rest) ht rfl rfl hc hr ha hE h
theorem g_cv3 {mi np : Nat} {rc : Option Nat} {hs : List (Nat × Nat × Nat)} {a0 a1 a2 : Value} {rest : List Value} (ht : ae_tab (at0 mid) pc = some (.inr (.inr (.inl (mi, 3, np, rc, hs))))) (hc : ae_cat rest ≤ 8) (hr : ae_rcv σ rc [a0, a1, a2] = true) (ha : ([a0, a1, a2] : List Value).all (fun v => v.category == 1) = true) (hE : gE ra d mi [a0, a1, a2] σ (σ', .inl none)) (h : gG ra d mid σ' L rest np r) : gG ra d mid σ L (a2 :: a1 :: a0 :: rest) pc r := g_ca (as := [a0, a1, a2]) (rest := rest) ht rfl rfl hc hr ha hE h
theorem g_ci3 {v : Value} {mi np : Nat} {rc : Option Nat} {hs : List (Nat × Nat × Nat)} {a0 a1 a2 : Value} {rest : List Value} (ht : ae_tab (at0 mid) pc = some (.inr (.inr (.inl (mi, 3, np, rc, hs))))) (hc : ae_cat rest ≤ 8) (hr : ae_rcv σ rc [a0, a1, a2] = true) (ha : ([a0, a1, a2] : List Value).all (fun v => v.category == 1) = true) (hE : gE ra d mi [a0, a1, a2] σ (σ', .inl (some v))) (h : gG ra d mid σ' L (v :: rest) np r) : gG ra d mid σ L (a2 :: a1 :: a0 :: rest) pc r := g_ca (as := [a0, a1, a2]) (rest := rest) ht rfl rfl hc hr ha hE h
theorem g_cv4 {mi np : Nat} {rc : Option Nat} {hs : List (Nat × Nat × Nat)} {a0 a1 a2 a3 : Value} {rest : List Value} (ht : ae_tab (at0 mid) pc = some (.inr (.inr (.inl (mi, 4, np, rc, hs))))) (hc : ae_cat rest ≤ 8) (hr : ae_rcv σ rc [a0, a1, a2, a3] = true) (ha : ([a0, a1, a2, a3] : List Value).all (fun v => v.category == 1) = true) (hE : gE ra d mi [a0, a1, a2, a3] σ (σ', .inl none)) (h : gG ra d mid σ' L rest np r) : gG ra d mid σ L (a3 :: a2 :: a1 :: a0 :: rest) pc r := g_ca (as := [a0, a1, a2, a3]) (rest := rest) ht rfl rfl hc hr ha hE h
theorem g_ci4 {v : Value} {mi np : Nat} {rc : Option Nat} {hs : List (Nat × Nat × Nat)} {a0 a1 a2 a3 : Value} {rest : List Value} (ht : ae_tab (at0 mid) pc = some (.inr (.inr (.inl (mi, 4, np, rc, hs))))) (hc : ae_cat rest ≤ 8) (hr : ae_rcv σ rc [a0, a1, a2, a3] = true) (ha : ([a0, a1, a2, a3] : List Value).all (fun v => v.category == 1) = true) (hE : gE ra d mi [a0, a1, a2, a3] σ (σ', .inl (some v))) (h : gG ra d mid σ' L (v :: rest) np r) : gG ra d mid σ L (a3 :: a2 :: a1 :: a0 :: rest) pc r := g_ca (as := [a0, a1, a2, a3]) (rest := rest) ht rfl rfl hc hr ha hE h
theorem g_cv5 {mi np : Nat} {rc : Option Nat} {hs : List (Nat × Nat × Nat)} {a0 a1 a2 a3 a4 : Value} {rest : List Value} (ht : ae_tab (at0 mid) pc = some (.inr (.inr (.inl (mi, 5, np, rc, hs))))) (hc : ae_cat rest ≤ 8) (hr : ae_rcv σ rc [a0, a1, a2, a3, a4] = true) (ha : ([a0, a1, a2, a3, a4] : List Value).all (fun v => v.category == 1) = true) (hE : gE ra d mi [a0, a1, a2, a3, a4] σ (σ', .inl none)) (h : gG ra d mid σ' L rest np r) : gG ra d mid σ L (a4 :: a3 :: a2 :: a1 :: a0 :: rest) pc r := g_ca (as := [a0, a1, a2, a3, a4]) (rest := rest) ht rfl rfl hc hr ha hE h
theorem g_ci5 {v : Value} {mi np : Nat} {rc : Option Nat} {hs : List (Nat × Nat × Nat)} {a0 a1 a2 a3 a4 : Value} {rest : List Value} (ht : ae_tab (at0 mid) pc = some (.inr (.inr (.inl (mi, 5, np, rc, hs))))) (hc : ae_cat rest ≤ 8) (hr : ae_rcv σ rc [a0, a1, a2, a3, a4] = true) (ha : ([a0, a1, a2, a3, a4] : List Value).all (fun v => v.category == 1) = true) (hE : gE ra d mi [a0, a1, a2, a3, a4] σ (σ', .inl (some v))) (h : gG ra d mid σ' L (v :: rest) np r) : gG ra d mid σ L (a4 :: a3 :: a2 :: a1 :: a0 :: rest) pc r := g_ca (as := [a0, a1, a2, a3, a4]) (rest := rest) ht rfl rfl hc hr ha hE h
theorem g_cv6 {mi np : Nat} {rc : Option Nat} {hs : List (Nat × Nat × Nat)} {a0 a1 a2 a3 a4 a5 : Value} {rest : List Value} (ht : ae_tab (at0 mid) pc = some (.inr (.inr (.inl (mi, 6, np, rc, hs))))) (hc : ae_cat rest ≤ 8) (hr : ae_rcv σ rc [a0, a1, a2, a3, a4, a5] = true) (ha : ([a0, a1, a2, a3, a4, a5] : List Value).all (fun v => v.category == 1) = true) (hE : gE ra d mi [a0, a1, a2, a3, a4, a5] σ (σ', .inl none)) (h : gG ra d mid σ' L rest np r) : gG ra d mid σ L (a5 :: a4 :: a3 :: a2 :: a1 :: a0 :: rest) pc r := g_ca (as := [a0, a1, a2, a3, a4, a5]) (rest := rest) ht rfl rfl hc hr ha hE h
theorem g_ci6 {v : Value} {mi np : Nat} {rc : Option Nat} {hs : List (Nat × Nat × Nat)} {a0 a1 a2 a3 a4 a5 : Value} {rest : List Value} (ht : ae_tab (at0 mid) pc = some (.inr (.inr (.inl (mi, 6, np, rc, hs))))) (hc : ae_cat rest ≤ 8) (hr : ae_rcv σ rc [a0, a1, a2, a3, a4, a5] = true) (ha : ([a0, a1, a2, a3, a4, a5] : List Value).all (fun v => v.category == 1) = true) (hE : gE ra d mi [a0, a1, a2, a3, a4, a5] σ (σ', .inl (some v))) (h : gG ra d mid σ' L (v :: rest) np r) : gG ra d mid σ L (a5 :: a4 :: a3 :: a2 :: a1 :: a0 :: rest) pc r := g_ca (as := [a0, a1, a2, a3, a4, a5]) (rest := rest) ht rfl rfl hc hr ha hE h
theorem g_cv7 {mi np : Nat} {rc : Option Nat} {hs : List (Nat × Nat × Nat)} {a0 a1 a2 a3 a4 a5 a6 : Value} {rest : List Value} (ht : ae_tab (at0 mid) pc = some (.inr (.inr (.inl (mi, 7, np, rc, hs))))) (hc : ae_cat rest ≤ 8) (hr : ae_rcv σ rc [a0, a1, a2, a3, a4, a5, a6] = true) (ha : ([a0, a1, a2, a3, a4, a5, a6] : List Value).all (fun v => v.category == 1) = true) (hE : gE ra d mi [a0, a1, a2, a3, a4, a5, a6] σ (σ', .inl none)) (h : gG ra d mid σ' L rest np r) : gG ra d mid σ L (a6 :: a5 :: a4 :: a3 :: a2 :: a1 :: a0 :: rest) pc r := g_ca (as := [a0, a1, a2, a3, a4, a5, a6]) (rest := rest) ht rfl rfl hc hr ha hE h
theorem g_ci7 {v : Value} {mi np : Nat} {rc : Option Nat} {hs : List (Nat × Nat × Nat)} {a0 a1 a2 a3 a4 a5 a6 : Value} {rest : List Value} (ht : ae_tab (at0 mid) pc = some (.inr (.inr (.inl (mi, 7, np, rc, hs))))) (hc : ae_cat rest ≤ 8) (hr : ae_rcv σ rc [a0, a1, a2, a3, a4, a5, a6] = true) (ha : ([a0, a1, a2, a3, a4, a5, a6] : List Value).all (fun v => v.category == 1) = true) (hE : gE ra d mi [a0, a1, a2, a3, a4, a5, a6] σ (σ', .inl (some v))) (h : gG ra d mid σ' L (v :: rest) np r) : gG ra d mid σ L (a6 :: a5 :: a4 :: a3 :: a2 :: a1 :: a0 :: rest) pc r := g_ca (as := [a0, a1, a2, a3, a4, a5, a6]) (rest := rest) ht rfl rfl hc hr ha hE h
end WK
section WP
variable {ra : ae_R} {d mid : Nat} {σ σ' : ae_S} {L L' : ae_Ls} {k k' : List Value} {pc pc' : Nat} {P : ae_S × ae_O → Prop}
/-- a method at a point of its code ends, and P holds of its end -/
def hG (ra : ae_R) (d mid : Nat) (σ : ae_S) (L : ae_Ls) (k : List Value) (pc : Nat) (P : ae_S × ae_O → Prop) : Prop := ∃ r, gG ra d mid σ L k pc r ∧ P r
def hE (ra : ae_R) (d mid : Nat) (args : List Value) (σ : ae_S) (P : ae_S × ae_O → Prop) : Prop := ∃ r, gE ra d mid args σ r ∧ P r
/-- ends: an int, a reference or null, nothing, a throw -/
abbrev pI (P : ae_S → Int32 → Prop) : ae_S × ae_O → Prop := fun r => ∃ σ x, r = (σ, .inl (some (.int x))) ∧ P σ x
abbrev pR (P : ae_S → Option Nat → Prop) : ae_S × ae_O → Prop := fun r => ∃ σ q, r = (σ, .inl (some (va_rf q))) ∧ P σ q
abbrev pV (P : ae_S → Prop) : ae_S × ae_O → Prop := fun r => ∃ σ, r = (σ, .inl none) ∧ P σ
abbrev pX (x : Nat) (P : ae_S → Prop) : ae_S × ae_O → Prop := fun r => ∃ σ, r = (σ, .inr x) ∧ P σ
theorem h_in {args : List Value} {nL : Nat} {q : ae_Q4} (hq : am mid = q) (hn : q.2.2.1 = nL) (hl : args.length ≤ nL) (h : hG ra d mid σ (ae_ent args nL) [] 0 P) : hE ra (d + 1) mid args σ P := by
  obtain ⟨r, h1, h2⟩ := h
  exact ⟨r, g_in hq hn hl h1, h2⟩
theorem h_st {f : ae_Op} (ht : ae_tab (at0 mid) pc = some (.inl f)) (hf : f ra σ L k = some (σ', L', k', pc')) (h : hG ra d mid σ' L' k' pc' P) : hG ra d mid σ L k pc P := by
  obtain ⟨r, h1, h2⟩ := h
  exact ⟨r, g_st ht hf h1, h2⟩
theorem h_if {c : Bool} {a b : Nat} (h1 : c = true → hG ra d mid σ L k a P) (h2 : c = false → hG ra d mid σ L k b P) : hG ra d mid σ L k (if c = true then a else b) P := by
  cases c
  · exact h2 rfl
  · exact h1 rfl
/-- a branch, its condition as a proposition -/
theorem h_br {p : Prop} {dp : Decidable p} {a b : Nat} (h1 : p → hG ra d mid σ L k a P) (h2 : ¬ p → hG ra d mid σ L k b P) : hG ra d mid σ L k (if decide p = true then a else b) P := by
  by_cases h : p
  · rw [if_pos (decide_eq_true h)]
    exact h1 h
  · rw [if_neg (fun z => h (of_decide_eq_true z))]
    exact h2 h
theorem h_pc {pc'' : Nat} (he : pc = pc'') (h : hG ra d mid σ L k pc'' P) : hG ra d mid σ L k pc P := he ▸ h
theorem h_rv (ht : ae_tab (at0 mid) pc = some (.inr (.inl none))) (h : P (σ, .inl none)) : hG ra d mid σ L [] pc P := ⟨_, g_rv ht, h⟩
theorem h_rt {ok : Value → Bool} {v : Value} (ht : ae_tab (at0 mid) pc = some (.inr (.inl (some ok)))) (hv : ok v = true) (h : P (σ, .inl (some v))) : hG ra d mid σ L [v] pc P := ⟨_, g_rt ht hv, h⟩
theorem h_th {x c1 c2 : Nat} (ht : ae_tab (at0 mid) pc = some (.inr (.inr (.inr (x, c1, c2))))) (hd : 5 ≤ d) (hk : ae_cat k ≤ 8) (h : P (((σ.1.1 + c1, σ.1.2 + c2), σ.2), .inr x)) : hG ra d mid σ L k pc P := ⟨_, g_th ht hd hk, h⟩
theorem h_nul {q : Option Nat} {np tg : Nat} (ht : ae_tab (at0 mid) pc = some (.inl (o_nul tg np))) (h1 : q = none → hG ra d mid σ L k tg P) (h2 : ∀ p, q = some p → hG ra d mid σ L k np P) : hG ra d mid σ L (va_rf q :: k) pc P := by
  cases q with
  | none => exact h_st ht rfl (h1 rfl)
  | some p => exact h_st ht rfl (h2 p rfl)
theorem hE_mono {args : List Value} {P P' : ae_S × ae_O → Prop} (h : hE ra d mid args σ P) (hp : ∀ r, P r → P' r) : hE ra d mid args σ P' := by
  obtain ⟨r, h1, h2⟩ := h
  exact ⟨r, h1, hp r h2⟩
theorem h_cv0 {P1 : ae_S → Prop} {mi np : Nat} {rc : Option Nat} {hs : List (Nat × Nat × Nat)} {rest : List Value} (ht : ae_tab (at0 mid) pc = some (.inr (.inr (.inl (mi, 0, np, rc, hs))))) (hc : ae_cat rest ≤ 8) (hr : ae_rcv σ rc [] = true) (ha : ([] : List Value).all (fun v => v.category == 1) = true) (h1 : hE ra d mi [] σ (pV P1)) (h : ∀ σ', P1 σ' → hG ra d mid σ' L rest np P) : hG ra d mid σ L (rest) pc P := by
  obtain ⟨r, g1, σ', rfl, g2⟩ := h1
  obtain ⟨r2, q1, q2⟩ := h σ' g2
  exact ⟨r2, g_ca (as := []) (rest := rest) ht rfl rfl hc hr ha g1 q1, q2⟩
theorem h_ci0 {P1 : ae_S → Int32 → Prop} {mi np : Nat} {rc : Option Nat} {hs : List (Nat × Nat × Nat)} {rest : List Value} (ht : ae_tab (at0 mid) pc = some (.inr (.inr (.inl (mi, 0, np, rc, hs))))) (hc : ae_cat rest ≤ 8) (hr : ae_rcv σ rc [] = true) (ha : ([] : List Value).all (fun v => v.category == 1) = true) (h1 : hE ra d mi [] σ (pI P1)) (h : ∀ σ' x, P1 σ' x → hG ra d mid σ' L (.int x :: rest) np P) : hG ra d mid σ L (rest) pc P := by
  obtain ⟨r, g1, σ', x, rfl, g2⟩ := h1
  obtain ⟨r2, q1, q2⟩ := h σ' x g2
  exact ⟨r2, g_ca (as := []) (rest := rest) ht rfl rfl hc hr ha g1 q1, q2⟩
theorem h_cr0 {P1 : ae_S → Option Nat → Prop} {mi np : Nat} {rc : Option Nat} {hs : List (Nat × Nat × Nat)} {rest : List Value} (ht : ae_tab (at0 mid) pc = some (.inr (.inr (.inl (mi, 0, np, rc, hs))))) (hc : ae_cat rest ≤ 8) (hr : ae_rcv σ rc [] = true) (ha : ([] : List Value).all (fun v => v.category == 1) = true) (h1 : hE ra d mi [] σ (pR P1)) (h : ∀ σ' x, P1 σ' x → hG ra d mid σ' L (va_rf x :: rest) np P) : hG ra d mid σ L (rest) pc P := by
  obtain ⟨r, g1, σ', x, rfl, g2⟩ := h1
  obtain ⟨r2, q1, q2⟩ := h σ' x g2
  exact ⟨r2, g_ca (as := []) (rest := rest) ht rfl rfl hc hr ha g1 q1, q2⟩
theorem h_cx0 {x hp i : Nat} {P1 : ae_S → Prop} {mi np : Nat} {rc : Option Nat} {hs : List (Nat × Nat × Nat)} {rest : List Value} (ht : ae_tab (at0 mid) pc = some (.inr (.inr (.inl (mi, 0, np, rc, hs))))) (hc : ae_cat rest ≤ 8) (hr : ae_rcv σ rc [] = true) (ha : ([] : List Value).all (fun v => v.category == 1) = true) (h1 : hE ra d mi [] σ (pX x P1)) (hf : hs.find? (fun h => h.1 == x) = some (x, hp, i)) (h : ∀ σ', P1 σ' → hG ra d mid σ' (L.set i none) [] hp P) : hG ra d mid σ L (rest) pc P := by
  obtain ⟨r, g1, σ', rfl, g2⟩ := h1
  obtain ⟨r2, q1, q2⟩ := h σ' g2
  exact ⟨r2, g_cx (as := []) (rest := rest) ht rfl rfl hc hr ha g1 hf q1, q2⟩
theorem h_cv1 {P1 : ae_S → Prop} {mi np : Nat} {rc : Option Nat} {hs : List (Nat × Nat × Nat)} {a0 : Value} {rest : List Value} (ht : ae_tab (at0 mid) pc = some (.inr (.inr (.inl (mi, 1, np, rc, hs))))) (hc : ae_cat rest ≤ 8) (hr : ae_rcv σ rc [a0] = true) (ha : ([a0] : List Value).all (fun v => v.category == 1) = true) (h1 : hE ra d mi [a0] σ (pV P1)) (h : ∀ σ', P1 σ' → hG ra d mid σ' L rest np P) : hG ra d mid σ L (a0 :: rest) pc P := by
  obtain ⟨r, g1, σ', rfl, g2⟩ := h1
  obtain ⟨r2, q1, q2⟩ := h σ' g2
  exact ⟨r2, g_ca (as := [a0]) (rest := rest) ht rfl rfl hc hr ha g1 q1, q2⟩
theorem h_ci1 {P1 : ae_S → Int32 → Prop} {mi np : Nat} {rc : Option Nat} {hs : List (Nat × Nat × Nat)} {a0 : Value} {rest : List Value} (ht : ae_tab (at0 mid) pc = some (.inr (.inr (.inl (mi, 1, np, rc, hs))))) (hc : ae_cat rest ≤ 8) (hr : ae_rcv σ rc [a0] = true) (ha : ([a0] : List Value).all (fun v => v.category == 1) = true) (h1 : hE ra d mi [a0] σ (pI P1)) (h : ∀ σ' x, P1 σ' x → hG ra d mid σ' L (.int x :: rest) np P) : hG ra d mid σ L (a0 :: rest) pc P := by
  obtain ⟨r, g1, σ', x, rfl, g2⟩ := h1
  obtain ⟨r2, q1, q2⟩ := h σ' x g2
  exact ⟨r2, g_ca (as := [a0]) (rest := rest) ht rfl rfl hc hr ha g1 q1, q2⟩
theorem h_cr1 {P1 : ae_S → Option Nat → Prop} {mi np : Nat} {rc : Option Nat} {hs : List (Nat × Nat × Nat)} {a0 : Value} {rest : List Value} (ht : ae_tab (at0 mid) pc = some (.inr (.inr (.inl (mi, 1, np, rc, hs))))) (hc : ae_cat rest ≤ 8) (hr : ae_rcv σ rc [a0] = true) (ha : ([a0] : List Value).all (fun v => v.category == 1) = true) (h1 : hE ra d mi [a0] σ (pR P1)) (h : ∀ σ' x, P1 σ' x → hG ra d mid σ' L (va_rf x :: rest) np P) : hG ra d mid σ L (a0 :: rest) pc P := by
  obtain ⟨r, g1, σ', x, rfl, g2⟩ := h1
  obtain ⟨r2, q1, q2⟩ := h σ' x g2
  exact ⟨r2, g_ca (as := [a0]) (rest := rest) ht rfl rfl hc hr ha g1 q1, q2⟩
theorem h_cx1 {x hp i : Nat} {P1 : ae_S → Prop} {mi np : Nat} {rc : Option Nat} {hs : List (Nat × Nat × Nat)} {a0 : Value} {rest : List Value} (ht : ae_tab (at0 mid) pc = some (.inr (.inr (.inl (mi, 1, np, rc, hs))))) (hc : ae_cat rest ≤ 8) (hr : ae_rcv σ rc [a0] = true) (ha : ([a0] : List Value).all (fun v => v.category == 1) = true) (h1 : hE ra d mi [a0] σ (pX x P1)) (hf : hs.find? (fun h => h.1 == x) = some (x, hp, i)) (h : ∀ σ', P1 σ' → hG ra d mid σ' (L.set i none) [] hp P) : hG ra d mid σ L (a0 :: rest) pc P := by
  obtain ⟨r, g1, σ', rfl, g2⟩ := h1
  obtain ⟨r2, q1, q2⟩ := h σ' g2
  exact ⟨r2, g_cx (as := [a0]) (rest := rest) ht rfl rfl hc hr ha g1 hf q1, q2⟩
theorem h_cv2 {P1 : ae_S → Prop} {mi np : Nat} {rc : Option Nat} {hs : List (Nat × Nat × Nat)} {a0 a1 : Value} {rest : List Value} (ht : ae_tab (at0 mid) pc = some (.inr (.inr (.inl (mi, 2, np, rc, hs))))) (hc : ae_cat rest ≤ 8) (hr : ae_rcv σ rc [a0, a1] = true) (ha : ([a0, a1] : List Value).all (fun v => v.category == 1) = true) (h1 : hE ra d mi [a0, a1] σ (pV P1)) (h : ∀ σ', P1 σ' → hG ra d mid σ' L rest np P) : hG ra d mid σ L (a1 :: a0 :: rest) pc P := by
  obtain ⟨r, g1, σ', rfl, g2⟩ := h1
  obtain ⟨r2, q1, q2⟩ := h σ' g2
  exact ⟨r2, g_ca (as := [a0, a1]) (rest := rest) ht rfl rfl hc hr ha g1 q1, q2⟩
theorem h_ci2 {P1 : ae_S → Int32 → Prop} {mi np : Nat} {rc : Option Nat} {hs : List (Nat × Nat × Nat)} {a0 a1 : Value} {rest : List Value} (ht : ae_tab (at0 mid) pc = some (.inr (.inr (.inl (mi, 2, np, rc, hs))))) (hc : ae_cat rest ≤ 8) (hr : ae_rcv σ rc [a0, a1] = true) (ha : ([a0, a1] : List Value).all (fun v => v.category == 1) = true) (h1 : hE ra d mi [a0, a1] σ (pI P1)) (h : ∀ σ' x, P1 σ' x → hG ra d mid σ' L (.int x :: rest) np P) : hG ra d mid σ L (a1 :: a0 :: rest) pc P := by
  obtain ⟨r, g1, σ', x, rfl, g2⟩ := h1
  obtain ⟨r2, q1, q2⟩ := h σ' x g2
  exact ⟨r2, g_ca (as := [a0, a1]) (rest := rest) ht rfl rfl hc hr ha g1 q1, q2⟩
theorem h_cr2 {P1 : ae_S → Option Nat → Prop} {mi np : Nat} {rc : Option Nat} {hs : List (Nat × Nat × Nat)} {a0 a1 : Value} {rest : List Value} (ht : ae_tab (at0 mid) pc = some (.inr (.inr (.inl (mi, 2, np, rc, hs))))) (hc : ae_cat rest ≤ 8) (hr : ae_rcv σ rc [a0, a1] = true) (ha : ([a0, a1] : List Value).all (fun v => v.category == 1) = true) (h1 : hE ra d mi [a0, a1] σ (pR P1)) (h : ∀ σ' x, P1 σ' x → hG ra d mid σ' L (va_rf x :: rest) np P) : hG ra d mid σ L (a1 :: a0 :: rest) pc P := by
  obtain ⟨r, g1, σ', x, rfl, g2⟩ := h1
  obtain ⟨r2, q1, q2⟩ := h σ' x g2
  exact ⟨r2, g_ca (as := [a0, a1]) (rest := rest) ht rfl rfl hc hr ha g1 q1, q2⟩
theorem h_cx2 {x hp i : Nat} {P1 : ae_S → Prop} {mi np : Nat} {rc : Option Nat} {hs : List (Nat × Nat × Nat)} {a0 a1 : Value} {rest : List Value} (ht : ae_tab (at0 mid) pc = some (.inr (.inr (.inl (mi, 2, np, rc, hs))))) (hc : ae_cat rest ≤ 8) (hr : ae_rcv σ rc [a0, a1] = true) (ha : ([a0, a1] : List Value).all (fun v => v.category == 1) = true) (h1 : hE ra d mi [a0, a1] σ (pX x P1)) (hf : hs.find? (fun h => h.1 == x) = some (x, hp, i)) (h : ∀ σ', P1 σ' → hG ra d mid σ' (L.set i none) [] hp P) : hG ra d mid σ L (a1 :: a0 :: rest) pc P := by
  obtain ⟨r, g1, σ', rfl, g2⟩ := h1
  obtain ⟨r2, q1, q2⟩ := h σ' g2
  exact ⟨r2, g_cx (as := [a0, a1]) (rest := rest) ht rfl rfl hc hr ha g1 hf q1, q2⟩
theorem h_cv3 {P1 : ae_S → Prop} {mi np : Nat} {rc : Option Nat} {hs : List (Nat × Nat × Nat)} {a0 a1 a2 : Value} {rest : List Value} (ht : ae_tab (at0 mid) pc = some (.inr (.inr (.inl (mi, 3, np, rc, hs))))) (hc : ae_cat rest ≤ 8) (hr : ae_rcv σ rc [a0, a1, a2] = true) (ha : ([a0, a1, a2] : List Value).all (fun v => v.category == 1) = true) (h1 : hE ra d mi [a0, a1, a2] σ (pV P1)) (h : ∀ σ', P1 σ' → hG ra d mid σ' L rest np P) : hG ra d mid σ L (a2 :: a1 :: a0 :: rest) pc P := by
  obtain ⟨r, g1, σ', rfl, g2⟩ := h1
  obtain ⟨r2, q1, q2⟩ := h σ' g2
  exact ⟨r2, g_ca (as := [a0, a1, a2]) (rest := rest) ht rfl rfl hc hr ha g1 q1, q2⟩
theorem h_ci3 {P1 : ae_S → Int32 → Prop} {mi np : Nat} {rc : Option Nat} {hs : List (Nat × Nat × Nat)} {a0 a1 a2 : Value} {rest : List Value} (ht : ae_tab (at0 mid) pc = some (.inr (.inr (.inl (mi, 3, np, rc, hs))))) (hc : ae_cat rest ≤ 8) (hr : ae_rcv σ rc [a0, a1, a2] = true) (ha : ([a0, a1, a2] : List Value).all (fun v => v.category == 1) = true) (h1 : hE ra d mi [a0, a1, a2] σ (pI P1)) (h : ∀ σ' x, P1 σ' x → hG ra d mid σ' L (.int x :: rest) np P) : hG ra d mid σ L (a2 :: a1 :: a0 :: rest) pc P := by
  obtain ⟨r, g1, σ', x, rfl, g2⟩ := h1
  obtain ⟨r2, q1, q2⟩ := h σ' x g2
  exact ⟨r2, g_ca (as := [a0, a1, a2]) (rest := rest) ht rfl rfl hc hr ha g1 q1, q2⟩
theorem h_cr3 {P1 : ae_S → Option Nat → Prop} {mi np : Nat} {rc : Option Nat} {hs : List (Nat × Nat × Nat)} {a0 a1 a2 : Value} {rest : List Value} (ht : ae_tab (at0 mid) pc = some (.inr (.inr (.inl (mi, 3, np, rc, hs))))) (hc : ae_cat rest ≤ 8) (hr : ae_rcv σ rc [a0, a1, a2] = true) (ha : ([a0, a1, a2] : List Value).all (fun v => v.category == 1) = true) (h1 : hE ra d mi [a0, a1, a2] σ (pR P1)) (h : ∀ σ' x, P1 σ' x → hG ra d mid σ' L (va_rf x :: rest) np P) : hG ra d mid σ L (a2 :: a1 :: a0 :: rest) pc P := by
  obtain ⟨r, g1, σ', x, rfl, g2⟩ := h1
  obtain ⟨r2, q1, q2⟩ := h σ' x g2
  exact ⟨r2, g_ca (as := [a0, a1, a2]) (rest := rest) ht rfl rfl hc hr ha g1 q1, q2⟩
theorem h_cx3 {x hp i : Nat} {P1 : ae_S → Prop} {mi np : Nat} {rc : Option Nat} {hs : List (Nat × Nat × Nat)} {a0 a1 a2 : Value} {rest : List Value} (ht : ae_tab (at0 mid) pc = some (.inr (.inr (.inl (mi, 3, np, rc, hs))))) (hc : ae_cat rest ≤ 8) (hr : ae_rcv σ rc [a0, a1, a2] = true) (ha : ([a0, a1, a2] : List Value).all (fun v => v.category == 1) = true) (h1 : hE ra d mi [a0, a1, a2] σ (pX x P1)) (hf : hs.find? (fun h => h.1 == x) = some (x, hp, i)) (h : ∀ σ', P1 σ' → hG ra d mid σ' (L.set i none) [] hp P) : hG ra d mid σ L (a2 :: a1 :: a0 :: rest) pc P := by
  obtain ⟨r, g1, σ', rfl, g2⟩ := h1
  obtain ⟨r2, q1, q2⟩ := h σ' g2
  exact ⟨r2, g_cx (as := [a0, a1, a2]) (rest := rest) ht rfl rfl hc hr ha g1 hf q1, q2⟩
theorem h_cv4 {P1 : ae_S → Prop} {mi np : Nat} {rc : Option Nat} {hs : List (Nat × Nat × Nat)} {a0 a1 a2 a3 : Value} {rest : List Value} (ht : ae_tab (at0 mid) pc = some (.inr (.inr (.inl (mi, 4, np, rc, hs))))) (hc : ae_cat rest ≤ 8) (hr : ae_rcv σ rc [a0, a1, a2, a3] = true) (ha : ([a0, a1, a2, a3] : List Value).all (fun v => v.category == 1) = true) (h1 : hE ra d mi [a0, a1, a2, a3] σ (pV P1)) (h : ∀ σ', P1 σ' → hG ra d mid σ' L rest np P) : hG ra d mid σ L (a3 :: a2 :: a1 :: a0 :: rest) pc P := by
  obtain ⟨r, g1, σ', rfl, g2⟩ := h1
  obtain ⟨r2, q1, q2⟩ := h σ' g2
  exact ⟨r2, g_ca (as := [a0, a1, a2, a3]) (rest := rest) ht rfl rfl hc hr ha g1 q1, q2⟩
theorem h_ci4 {P1 : ae_S → Int32 → Prop} {mi np : Nat} {rc : Option Nat} {hs : List (Nat × Nat × Nat)} {a0 a1 a2 a3 : Value} {rest : List Value} (ht : ae_tab (at0 mid) pc = some (.inr (.inr (.inl (mi, 4, np, rc, hs))))) (hc : ae_cat rest ≤ 8) (hr : ae_rcv σ rc [a0, a1, a2, a3] = true) (ha : ([a0, a1, a2, a3] : List Value).all (fun v => v.category == 1) = true) (h1 : hE ra d mi [a0, a1, a2, a3] σ (pI P1)) (h : ∀ σ' x, P1 σ' x → hG ra d mid σ' L (.int x :: rest) np P) : hG ra d mid σ L (a3 :: a2 :: a1 :: a0 :: rest) pc P := by
  obtain ⟨r, g1, σ', x, rfl, g2⟩ := h1
  obtain ⟨r2, q1, q2⟩ := h σ' x g2
  exact ⟨r2, g_ca (as := [a0, a1, a2, a3]) (rest := rest) ht rfl rfl hc hr ha g1 q1, q2⟩
theorem h_cr4 {P1 : ae_S → Option Nat → Prop} {mi np : Nat} {rc : Option Nat} {hs : List (Nat × Nat × Nat)} {a0 a1 a2 a3 : Value} {rest : List Value} (ht : ae_tab (at0 mid) pc = some (.inr (.inr (.inl (mi, 4, np, rc, hs))))) (hc : ae_cat rest ≤ 8) (hr : ae_rcv σ rc [a0, a1, a2, a3] = true) (ha : ([a0, a1, a2, a3] : List Value).all (fun v => v.category == 1) = true) (h1 : hE ra d mi [a0, a1, a2, a3] σ (pR P1)) (h : ∀ σ' x, P1 σ' x → hG ra d mid σ' L (va_rf x :: rest) np P) : hG ra d mid σ L (a3 :: a2 :: a1 :: a0 :: rest) pc P := by
  obtain ⟨r, g1, σ', x, rfl, g2⟩ := h1
  obtain ⟨r2, q1, q2⟩ := h σ' x g2
  exact ⟨r2, g_ca (as := [a0, a1, a2, a3]) (rest := rest) ht rfl rfl hc hr ha g1 q1, q2⟩
theorem h_cx4 {x hp i : Nat} {P1 : ae_S → Prop} {mi np : Nat} {rc : Option Nat} {hs : List (Nat × Nat × Nat)} {a0 a1 a2 a3 : Value} {rest : List Value} (ht : ae_tab (at0 mid) pc = some (.inr (.inr (.inl (mi, 4, np, rc, hs))))) (hc : ae_cat rest ≤ 8) (hr : ae_rcv σ rc [a0, a1, a2, a3] = true) (ha : ([a0, a1, a2, a3] : List Value).all (fun v => v.category == 1) = true) (h1 : hE ra d mi [a0, a1, a2, a3] σ (pX x P1)) (hf : hs.find? (fun h => h.1 == x) = some (x, hp, i)) (h : ∀ σ', P1 σ' → hG ra d mid σ' (L.set i none) [] hp P) : hG ra d mid σ L (a3 :: a2 :: a1 :: a0 :: rest) pc P := by
  obtain ⟨r, g1, σ', rfl, g2⟩ := h1
  obtain ⟨r2, q1, q2⟩ := h σ' g2
  exact ⟨r2, g_cx (as := [a0, a1, a2, a3]) (rest := rest) ht rfl rfl hc hr ha g1 hf q1, q2⟩
theorem h_cv5 {P1 : ae_S → Prop} {mi np : Nat} {rc : Option Nat} {hs : List (Nat × Nat × Nat)} {a0 a1 a2 a3 a4 : Value} {rest : List Value} (ht : ae_tab (at0 mid) pc = some (.inr (.inr (.inl (mi, 5, np, rc, hs))))) (hc : ae_cat rest ≤ 8) (hr : ae_rcv σ rc [a0, a1, a2, a3, a4] = true) (ha : ([a0, a1, a2, a3, a4] : List Value).all (fun v => v.category == 1) = true) (h1 : hE ra d mi [a0, a1, a2, a3, a4] σ (pV P1)) (h : ∀ σ', P1 σ' → hG ra d mid σ' L rest np P) : hG ra d mid σ L (a4 :: a3 :: a2 :: a1 :: a0 :: rest) pc P := by
  obtain ⟨r, g1, σ', rfl, g2⟩ := h1
  obtain ⟨r2, q1, q2⟩ := h σ' g2
  exact ⟨r2, g_ca (as := [a0, a1, a2, a3, a4]) (rest := rest) ht rfl rfl hc hr ha g1 q1, q2⟩
theorem h_ci5 {P1 : ae_S → Int32 → Prop} {mi np : Nat} {rc : Option Nat} {hs : List (Nat × Nat × Nat)} {a0 a1 a2 a3 a4 : Value} {rest : List Value} (ht : ae_tab (at0 mid) pc = some (.inr (.inr (.inl (mi, 5, np, rc, hs))))) (hc : ae_cat rest ≤ 8) (hr : ae_rcv σ rc [a0, a1, a2, a3, a4] = true) (ha : ([a0, a1, a2, a3, a4] : List Value).all (fun v => v.category == 1) = true) (h1 : hE ra d mi [a0, a1, a2, a3, a4] σ (pI P1)) (h : ∀ σ' x, P1 σ' x → hG ra d mid σ' L (.int x :: rest) np P) : hG ra d mid σ L (a4 :: a3 :: a2 :: a1 :: a0 :: rest) pc P := by
  obtain ⟨r, g1, σ', x, rfl, g2⟩ := h1
  obtain ⟨r2, q1, q2⟩ := h σ' x g2
  exact ⟨r2, g_ca (as := [a0, a1, a2, a3, a4]) (rest := rest) ht rfl rfl hc hr ha g1 q1, q2⟩
theorem h_cr5 {P1 : ae_S → Option Nat → Prop} {mi np : Nat} {rc : Option Nat} {hs : List (Nat × Nat × Nat)} {a0 a1 a2 a3 a4 : Value} {rest : List Value} (ht : ae_tab (at0 mid) pc = some (.inr (.inr (.inl (mi, 5, np, rc, hs))))) (hc : ae_cat rest ≤ 8) (hr : ae_rcv σ rc [a0, a1, a2, a3, a4] = true) (ha : ([a0, a1, a2, a3, a4] : List Value).all (fun v => v.category == 1) = true) (h1 : hE ra d mi [a0, a1, a2, a3, a4] σ (pR P1)) (h : ∀ σ' x, P1 σ' x → hG ra d mid σ' L (va_rf x :: rest) np P) : hG ra d mid σ L (a4 :: a3 :: a2 :: a1 :: a0 :: rest) pc P := by
  obtain ⟨r, g1, σ', x, rfl, g2⟩ := h1
  obtain ⟨r2, q1, q2⟩ := h σ' x g2
  exact ⟨r2, g_ca (as := [a0, a1, a2, a3, a4]) (rest := rest) ht rfl rfl hc hr ha g1 q1, q2⟩
theorem h_cx5 {x hp i : Nat} {P1 : ae_S → Prop} {mi np : Nat} {rc : Option Nat} {hs : List (Nat × Nat × Nat)} {a0 a1 a2 a3 a4 : Value} {rest : List Value} (ht : ae_tab (at0 mid) pc = some (.inr (.inr (.inl (mi, 5, np, rc, hs))))) (hc : ae_cat rest ≤ 8) (hr : ae_rcv σ rc [a0, a1, a2, a3, a4] = true) (ha : ([a0, a1, a2, a3, a4] : List Value).all (fun v => v.category == 1) = true) (h1 : hE ra d mi [a0, a1, a2, a3, a4] σ (pX x P1)) (hf : hs.find? (fun h => h.1 == x) = some (x, hp, i)) (h : ∀ σ', P1 σ' → hG ra d mid σ' (L.set i none) [] hp P) : hG ra d mid σ L (a4 :: a3 :: a2 :: a1 :: a0 :: rest) pc P := by
  obtain ⟨r, g1, σ', rfl, g2⟩ := h1
  obtain ⟨r2, q1, q2⟩ := h σ' g2
  exact ⟨r2, g_cx (as := [a0, a1, a2, a3, a4]) (rest := rest) ht rfl rfl hc hr ha g1 hf q1, q2⟩
theorem h_cv6 {P1 : ae_S → Prop} {mi np : Nat} {rc : Option Nat} {hs : List (Nat × Nat × Nat)} {a0 a1 a2 a3 a4 a5 : Value} {rest : List Value} (ht : ae_tab (at0 mid) pc = some (.inr (.inr (.inl (mi, 6, np, rc, hs))))) (hc : ae_cat rest ≤ 8) (hr : ae_rcv σ rc [a0, a1, a2, a3, a4, a5] = true) (ha : ([a0, a1, a2, a3, a4, a5] : List Value).all (fun v => v.category == 1) = true) (h1 : hE ra d mi [a0, a1, a2, a3, a4, a5] σ (pV P1)) (h : ∀ σ', P1 σ' → hG ra d mid σ' L rest np P) : hG ra d mid σ L (a5 :: a4 :: a3 :: a2 :: a1 :: a0 :: rest) pc P := by
  obtain ⟨r, g1, σ', rfl, g2⟩ := h1
  obtain ⟨r2, q1, q2⟩ := h σ' g2
  exact ⟨r2, g_ca (as := [a0, a1, a2, a3, a4, a5]) (rest := rest) ht rfl rfl hc hr ha g1 q1, q2⟩
theorem h_ci6 {P1 : ae_S → Int32 → Prop} {mi np : Nat} {rc : Option Nat} {hs : List (Nat × Nat × Nat)} {a0 a1 a2 a3 a4 a5 : Value} {rest : List Value} (ht : ae_tab (at0 mid) pc = some (.inr (.inr (.inl (mi, 6, np, rc, hs))))) (hc : ae_cat rest ≤ 8) (hr : ae_rcv σ rc [a0, a1, a2, a3, a4, a5] = true) (ha : ([a0, a1, a2, a3, a4, a5] : List Value).all (fun v => v.category == 1) = true) (h1 : hE ra d mi [a0, a1, a2, a3, a4, a5] σ (pI P1)) (h : ∀ σ' x, P1 σ' x → hG ra d mid σ' L (.int x :: rest) np P) : hG ra d mid σ L (a5 :: a4 :: a3 :: a2 :: a1 :: a0 :: rest) pc P := by
  obtain ⟨r, g1, σ', x, rfl, g2⟩ := h1
  obtain ⟨r2, q1, q2⟩ := h σ' x g2
  exact ⟨r2, g_ca (as := [a0, a1, a2, a3, a4, a5]) (rest := rest) ht rfl rfl hc hr ha g1 q1, q2⟩
theorem h_cr6 {P1 : ae_S → Option Nat → Prop} {mi np : Nat} {rc : Option Nat} {hs : List (Nat × Nat × Nat)} {a0 a1 a2 a3 a4 a5 : Value} {rest : List Value} (ht : ae_tab (at0 mid) pc = some (.inr (.inr (.inl (mi, 6, np, rc, hs))))) (hc : ae_cat rest ≤ 8) (hr : ae_rcv σ rc [a0, a1, a2, a3, a4, a5] = true) (ha : ([a0, a1, a2, a3, a4, a5] : List Value).all (fun v => v.category == 1) = true) (h1 : hE ra d mi [a0, a1, a2, a3, a4, a5] σ (pR P1)) (h : ∀ σ' x, P1 σ' x → hG ra d mid σ' L (va_rf x :: rest) np P) : hG ra d mid σ L (a5 :: a4 :: a3 :: a2 :: a1 :: a0 :: rest) pc P := by
  obtain ⟨r, g1, σ', x, rfl, g2⟩ := h1
  obtain ⟨r2, q1, q2⟩ := h σ' x g2
  exact ⟨r2, g_ca (as := [a0, a1, a2, a3, a4, a5]) (rest := rest) ht rfl rfl hc hr ha g1 q1, q2⟩
theorem h_cx6 {x hp i : Nat} {P1 : ae_S → Prop} {mi np : Nat} {rc : Option Nat} {hs : List (Nat × Nat × Nat)} {a0 a1 a2 a3 a4 a5 : Value} {rest : List Value} (ht : ae_tab (at0 mid) pc = some (.inr (.inr (.inl (mi, 6, np, rc, hs))))) (hc : ae_cat rest ≤ 8) (hr : ae_rcv σ rc [a0, a1, a2, a3, a4, a5] = true) (ha : ([a0, a1, a2, a3, a4, a5] : List Value).all (fun v => v.category == 1) = true) (h1 : hE ra d mi [a0, a1, a2, a3, a4, a5] σ (pX x P1)) (hf : hs.find? (fun h => h.1 == x) = some (x, hp, i)) (h : ∀ σ', P1 σ' → hG ra d mid σ' (L.set i none) [] hp P) : hG ra d mid σ L (a5 :: a4 :: a3 :: a2 :: a1 :: a0 :: rest) pc P := by
  obtain ⟨r, g1, σ', rfl, g2⟩ := h1
  obtain ⟨r2, q1, q2⟩ := h σ' g2
  exact ⟨r2, g_cx (as := [a0, a1, a2, a3, a4, a5]) (rest := rest) ht rfl rfl hc hr ha g1 hf q1, q2⟩
theorem h_cv7 {P1 : ae_S → Prop} {mi np : Nat} {rc : Option Nat} {hs : List (Nat × Nat × Nat)} {a0 a1 a2 a3 a4 a5 a6 : Value} {rest : List Value} (ht : ae_tab (at0 mid) pc = some (.inr (.inr (.inl (mi, 7, np, rc, hs))))) (hc : ae_cat rest ≤ 8) (hr : ae_rcv σ rc [a0, a1, a2, a3, a4, a5, a6] = true) (ha : ([a0, a1, a2, a3, a4, a5, a6] : List Value).all (fun v => v.category == 1) = true) (h1 : hE ra d mi [a0, a1, a2, a3, a4, a5, a6] σ (pV P1)) (h : ∀ σ', P1 σ' → hG ra d mid σ' L rest np P) : hG ra d mid σ L (a6 :: a5 :: a4 :: a3 :: a2 :: a1 :: a0 :: rest) pc P := by
  obtain ⟨r, g1, σ', rfl, g2⟩ := h1
  obtain ⟨r2, q1, q2⟩ := h σ' g2
  exact ⟨r2, g_ca (as := [a0, a1, a2, a3, a4, a5, a6]) (rest := rest) ht rfl rfl hc hr ha g1 q1, q2⟩
theorem h_ci7 {P1 : ae_S → Int32 → Prop} {mi np : Nat} {rc : Option Nat} {hs : List (Nat × Nat × Nat)} {a0 a1 a2 a3 a4 a5 a6 : Value} {rest : List Value} (ht : ae_tab (at0 mid) pc = some (.inr (.inr (.inl (mi, 7, np, rc, hs))))) (hc : ae_cat rest ≤ 8) (hr : ae_rcv σ rc [a0, a1, a2, a3, a4, a5, a6] = true) (ha : ([a0, a1, a2, a3, a4, a5, a6] : List Value).all (fun v => v.category == 1) = true) (h1 : hE ra d mi [a0, a1, a2, a3, a4, a5, a6] σ (pI P1)) (h : ∀ σ' x, P1 σ' x → hG ra d mid σ' L (.int x :: rest) np P) : hG ra d mid σ L (a6 :: a5 :: a4 :: a3 :: a2 :: a1 :: a0 :: rest) pc P := by
  obtain ⟨r, g1, σ', x, rfl, g2⟩ := h1
  obtain ⟨r2, q1, q2⟩ := h σ' x g2
  exact ⟨r2, g_ca (as := [a0, a1, a2, a3, a4, a5, a6]) (rest := rest) ht rfl rfl hc hr ha g1 q1, q2⟩
theorem h_cr7 {P1 : ae_S → Option Nat → Prop} {mi np : Nat} {rc : Option Nat} {hs : List (Nat × Nat × Nat)} {a0 a1 a2 a3 a4 a5 a6 : Value} {rest : List Value} (ht : ae_tab (at0 mid) pc = some (.inr (.inr (.inl (mi, 7, np, rc, hs))))) (hc : ae_cat rest ≤ 8) (hr : ae_rcv σ rc [a0, a1, a2, a3, a4, a5, a6] = true) (ha : ([a0, a1, a2, a3, a4, a5, a6] : List Value).all (fun v => v.category == 1) = true) (h1 : hE ra d mi [a0, a1, a2, a3, a4, a5, a6] σ (pR P1)) (h : ∀ σ' x, P1 σ' x → hG ra d mid σ' L (va_rf x :: rest) np P) : hG ra d mid σ L (a6 :: a5 :: a4 :: a3 :: a2 :: a1 :: a0 :: rest) pc P := by
  obtain ⟨r, g1, σ', x, rfl, g2⟩ := h1
  obtain ⟨r2, q1, q2⟩ := h σ' x g2
  exact ⟨r2, g_ca (as := [a0, a1, a2, a3, a4, a5, a6]) (rest := rest) ht rfl rfl hc hr ha g1 q1, q2⟩
theorem h_cx7 {x hp i : Nat} {P1 : ae_S → Prop} {mi np : Nat} {rc : Option Nat} {hs : List (Nat × Nat × Nat)} {a0 a1 a2 a3 a4 a5 a6 : Value} {rest : List Value} (ht : ae_tab (at0 mid) pc = some (.inr (.inr (.inl (mi, 7, np, rc, hs))))) (hc : ae_cat rest ≤ 8) (hr : ae_rcv σ rc [a0, a1, a2, a3, a4, a5, a6] = true) (ha : ([a0, a1, a2, a3, a4, a5, a6] : List Value).all (fun v => v.category == 1) = true) (h1 : hE ra d mi [a0, a1, a2, a3, a4, a5, a6] σ (pX x P1)) (hf : hs.find? (fun h => h.1 == x) = some (x, hp, i)) (h : ∀ σ', P1 σ' → hG ra d mid σ' (L.set i none) [] hp P) : hG ra d mid σ L (a6 :: a5 :: a4 :: a3 :: a2 :: a1 :: a0 :: rest) pc P := by
  obtain ⟨r, g1, σ', rfl, g2⟩ := h1
  obtain ⟨r2, q1, q2⟩ := h σ' g2
  exact ⟨r2, g_cx (as := [a0, a1, a2, a3, a4, a5, a6]) (rest := rest) ht rfl rfl hc hr ha g1 hf q1, q2⟩
end WP
section SP1
variable {ra : ae_R} {d : Nat} {σ : ae_S}
theorem s_27 (x : Int32) : hE ra (d + 1) 27 [.int x] σ (pI (fun σ' b => σ' = σ ∧ ((b = 1 ∧ ¬ x < 0 ∧ ¬ 2 ≤ x) ∨ (b = 0 ∧ ¬ (¬ x < 0 ∧ ¬ 2 ≤ x))))) := by
  refine h_in rfl rfl (Nat.le_of_ble_eq_true rfl) ?_
  refine h_st rfl rfl ?_
  refine h_st rfl rfl ?_
  refine h_br (fun h1 => ?_) (fun h1 => ?_)
  · refine h_st rfl rfl ?_
    exact h_rt rfl rfl (⟨_, _, rfl, rfl, Or.inr ⟨rfl, fun z => z.1 h1⟩⟩)
  · refine h_st rfl rfl ?_
    refine h_st rfl rfl ?_
    refine h_st rfl rfl ?_
    refine h_br (fun h2 => ?_) (fun h2 => ?_)
    · refine h_st rfl rfl ?_
      exact h_rt rfl rfl (⟨_, _, rfl, rfl, Or.inr ⟨rfl, fun z => z.2 h2⟩⟩)
    · refine h_st rfl rfl ?_
      refine h_st rfl rfl ?_
      exact h_rt rfl rfl (⟨_, _, rfl, rfl, Or.inl ⟨rfl, h1, h2⟩⟩)
theorem s_38 (x : Int32) : hE ra (d + 1) 38 [.int x] σ (pI (fun σ' b => σ' = σ ∧ ((b = 1 ∧ ¬ x < 0 ∧ ¬ 8 ≤ x) ∨ (b = 0 ∧ ¬ (¬ x < 0 ∧ ¬ 8 ≤ x))))) := by
  refine h_in rfl rfl (Nat.le_of_ble_eq_true rfl) ?_
  refine h_st rfl rfl ?_
  refine h_st rfl rfl ?_
  refine h_br (fun h1 => ?_) (fun h1 => ?_)
  · refine h_st rfl rfl ?_
    exact h_rt rfl rfl (⟨_, _, rfl, rfl, Or.inr ⟨rfl, fun z => z.1 h1⟩⟩)
  · refine h_st rfl rfl ?_
    refine h_st rfl rfl ?_
    refine h_st rfl rfl ?_
    refine h_br (fun h2 => ?_) (fun h2 => ?_)
    · refine h_st rfl rfl ?_
      exact h_rt rfl rfl (⟨_, _, rfl, rfl, Or.inr ⟨rfl, fun z => z.2 h2⟩⟩)
    · refine h_st rfl rfl ?_
      refine h_st rfl rfl ?_
      exact h_rt rfl rfl (⟨_, _, rfl, rfl, Or.inl ⟨rfl, h1, h2⟩⟩)
theorem s_40 (x : Int32) : hE ra (d + 1) 40 [.int x] σ (pI (fun σ' b => σ' = σ ∧ ((b = 1 ∧ ¬ x < 0 ∧ ¬ 4 ≤ x) ∨ (b = 0 ∧ ¬ (¬ x < 0 ∧ ¬ 4 ≤ x))))) := by
  refine h_in rfl rfl (Nat.le_of_ble_eq_true rfl) ?_
  refine h_st rfl rfl ?_
  refine h_st rfl rfl ?_
  refine h_br (fun h1 => ?_) (fun h1 => ?_)
  · refine h_st rfl rfl ?_
    exact h_rt rfl rfl (⟨_, _, rfl, rfl, Or.inr ⟨rfl, fun z => z.1 h1⟩⟩)
  · refine h_st rfl rfl ?_
    refine h_st rfl rfl ?_
    refine h_st rfl rfl ?_
    refine h_br (fun h2 => ?_) (fun h2 => ?_)
    · refine h_st rfl rfl ?_
      exact h_rt rfl rfl (⟨_, _, rfl, rfl, Or.inr ⟨rfl, fun z => z.2 h2⟩⟩)
    · refine h_st rfl rfl ?_
      refine h_st rfl rfl ?_
      exact h_rt rfl rfl (⟨_, _, rfl, rfl, Or.inl ⟨rfl, h1, h2⟩⟩)
theorem s_81 (t s : Int32) : hE ra (d + 1) 81 [.int t, .int s] σ (pI (fun σ' b => σ' = σ ∧ ((b = 1 ∧ ¬ t ≤ 0 ∧ ¬ 16 ≤ t ∧ ¬ ¬ (t >>> (s &&& 31)) &&& 1 = 0) ∨ (b = 0 ∧ ¬ (¬ t ≤ 0 ∧ ¬ 16 ≤ t ∧ ¬ ¬ (t >>> (s &&& 31)) &&& 1 = 0))))) := by
  refine h_in rfl rfl (Nat.le_of_ble_eq_true rfl) ?_
  refine h_st rfl rfl ?_
  refine h_st rfl rfl ?_
  refine h_br (fun h1 => ?_) (fun h1 => ?_)
  · refine h_st rfl rfl ?_
    exact h_rt rfl rfl (⟨_, _, rfl, rfl, Or.inr ⟨rfl, fun z => z.1 h1⟩⟩)
  · refine h_st rfl rfl ?_
    refine h_st rfl rfl ?_
    refine h_st rfl rfl ?_
    refine h_br (fun h2 => ?_) (fun h2 => ?_)
    · refine h_st rfl rfl ?_
      exact h_rt rfl rfl (⟨_, _, rfl, rfl, Or.inr ⟨rfl, fun z => z.2.1 h2⟩⟩)
    · refine h_st rfl rfl ?_
      refine h_st rfl rfl ?_
      refine h_st rfl rfl ?_
      refine h_st rfl rfl ?_
      refine h_st rfl rfl ?_
      refine h_st rfl rfl ?_
      refine h_br (fun h3 => ?_) (fun h3 => ?_)
      · refine h_st rfl rfl ?_
        exact h_rt rfl rfl (⟨_, _, rfl, rfl, Or.inr ⟨rfl, fun z => z.2.2 h3⟩⟩)
      · refine h_st rfl rfl ?_
        refine h_st rfl rfl ?_
        exact h_rt rfl rfl (⟨_, _, rfl, rfl, Or.inl ⟨rfl, h1, h2, h3⟩⟩)
theorem s_82 (f : Int32) : hE ra (d + 1) 82 [.int f] σ (pI (fun σ' b => σ' = σ ∧ ((b = 1 ∧ ¬ f >>> ((2 : Int32) &&& 31) < 1 ∧ ¬ 1000 < f >>> ((2 : Int32) &&& 31)) ∨ (b = 0 ∧ ¬ (¬ f >>> ((2 : Int32) &&& 31) < 1 ∧ ¬ 1000 < f >>> ((2 : Int32) &&& 31)))))) := by
  refine h_in rfl rfl (Nat.le_of_ble_eq_true rfl) ?_
  refine h_st rfl rfl ?_
  refine h_st rfl rfl ?_
  refine h_st rfl rfl ?_
  refine h_st rfl rfl ?_
  refine h_st rfl rfl ?_
  refine h_br (fun h1 => ?_) (fun h1 => ?_)
  · refine h_st rfl rfl ?_
    exact h_rt rfl rfl (⟨_, _, rfl, rfl, Or.inr ⟨rfl, fun z => z.1 h1⟩⟩)
  · refine h_st rfl rfl ?_
    refine h_st rfl rfl ?_
    refine h_st rfl rfl ?_
    refine h_st rfl rfl ?_
    refine h_st rfl rfl ?_
    refine h_br (fun h2 => ?_) (fun h2 => ?_)
    · refine h_st rfl rfl ?_
      exact h_rt rfl rfl (⟨_, _, rfl, rfl, Or.inr ⟨rfl, fun z => z.2 h2⟩⟩)
    · refine h_st rfl rfl ?_
      refine h_st rfl rfl ?_
      exact h_rt rfl rfl (⟨_, _, rfl, rfl, Or.inl ⟨rfl, h1, h2⟩⟩)
end SP1
