section ENG
variable {ra : ae_R} {d mid : Nat} {σ σ' : ae_S} {L L' : ae_Ls} {k k' : List Value} {pc pc' : Nat} {r : ae_S × ae_O}
/-- a method, called at σ, ends with r, whatever fuel it has beyond some number -/
def gE (ra : ae_R) (d mid : Nat) (args : List Value) (σ : ae_S) (r : ae_S × ae_O) : Prop := ∃ N, ∀ m, N ≤ m → ae_ev am at0 ra d m mid args σ = some r
/-- a method at a point of its code ends with r -/
def gG (ra : ae_R) (d mid : Nat) (σ : ae_S) (L : ae_Ls) (k : List Value) (pc : Nat) (r : ae_S × ae_O) : Prop := ∃ N, ∀ n m, N ≤ n → N ≤ m → ae_run ra (at0 mid) (ae_ev am at0 ra d m) (decide (5 ≤ d)) n σ L k pc = some r
theorem g_in {args : List Value} {nL : Nat} {q : ae_Q4} (hq : am mid = q) (hn : q.2.2.1 = nL) (hl : args.length ≤ nL) (h : gG ra d mid σ (ae_ent args nL) [] 0 r) : gE ra (d + 1) mid args σ r := by
  subst hq
  subst hn
  obtain ⟨N, h⟩ := h
  refine ⟨N, fun m hm => ?_⟩
  show (if args.length ≤ (am mid).2.2.1 then _ else none) = some r
  rw [if_pos hl]
  exact h m m hm hm
theorem g_st {f : ae_Op} (ht : ae_tab (at0 mid) pc = some (.inl f)) (hf : f ra σ L k = some (σ', L', k', pc')) (h : gG ra d mid σ' L' k' pc' r) : gG ra d mid σ L k pc r := by
  obtain ⟨N, h⟩ := h
  refine ⟨N + 1, fun n m hn hm => ?_⟩
  obtain ⟨n', rfl⟩ : ∃ n', n = n' + 1 := ⟨n - 1, by omega⟩
  unfold ae_run
  simp only [ht, hf]
  exact h n' m (by omega) (by omega)
theorem g_rv (ht : ae_tab (at0 mid) pc = some (.inr (.inl none))) : gG ra d mid σ L [] pc (σ, .inl none) := by
  refine ⟨1, fun n m hn hm => ?_⟩
  obtain ⟨n', rfl⟩ : ∃ n', n = n' + 1 := ⟨n - 1, by omega⟩
  unfold ae_run
  simp only [ht]
theorem g_rt {ok : Value → Bool} {v : Value} (ht : ae_tab (at0 mid) pc = some (.inr (.inl (some ok)))) (hv : ok v = true) : gG ra d mid σ L [v] pc (σ, .inl (some v)) := by
  refine ⟨1, fun n m hn hm => ?_⟩
  obtain ⟨n', rfl⟩ : ∃ n', n = n' + 1 := ⟨n - 1, by omega⟩
  unfold ae_run
  simp only [ht, hv, if_true]
theorem g_ca {mi na np : Nat} {rc : Option Nat} {hs : List (Nat × Nat × Nat)} {as rest : List Value} {v : Option Value} (ht : ae_tab (at0 mid) pc = some (.inr (.inr (.inl (mi, na, np, rc, hs))))) (hk : k = as.reverse ++ rest) (hn : as.length = na) (hc : ae_cat rest ≤ 8) (hr : ae_rcv σ rc as = true) (ha : as.all (fun v => v.category == 1) = true)
    (hE : gE ra d mi as σ (σ', .inl v)) (h : gG ra d mid σ' L (v.toList ++ rest) np r) : gG ra d mid σ L k pc r := by
  obtain ⟨N1, h1⟩ := hE
  obtain ⟨N2, h2⟩ := h
  subst hk
  refine ⟨N1 + N2 + 1, fun n m hn2 hm => ?_⟩
  obtain ⟨n', rfl⟩ : ∃ n', n = n' + 1 := ⟨n - 1, by omega⟩
  have t1 : (as.reverse ++ rest).take na = as.reverse := by rw [← hn]; simp
  have t2 : (as.reverse ++ rest).drop na = rest := by rw [← hn]; simp
  have t3 : as.reverse.all (fun v => v.category == 1) = true := by rw [List.all_reverse]; exact ha
  unfold ae_run
  simp only [ht, t1, t2, List.reverse_reverse]
  rw [if_pos ⟨by simp; omega, hc, hr, t3⟩, h1 m (by omega)]
  exact h2 n' m (by omega) (by omega)
theorem g_cx {mi na np hp i x : Nat} {rc : Option Nat} {hs : List (Nat × Nat × Nat)} {as rest : List Value} (ht : ae_tab (at0 mid) pc = some (.inr (.inr (.inl (mi, na, np, rc, hs))))) (hk : k = as.reverse ++ rest) (hn : as.length = na) (hc : ae_cat rest ≤ 8) (hr : ae_rcv σ rc as = true) (ha : as.all (fun v => v.category == 1) = true)
    (hE : gE ra d mi as σ (σ', .inr x)) (hf : hs.find? (fun h => h.1 == x) = some (x, hp, i)) (h : gG ra d mid σ' (L.set i none) [] hp r) : gG ra d mid σ L k pc r := by
  obtain ⟨N1, h1⟩ := hE
  obtain ⟨N2, h2⟩ := h
  subst hk
  refine ⟨N1 + N2 + 1, fun n m hn2 hm => ?_⟩
  obtain ⟨n', rfl⟩ : ∃ n', n = n' + 1 := ⟨n - 1, by omega⟩
  have t1 : (as.reverse ++ rest).take na = as.reverse := by rw [← hn]; simp
  have t2 : (as.reverse ++ rest).drop na = rest := by rw [← hn]; simp
  have t3 : as.reverse.all (fun v => v.category == 1) = true := by rw [List.all_reverse]; exact ha
  unfold ae_run
  simp only [ht, t1, t2, List.reverse_reverse]
  rw [if_pos ⟨by simp; omega, hc, hr, t3⟩, h1 m (by omega)]
  simp only [hf]
  exact h2 n' m (by omega) (by omega)
theorem g_th {x c1 c2 : Nat} (ht : ae_tab (at0 mid) pc = some (.inr (.inr (.inr (x, c1, c2))))) (hd : 5 ≤ d) (hk : ae_cat k ≤ 8) : gG ra d mid σ L k pc (((σ.1.1 + c1, σ.1.2 + c2), σ.2), .inr x) := by
  refine ⟨1, fun n m hn hm => ?_⟩
  obtain ⟨n', rfl⟩ : ∃ n', n = n' + 1 := ⟨n - 1, by omega⟩
  unfold ae_run
  simp only [ht]
  rw [if_pos ⟨decide_eq_true hd, hk⟩]
/-- a branch -/
theorem g_if {c : Bool} {a b : Nat} (h1 : c = true → gG ra d mid σ L k a r) (h2 : c = false → gG ra d mid σ L k b r) : gG ra d mid σ L k (if c = true then a else b) r := by
  cases c
  · exact h2 rfl
  · exact h1 rfl
end ENG
section ENH
variable {ra : ae_R} {σ : ae_S} {L : ae_Ls} {k : List Value} {np p q : Nat}
theorem e_get {ci kk : Nat} {fs : List Value} {v : Value} (h : σ.2[p]? = some (.inr (ci, fs))) (hv : fs[kk]? = some v) : o_get ci kk np ra σ L (.ref p :: k) = some (σ, L, v :: k, np) := by
  simp [o_get, h, hv]
theorem e_put {ci kk : Nat} {ok : Value → Bool} {fs : List Value} {v : Value} (h : σ.2[p]? = some (.inr (ci, fs))) (hv : ok v = true) (hl : kk < fs.length) : o_put ci kk ok np ra σ L (v :: .ref p :: k) = some ((σ.1, σ.2.set p (.inr (ci, fs.set kk v))), L, k, np) := by
  simp [o_put, h, hv, hl]
theorem e_ia {n : Nat} {f : Nat → Int32} {i : Int32} (h : σ.2[p]? = some (.inl (0, n, .inl f))) (hi : ¬ (i < 0 ∨ n ≤ i.toNatClampNeg)) : o_ia np ra σ L (.int i :: .ref p :: k) = some (σ, L, .int (f i.toNatClampNeg) :: k, np) := by
  simp only [o_ia, h]
  rw [if_pos ⟨by first | trivial | rfl, hi⟩]
theorem e_ro {i : Int32} (hq : q < 4) (hi : ¬ (i < 0 ∨ (ra q).1 ≤ i.toNatClampNeg)) : o_ia np ra σ L (.int i :: .retAddr q :: k) = some (σ, L, .int ((ra q).2 i.toNatClampNeg) :: k, np) := by
  simp only [o_ia]
  rw [if_pos ⟨hq, hi⟩]
theorem e_ba {t n : Nat} {f : Nat → Int32} {i : Int32} (h : σ.2[p]? = some (.inl (t, n, .inl f))) (ht : t = 1 ∨ t = 2) (hi : ¬ (i < 0 ∨ n ≤ i.toNatClampNeg)) : o_ba np ra σ L (.int i :: .ref p :: k) = some (σ, L, .int (f i.toNatClampNeg) :: k, np) := by
  simp only [o_ba, h]
  rw [if_pos ⟨ht, hi⟩]
theorem e_aa {t n : Nat} {f : Nat → Option Nat} {i : Int32} (h : σ.2[p]? = some (.inl (t, n, .inr (.inr (.inr (.inr f)))))) (ht : 4 ≤ t ∧ t < 10) (hi : ¬ (i < 0 ∨ n ≤ i.toNatClampNeg)) : o_aa np ra σ L (.int i :: .ref p :: k) = some (σ, L, va_rf (f i.toNatClampNeg) :: k, np) := by
  simp only [o_aa, h]
  rw [if_pos ⟨ht, hi⟩]
theorem e_ias {n : Nat} {f : Nat → Int32} {i x : Int32} (h : σ.2[p]? = some (.inl (0, n, .inl f))) (hi : ¬ (i < 0 ∨ n ≤ i.toNatClampNeg)) : o_ias np ra σ L (.int x :: .int i :: .ref p :: k) = some ((σ.1, σ.2.set p (.inl (0, n, .inl (upd f i.toNatClampNeg x)))), L, k, np) := by
  simp only [o_ias, h]
  rw [if_pos ⟨by first | trivial | rfl, hi⟩]
theorem e_bas1 {n : Nat} {f : Nat → Int32} {i x : Int32} (h : σ.2[p]? = some (.inl (1, n, .inl f))) (hi : ¬ (i < 0 ∨ n ≤ i.toNatClampNeg)) : o_bas np ra σ L (.int x :: .int i :: .ref p :: k) = some ((σ.1, σ.2.set p (.inl (1, n, .inl (upd f i.toNatClampNeg (vp_nar .byte x))))), L, k, np) := by
  simp only [o_bas, h]
  rw [if_pos hi]
  first | done | rw [if_pos rfl] | simp
theorem e_bas2 {n : Nat} {f : Nat → Int32} {i x : Int32} (h : σ.2[p]? = some (.inl (2, n, .inl f))) (hi : ¬ (i < 0 ∨ n ≤ i.toNatClampNeg)) : o_bas np ra σ L (.int x :: .int i :: .ref p :: k) = some ((σ.1, σ.2.set p (.inl (2, n, .inl (upd f i.toNatClampNeg (vp_nar .boolean x))))), L, k, np) := by
  simp only [o_bas, h]
  rw [if_pos hi]
  first | done | simp
theorem e_aas {t n ci : Nat} {vs : List Value} {f : Nat → Option Nat} {i : Int32} (h : σ.2[p]? = some (.inl (t, n, .inr (.inr (.inr (.inr f)))))) (hq : σ.2[q]? = some (.inr (ci, vs))) (ht : 4 ≤ t ∧ t < 10 ∧ ci = ae_ec t) (hi : ¬ (i < 0 ∨ n ≤ i.toNatClampNeg)) : o_aas np ra σ L (.ref q :: .int i :: .ref p :: k) = some ((σ.1, σ.2.set p (.inl (t, n, .inr (.inr (.inr (.inr (va_up f i.toNatClampNeg (some q)))))))), L, k, np) := by
  simp only [o_aas, h, hq]
  rw [if_pos ⟨ht, hi⟩]
theorem e_len {t : Nat} {x : vp_A} (h : σ.2[p]? = some (.inl (t, x))) (ht : t < 10) : o_len np ra σ L (.ref p :: k) = some (σ, L, .int (Int32.ofNat x.1) :: k, np) := by
  simp only [o_len, h]
  rw [if_pos ht]
theorem e_lenR (hq : q < 4) : o_len np ra σ L (.retAddr q :: k) = some (σ, L, .int (Int32.ofNat (ra q).1) :: k, np) := by
  simp only [o_len]
  rw [if_pos hq]
theorem e_na {t : Nat} {i : Int32} (hi : ¬ i < 0 ∧ i.toNatClampNeg * 8 ≤ 536870912) : o_na t np ra σ L (.int i :: k) = some (((σ.1.1 + 1, σ.1.2 + i.toNatClampNeg), σ.2 ++ [.inl (t, ae_zero t i.toNatClampNeg)]), L, .ref σ.2.length :: k, np) := by
  simp only [o_na]
  rw [if_pos hi]
theorem e_nq {t : Nat} {i : Int32} (hi : ¬ i < 0 ∧ i.toNatClampNeg * 8 ≤ 536870912) : o_nq t np ra σ L (.int i :: k) = some (((σ.1.1 + 1, σ.1.2 + i.toNatClampNeg), σ.2 ++ [.inl (t, i.toNatClampNeg, .inr (.inr (.inr (.inr (fun _ => none)))))]), L, .ref σ.2.length :: k, np) := by
  simp only [o_nq]
  rw [if_pos hi]
theorem e_dv {f : Int32 → Int32 → Int32} {x y : Int32} (hy : ¬ y = 0) : o_dv f np ra σ L (.int y :: .int x :: k) = some (σ, L, .int (f x y) :: k, np) := by
  simp only [o_dv]
  rw [if_neg hy]
theorem e_rcv {ci : Nat} {fs as : List Value} (h : σ.2[p]? = some (.inr (ci, fs))) : ae_rcv σ (some ci) (.ref p :: as) = true := by
  simp [ae_rcv, h]
end ENH
