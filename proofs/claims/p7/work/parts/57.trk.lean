section TRK
variable {ra : ae_R} {d mid : Nat} {σ0 σ : ae_S} {e : Nat} {c : Nat × Nat} {N : Nat} {T : List (Nat × ae_C)} {L : ae_Ls} {k : List Value} {pc np p : Nat} {P : ae_S × ae_O → Prop}
/-- since σ0: so many cells and slots are made, the store has length N, the cells of T are known, and of the old ones only that at e may have changed -/
def St (σ0 : ae_S) (e : Nat) (σ : ae_S) (c : Nat × Nat) (N : Nat) (T : List (Nat × ae_C)) : Prop :=
  σ.1 = c ∧ σ.2.length = N ∧ σ0.2.length ≤ N ∧ (∀ q ∈ T, σ.2[q.1]? = some q.2 ∧ (q.1 = e ∨ σ0.2.length ≤ q.1)) ∧ ∀ q, q < σ0.2.length → q ≠ e → σ.2[q]? = σ0.2[q]?
def apA (p : Nat) : List (Nat × ae_C) → Prop
  | [] => True
  | q :: t => q.1 ≠ p ∧ apA p t
def ap (p : Nat) : List (Nat × ae_C) → Nat → Prop
  | [], _ => True
  | _ :: t, 0 => apA p t
  | q :: t, i + 1 => q.1 ≠ p ∧ ap p t i
theorem apA_mem : ∀ {T : List (Nat × ae_C)} {q : Nat × ae_C}, apA p T → q ∈ T → q.1 ≠ p
  | [], _, _, h => absurd h List.not_mem_nil
  | x :: t, q, h, hq => (List.mem_cons.mp hq).elim (fun z => by rw [z]; exact h.1) (fun z => apA_mem h.2 z)
theorem ap_set : ∀ {T : List (Nat × ae_C)} {i : Nat} {x q : Nat × ae_C}, ap p T i → q ∈ T.set i x → q = x ∨ (q ∈ T ∧ q.1 ≠ p)
  | [], _, _, _, _, h => absurd h List.not_mem_nil
  | y :: t, 0, x, q, h, hq => (List.mem_cons.mp hq).elim Or.inl (fun z => Or.inr ⟨List.mem_cons_of_mem _ z, apA_mem h z⟩)
  | y :: t, i + 1, x, q, h, hq => (List.mem_cons.mp hq).elim (fun z => Or.inr ⟨by rw [z]; exact List.mem_cons_self, by rw [z]; exact h.1⟩) (fun z => (ap_set h.2 z).elim Or.inl (fun z => Or.inr ⟨List.mem_cons_of_mem _ z.1, z.2⟩))
theorem St.at {x : ae_C} (h : St σ0 e σ c N T) (i : Nat) (hi : T[i]? = some (p, x)) : σ.2[p]? = some x := (h.2.2.2.1 _ (List.mem_of_getElem? hi)).1
theorem St.set {x y : ae_C} {i : Nat} (h : St σ0 e σ c N T) (hi : T[i]? = some (p, x)) (hd : ap p T i) : St σ0 e (σ.1, σ.2.set p y) c N (T.set i (p, y)) := by
  have h0 := h.2.2.2.1 _ (List.mem_of_getElem? hi)
  refine ⟨h.1, by simpa using h.2.1, h.2.2.1, fun q hq => ?_, fun q h1 h2 => ?_⟩
  · rcases ap_set hd hq with rfl | ⟨h1, h2⟩
    · exact ⟨st_get h0.1, h0.2⟩
    · obtain ⟨q1, q2⟩ := h.2.2.2.1 q h1
      exact ⟨(st_ne (Ne.symm h2)).trans q1, q2⟩
  · have hne : p ≠ q := by
      rcases h0.2 with z | z
      · exact fun y => h2 (by rw [← y]; exact z)
      · exact fun y => absurd h1 (by rw [← y]; exact Nat.not_lt.mpr z)
    exact (st_ne hne).trans (h.2.2.2.2 q h1 h2)
theorem St.push {x : ae_C} {n : Nat} (h : St σ0 e σ c N T) : St σ0 e ((σ.1.1 + 1, σ.1.2 + n), σ.2 ++ [x]) (c.1 + 1, c.2 + n) (N + 1) (T ++ [(N, x)]) := by
  have hN := h.2.1
  refine ⟨by rw [h.1], by simp [hN], Nat.le_succ_of_le h.2.2.1, fun q hq => ?_, fun q h1 h2 => ?_⟩
  · rcases List.mem_append.mp hq with z | z
    · obtain ⟨q1, q2⟩ := h.2.2.2.1 q z
      exact ⟨(List.getElem?_append_left (List.getElem?_eq_some_iff.mp q1).1).trans q1, q2⟩
    · rw [List.mem_singleton.mp z]
      exact ⟨by rw [← hN]; simp, Or.inr h.2.2.1⟩
  · exact (List.getElem?_append_left (by have := h.2.2.1; omega)).trans (h.2.2.2.2 q h1 h2)
theorem St.sub {T' : List (Nat × ae_C)} (h : St σ0 e σ c N T) (hs : ∀ q ∈ T', q ∈ T) : St σ0 e σ c N T' := ⟨h.1, h.2.1, h.2.2.1, fun q hq => h.2.2.2.1 q (hs q hq), h.2.2.2.2⟩
theorem t_put {ci kk : Nat} {ok : Value → Bool} {fs : List Value} {v : Value} (i : Nat) (ht : ae_tab (at0 mid) pc = some (.inl (o_put ci kk ok np))) (h : St σ0 e σ c N T) (hi : T[i]? = some (p, .inr (ci, fs))) (hd : ap p T i) (hv : ok v = true) (hl : kk < fs.length)
    (hc : ∀ σ', St σ0 e σ' c N (T.set i (p, .inr (ci, fs.set kk v))) → hG ra d mid σ' L k np P) : hG ra d mid σ L (v :: .ref p :: k) pc P := h_st ht (e_put (h.at i hi) hv hl) (hc _ (h.set hi hd))
theorem t_ias {n : Nat} {f : Nat → Int32} {j x : Int32} (i : Nat) (ht : ae_tab (at0 mid) pc = some (.inl (o_ias np))) (h : St σ0 e σ c N T) (hi : T[i]? = some (p, .inl (0, n, .inl f))) (hd : ap p T i) (hj : ¬ (j < 0 ∨ n ≤ j.toNatClampNeg))
    (hc : ∀ σ' f', St σ0 e σ' c N (T.set i (p, .inl (0, n, .inl f'))) → hG ra d mid σ' L k np P) : hG ra d mid σ L (.int x :: .int j :: .ref p :: k) pc P := h_st ht (e_ias (h.at i hi) hj) (hc _ _ (h.set hi hd))
theorem t_aas {t n ci q : Nat} {vs : List Value} {f : Nat → Option Nat} {j : Int32} (i : Nat) (ht : ae_tab (at0 mid) pc = some (.inl (o_aas np))) (h : St σ0 e σ c N T) (hi : T[i]? = some (p, .inl (t, n, .inr (.inr (.inr (.inr f)))))) (hd : ap p T i) (hq : σ.2[q]? = some (.inr (ci, vs))) (htt : 4 ≤ t ∧ t < 10 ∧ ci = ae_ec t) (hj : ¬ (j < 0 ∨ n ≤ j.toNatClampNeg))
    (hc : ∀ σ' f', St σ0 e σ' c N (T.set i (p, .inl (t, n, .inr (.inr (.inr (.inr f')))))) → hG ra d mid σ' L k np P) : hG ra d mid σ L (.ref q :: .int j :: .ref p :: k) pc P := h_st ht (e_aas (h.at i hi) hq htt hj) (hc _ _ (h.set hi hd))
theorem t_new {ci n : Nat} {fs : List Value} (ht : ae_tab (at0 mid) pc = some (.inl (o_new ci n fs np))) (h : St σ0 e σ c N T) (hc : ∀ σ', St σ0 e σ' (c.1 + 1, c.2 + n) (N + 1) (T ++ [(N, .inr (ci, fs))]) → hG ra d mid σ' L (.ref N :: k) np P) : hG ra d mid σ L k pc P := by
  refine h_st ht rfl ?_
  rw [h.2.1]
  exact hc _ h.push
theorem t_na {t : Nat} {j : Int32} (ht : ae_tab (at0 mid) pc = some (.inl (o_na t np))) (h : St σ0 e σ c N T) (hj : ¬ j < 0 ∧ j.toNatClampNeg * 8 ≤ 536870912) (hc : ∀ σ', St σ0 e σ' (c.1 + 1, c.2 + j.toNatClampNeg) (N + 1) (T ++ [(N, .inl (t, ae_zero t j.toNatClampNeg))]) → hG ra d mid σ' L (.ref N :: k) np P) : hG ra d mid σ L (.int j :: k) pc P := by
  refine h_st ht (e_na hj) ?_
  rw [h.2.1]
  exact hc _ h.push
theorem t_nq {t : Nat} {j : Int32} (ht : ae_tab (at0 mid) pc = some (.inl (o_nq t np))) (h : St σ0 e σ c N T) (hj : ¬ j < 0 ∧ j.toNatClampNeg * 8 ≤ 536870912) (hc : ∀ σ', St σ0 e σ' (c.1 + 1, c.2 + j.toNatClampNeg) (N + 1) (T ++ [(N, .inl (t, j.toNatClampNeg, .inr (.inr (.inr (.inr (fun _ => none))))))]) → hG ra d mid σ' L (.ref N :: k) np P) : hG ra d mid σ L (.int j :: k) pc P := by
  refine h_st ht (e_nq hj) ?_
  rw [h.2.1]
  exact hc _ h.push
end TRK
