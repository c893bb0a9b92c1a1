section TY2
theorem ncs {b : Bool} {kd : Nat} (h : kd ≠ 1 ∧ kd ≠ 2 ∧ kd ≠ 3 ∧ kd ≠ 18 ∧ kd ≠ 19) : ¬ Cs b kd := by
  intro z
  rcases z with z | z | z | ⟨_, z | z⟩ <;> omega
theorem ncf {kd : Nat} (h : kd ≠ 2 ∧ kd ≠ 3 ∧ kd ≠ 19) : ¬ Cs false kd := by
  intro z
  rcases z with z | z | z | ⟨z, _⟩
  · omega
  · omega
  · omega
  · cases z
variable {ra : ae_R} {d mid pc np : Nat} {σ σ0 σ2 : ae_S} {K K0 : Nat → Nat} {b : Bool} {s t p : Nat} {L : ae_Ls} {k : List Value} {P : ae_S × ae_O → Prop}
theorem Ex.setN {c c0 : ae_C} {a e : Nat} (h : Ex b (s + a) (t + e) K0 σ0 K σ) (hp : σ.2[p]? = some c0) (hk : K p ≠ 0) (hcs : ¬ Cs b (K p)) (hok : okC K (K p) c) (hw : (wt c).1 + a ≤ (wt c0).1 ∧ (wt c).2 + e ≤ (wt c0).2) : Ex b s t K0 σ0 K (σ.1, σ.2.set p c) := by
  obtain ⟨a1, a2, a3, a4, a5, a6, a7⟩ := h.set hp hk hcs hok ⟨by omega, by omega⟩
  have b6 := h.2.2.2.2.2.1
  have b7 := h.2.2.2.2.2.2
  have w1 := sum_set (fun c => (wt c).1) (c0 := c0) (c := c) hp
  have w2 := sum_set (fun c => (wt c).2) (c0 := c0) (c := c) hp
  refine ⟨a1, a2, a3, a4, a5, ?_, ?_⟩
  · unfold Wt1 at *
    simp only at *
    omega
  · unfold Wt2 at *
    simp only at *
    omega
theorem y_put {ci kk kd : Nat} {ok : Value → Bool} {fs : List Value} {v : Value} (ht : ae_tab (at0 mid) pc = some (.inl (o_put ci kk ok np))) (hx : Ex b s t K0 σ0 K σ) (hp : σ.2[p]? = some (.inr (ci, fs))) (hk : K p = kd) (h0 : kd ≠ 0) (hcs : ¬ Cs b kd) (hv : ok v = true) (hl : kk < fs.length) (hok : okC K kd (.inr (ci, fs.set kk v)))
    (hc : ∀ σ', Ex b s t K0 σ0 K σ' → σ'.2[p]? = some (.inr (ci, fs.set kk v)) → (∀ q, q ≠ p → σ'.2[q]? = σ.2[q]?) → hG ra d mid σ' L k np P) : hG ra d mid σ L (v :: .ref p :: k) pc P := by
  subst hk
  exact h_st ht (e_put hp hv hl) (hc _ (hx.set hp h0 hcs hok ⟨Nat.le_refl _, Nat.le_refl _⟩) (st_get hp) (fun q hq => st_ne (Ne.symm hq)))
theorem y_ias {n kd : Nat} {f : Nat → Int32} {j x : Int32} (ht : ae_tab (at0 mid) pc = some (.inl (o_ias np))) (hx : Ex b s t K0 σ0 K σ) (hp : σ.2[p]? = some (.inl (0, n, .inl f))) (hk : K p = kd) (h0 : kd ≠ 0) (hcs : ¬ Cs b kd) (hj : ¬ (j < 0 ∨ n ≤ j.toNatClampNeg)) (hok : ∀ f', okC K kd (.inl (0, n, .inl f')))
    (hc : ∀ σ', Ex b s t K0 σ0 K σ' → σ'.2[p]? = some (.inl (0, n, .inl (upd f j.toNatClampNeg x))) → (∀ q, q ≠ p → σ'.2[q]? = σ.2[q]?) → hG ra d mid σ' L k np P) : hG ra d mid σ L (.int x :: .int j :: .ref p :: k) pc P := by
  subst hk
  exact h_st ht (e_ias hp hj) (hc _ (hx.set hp h0 hcs (hok _) ⟨Nat.le_refl _, Nat.le_refl _⟩) (st_get hp) (fun q hq => st_ne (Ne.symm hq)))
theorem y_aas {tt n ci q kd : Nat} {vs : List Value} {f : Nat → Option Nat} {j : Int32} (ht : ae_tab (at0 mid) pc = some (.inl (o_aas np))) (hx : Ex b s t K0 σ0 K σ) (hp : σ.2[p]? = some (.inl (tt, rfs n f))) (hq : σ.2[q]? = some (.inr (ci, vs))) (htt : 4 ≤ tt ∧ tt < 10 ∧ ci = ae_ec tt) (hk : K p = kd) (h0 : kd ≠ 0) (hcs : ¬ Cs b kd) (hj : ¬ (j < 0 ∨ n ≤ j.toNatClampNeg)) (hok : okC K kd (.inl (tt, rfs n (va_up f j.toNatClampNeg (some q)))))
    (hc : ∀ σ', Ex b s t K0 σ0 K σ' → σ'.2[p]? = some (.inl (tt, rfs n (va_up f j.toNatClampNeg (some q)))) → (∀ q, q ≠ p → σ'.2[q]? = σ.2[q]?) → hG ra d mid σ' L k np P) : hG ra d mid σ L (.ref q :: .int j :: .ref p :: k) pc P := by
  subst hk
  exact h_st ht (e_aas hp hq htt hj) (hc _ (hx.set hp h0 hcs hok ⟨Nat.mul_le_mul_left _ (nl_up _), Nat.mul_le_mul_left _ (nl_up _)⟩) (st_get hp) (fun q hq => st_ne (Ne.symm hq)))
/-- an empty place is filled: it pays -/
theorem y_aasN {tt n ci q kd a e : Nat} {vs : List Value} {f : Nat → Option Nat} {j : Int32} (ht : ae_tab (at0 mid) pc = some (.inl (o_aas np))) (hx : Ex b (s + a) (t + e) K0 σ0 K σ) (hwk : wk tt = (a, e)) (hp : σ.2[p]? = some (.inl (tt, rfs n f))) (hq : σ.2[q]? = some (.inr (ci, vs))) (htt : 4 ≤ tt ∧ tt < 10 ∧ ci = ae_ec tt) (hk : K p = kd) (h0 : kd ≠ 0) (hcs : ¬ Cs b kd) (hj : ¬ (j < 0 ∨ n ≤ j.toNatClampNeg)) (hf : f j.toNatClampNeg = none) (hok : okC K kd (.inl (tt, rfs n (va_up f j.toNatClampNeg (some q)))))
    (hc : ∀ σ', Ex b s t K0 σ0 K σ' → σ'.2[p]? = some (.inl (tt, rfs n (va_up f j.toNatClampNeg (some q)))) → (∀ q, q ≠ p → σ'.2[q]? = σ.2[q]?) → hG ra d mid σ' L k np P) : hG ra d mid σ L (.ref q :: .int j :: .ref p :: k) pc P := by
  subst hk
  have hn := nl_lt (f := f) (q := q) hf (n := n) (by omega)
  refine h_st ht (e_aas hp hq htt hj) (hc _ (hx.setN hp h0 hcs hok ⟨?_, ?_⟩) (st_get hp) (fun q hq => st_ne (Ne.symm hq)))
  · show (wk tt).1 * nl _ n + a ≤ (wk tt).1 * nl f n
    rw [← hn, hwk, Nat.mul_succ]
    exact Nat.le_refl _
  · show (wk tt).2 * nl _ n + e ≤ (wk tt).2 * nl f n
    rw [← hn, hwk, Nat.mul_succ]
    exact Nat.le_refl _
theorem h_sw {x : Int32} {lo hi : Int} {tgs : List Nat} {df : Nat} (hl : (tgs.length : Int) = hi - lo + 1) (hd : hG ra d mid σ L k df P) (ht : ∀ t ∈ tgs, hG ra d mid σ L k t P) : hG ra d mid σ L k (if x.toInt < lo ∨ hi < x.toInt then df else tgs.getD (x.toInt - lo).toNat 0) P := by
  by_cases h : x.toInt < lo ∨ hi < x.toInt
  · rw [if_pos h]
    exact hd
  · rw [if_neg h]
    have hlt : (x.toInt - lo).toNat < tgs.length := by omega
    rw [List.getD_eq_getElem?_getD, List.getElem?_eq_getElem hlt]
    exact ht _ (List.getElem_mem hlt)
theorem app_two {l l2 : List ae_C} {a e : ae_C} (hl : l2.length = l.length + 2) (ho : ∀ q, q < l.length → l2[q]? = l[q]?) (ha : l2[l.length]? = some a) (he : l2[l.length + 1]? = some e) : l2 = l ++ [a, e] := by
  apply List.ext_getElem?
  intro q
  by_cases h1 : q < l.length
  · rw [ho q h1, List.getElem?_append_left h1]
  · by_cases h2 : q = l.length
    · rw [h2, ha]
      simp
    · by_cases h3 : q = l.length + 1
      · rw [h3, he]
        simp
      · rw [List.getElem?_eq_none (by omega), List.getElem?_eq_none (by simp; omega)]
/-- two new cells get their kinds -/
theorem Ex.two {ka kb c1 c2 : Nat} {ca cb : ae_C} (hx : Ex b s t K0 σ0 K σ) (h1 : σ2.1 = (σ.1.1 + c1, σ.1.2 + c2)) (hl : σ2.2.length = σ.2.length + 2) (hold : ∀ q, q < σ.2.length → σ2.2[q]? = σ.2[q]?) (hf : σ2.2[σ.2.length]? = some ca) (hb : σ2.2[σ.2.length + 1]? = some cb) (wa : wt ca = (0, 0)) (wb : wt cb = (0, 0))
    (oa : ∀ K' : Nat → Nat, K' σ.2.length = ka → K' (σ.2.length + 1) = kb → okC K' ka ca) (ob : ∀ K' : Nat → Nat, K' σ.2.length = ka → K' (σ.2.length + 1) = kb → okC K' kb cb) (ha0 : ka ≠ 0) :
    ∃ K2 : Nat → Nat, K2 σ.2.length = ka ∧ K2 (σ.2.length + 1) = kb ∧ (∀ q, K q ≠ 0 → K2 q = K q) ∧ Ex b (s + c1) (t + c2) K0 σ0 K2 σ2 := by
  obtain ⟨a1, a2, a3, a4, a5, a6, a7⟩ := hx
  have hlt : ∀ q, K q ≠ 0 → q < σ.2.length := fun q hq => a1.lt hq
  have hm : ∀ q, K q ≠ 0 → (if q = σ.2.length then ka else if q = σ.2.length + 1 then kb else K q) = K q := fun q hq => by
    have := hlt q hq
    rw [if_neg (by omega), if_neg (by omega)]
  have e1 : (if σ.2.length = σ.2.length then ka else if σ.2.length = σ.2.length + 1 then kb else K σ.2.length) = ka := if_pos rfl
  have e2 : (if σ.2.length + 1 = σ.2.length then ka else if σ.2.length + 1 = σ.2.length + 1 then kb else K (σ.2.length + 1)) = kb := by
    rw [if_neg (by omega), if_pos rfl]
  have el := app_two hl hold hf hb
  refine ⟨fun q => if q = σ.2.length then ka else if q = σ.2.length + 1 then kb else K q, e1, e2, hm, ?_, by omega, fun q hq => ?_, fun q h2 h3 => ?_, fun q hq => ?_, ?_, ?_⟩
  · intro q hq
    by_cases h2 : q = σ.2.length
    · subst h2
      exact ⟨ca, hf, by show okC _ (if σ.2.length = σ.2.length then ka else _) ca; rw [if_pos rfl]; exact oa _ e1 e2⟩
    · by_cases h3 : q = σ.2.length + 1
      · subst h3
        exact ⟨cb, hb, by show okC _ (if σ.2.length + 1 = σ.2.length then ka else if σ.2.length + 1 = σ.2.length + 1 then kb else _) cb; rw [if_neg (by omega), if_pos rfl]; exact ob _ e1 e2⟩
      · have e3 : (if q = σ.2.length then ka else if q = σ.2.length + 1 then kb else K q) = K q := by rw [if_neg h2, if_neg h3]
        have hq2 : K q ≠ 0 := by rw [← e3]; exact hq
        obtain ⟨c, x1, x2⟩ := a1 q hq2
        refine ⟨c, (hold q (hlt q hq2)).trans x1, ?_⟩
        show okC _ (if q = σ.2.length then ka else if q = σ.2.length + 1 then kb else K q) c
        rw [e3]
        exact x2.mono hm
  · have e := a3 q hq
    exact (hm q (by rw [e]; exact hq)).trans e
  · obtain ⟨x1, x2⟩ := a4 q h2 h3
    have : q < σ.2.length := Nat.lt_of_lt_of_le h2 a2
    refine ⟨?_, (hold q this).trans x2⟩
    show (if q = σ.2.length then ka else if q = σ.2.length + 1 then kb else K q) = 0
    rw [if_neg (by omega), if_neg (by omega)]
    exact x1
  · have e := a3 q hq.ne
    have h2 : K q ≠ 0 := by rw [e]; exact hq.ne
    exact (hold q (hlt q h2)).trans (a5 q hq)
  · unfold Wt1 at *
    rw [el, h1]
    simp only [List.map_append, List.sum_append, List.map_cons, List.map_nil, List.sum_cons, List.sum_nil, wa, wb]
    omega
  · unfold Wt2 at *
    rw [el, h1]
    simp only [List.map_append, List.sum_append, List.map_cons, List.map_nil, List.sum_cons, List.sum_nil, wa, wb]
    omega
variable {pb kf : Nat}
theorem Ty.fr (h : Ty σ K) (hp : K p = 5) : ∃ pb k, FR σ p pb k ∧ K pb = 6 := by
  obtain ⟨q, k, h1, h2, h3⟩ := h.k5 hp
  obtain ⟨f, h4, h5⟩ := h.k6 h3
  exact ⟨q, k, ⟨h1, ⟨h2, fun e => by rw [e, h3] at hp; cases hp⟩, f, h4, h5⟩, h3⟩
theorem map_same {w : ae_C → Nat} {l l2 : List ae_C} (hl : l2.length = l.length) (h : ∀ (q : Nat) (c : ae_C), l[q]? = some c → ∃ c2, l2[q]? = some c2 ∧ w c2 = w c) : l2.map w = l.map w := by
  apply List.ext_getElem?
  intro q
  rw [List.getElem?_map, List.getElem?_map]
  cases e : l[q]? with
  | none =>
    have : l.length ≤ q := List.getElem?_eq_none_iff.mp e
    rw [List.getElem?_eq_none (by omega)]
  | some c =>
    obtain ⟨c2, h1, h2⟩ := h q c e
    rw [h1]
    simp [h2]
/-- a frame's methods move its two cells alone -/
theorem Ex.op (hx : Ex b s t K0 σ0 K σ) (hp : K p = 5) (hq : K pb = 6) (hf0 : FR σ p pb kf) {kf' : Nat} (hf : FR σ2 p pb kf') (ho : Op p pb σ σ2) : Ex b s t K0 σ0 K σ2 := by
  obtain ⟨a1, a2, a3, a4, a5, a6, a7⟩ := hx
  obtain ⟨o1, o2, o3⟩ := ho
  obtain ⟨f1, f2, f, f3, f4⟩ := hf
  obtain ⟨g1, g2, g, g3, g4⟩ := hf0
  have hw : ∀ w : ae_C → Nat, (∀ x, w (.inr x) = 0) → (∀ a n g, w (.inl (a, n, .inl g)) = 0) → σ2.2.map w = σ.2.map w := fun w w1 w2 => map_same o2 (fun q c hc => by
    by_cases e1 : q = p
    · subst e1
      rw [g1] at hc
      cases hc
      exact ⟨_, f1, by rw [w1, w1]⟩
    · by_cases e2 : q = pb
      · subst e2
        rw [g3] at hc
        cases hc
        exact ⟨_, f3, by rw [w2, w2]⟩
      · exact ⟨c, (o3 q e1 e2).trans hc, rfl⟩)
  refine ⟨fun q hq2 => ?_, by omega, a3, fun q h1 h2 => ?_, fun q h1 => ?_, ?_, ?_⟩
  · by_cases e1 : q = p
    · subst e1
      exact ⟨_, f1, by rw [hp]; exact ok_5 ⟨pb, kf', rfl, f2.1, hq⟩⟩
    · by_cases e2 : q = pb
      · subst e2
        exact ⟨_, f3, by rw [hq]; exact ok_6 ⟨f, rfl, f4⟩⟩
      · obtain ⟨c, x1, x2⟩ := a1 q hq2
        exact ⟨c, (o3 q e1 e2).trans x1, x2⟩
  · obtain ⟨x1, x2⟩ := a4 q h1 h2
    refine ⟨x1, (o3 q (fun e => ?_) (fun e => ?_)).trans x2⟩
    · rw [e, hp] at x1
      cases x1
    · rw [e, hq] at x1
      cases x1
  · have e3 := a3 q h1.ne
    refine (o3 q (fun e => ?_) (fun e => ?_)).trans (a5 q h1)
    · rw [← e3, e, hp] at h1
      exact ncs (by decide) h1
    · rw [← e3, e, hq] at h1
      exact ncs (by decide) h1
  · unfold Wt1 at *
    rw [o1, hw (fun c => (wt c).1) (fun _ => rfl) (fun _ _ _ => rfl)]
    exact a6
  · unfold Wt2 at *
    rw [o1, hw (fun c => (wt c).2) (fun _ => rfl) (fun _ _ _ => rfl)]
    exact a7
end TY2
