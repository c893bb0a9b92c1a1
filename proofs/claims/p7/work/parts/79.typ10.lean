section TYA
variable {ra : ae_R} {d : Nat} {σ σ0 σ' : ae_S} {p : Nat} {K K0 : Nat → Nat} {b : Bool} {s t : Nat}
theorem ty_z (h : Ty σ K) (hp : σ.2.length ≤ p) : K p = 0 := Classical.byContradiction (fun z => Nat.lt_irrefl _ (Nat.lt_of_lt_of_le (h.lt z) hp))
theorem app_set {l l2 cs : List ae_C} {c0 : ae_C} (hl : l2.length = l.length + cs.length) (hp : p < l.length) (h0 : l2[p]? = some c0) (ho : ∀ q, q < l.length → q ≠ p → l2[q]? = l[q]?) (hc : ∀ i, i < cs.length → l2[l.length + i]? = cs[i]?) : l2 = l.set p c0 ++ cs := by
  apply List.ext_getElem?
  intro q
  by_cases h1 : q < l.length
  · rw [List.getElem?_append_left (by rw [List.length_set]; exact h1)]
    by_cases h2 : q = p
    · subst h2
      rw [h0, List.getElem?_set_self h1]
    · rw [ho q h1 h2, List.getElem?_set_ne (Ne.symm h2)]
  · rw [List.getElem?_append_right (by rw [List.length_set]; omega), List.length_set]
    by_cases h3 : q - l.length < cs.length
    · rw [← hc _ h3, Nat.add_sub_cancel' (by omega)]
    · rw [List.getElem?_eq_none (by omega), List.getElem?_eq_none (by omega)]
theorem Ex.st {cs : List ae_C} {c00 c0 : ae_C} {a e : Nat} (hx : Ex b s t K0 σ0 K σ) (hlo : σ0.2.length ≤ p) (hK : K p = 0) (hp : σ.2[p]? = some c00) (hl : σ'.2.length = σ.2.length + cs.length) (h0 : σ'.2[p]? = some c0) (hw : wt c0 = wt c00) (ho : ∀ q, q < σ.2.length → q ≠ p → σ'.2[q]? = σ.2[q]?) (hc : ∀ i, i < cs.length → σ'.2[σ.2.length + i]? = cs[i]?) (h1 : σ'.1.1 + (cs.map (fun c => (wt c).1)).sum ≤ σ.1.1 + a) (h2 : σ'.1.2 + (cs.map (fun c => (wt c).2)).sum ≤ σ.1.2 + e) : Ex b (s + a) (t + e) K0 σ0 K σ' := by
  obtain ⟨a1, a2, a3, a4, a5, a6, a7⟩ := hx
  have hlt := (List.getElem?_eq_some_iff.mp hp).1
  have el := app_set hl hlt h0 ho hc
  have w1 := sum_set (fun c => (wt c).1) (c0 := c00) (c := c0) hp
  have w2 := sum_set (fun c => (wt c).2) (c0 := c00) (c := c0) hp
  have hne : ∀ q, K q ≠ 0 → q ≠ p := fun q hq e => hq (by rw [e]; exact hK)
  refine ⟨fun q hq => ?_, by omega, a3, fun q z1 z2 => ?_, fun q hq => ?_, ?_, ?_⟩
  · obtain ⟨c, x1, x2⟩ := a1 q hq
    exact ⟨c, (ho q (a1.lt hq) (hne q hq)).trans x1, x2⟩
  · obtain ⟨x1, x2⟩ := a4 q z1 z2
    exact ⟨x1, (ho q (by omega) (by omega)).trans x2⟩
  · have e := a3 q hq.ne
    have h2 : K q ≠ 0 := by rw [e]; exact hq.ne
    exact (ho q (a1.lt h2) (hne q h2)).trans (a5 q hq)
  · unfold Wt1 at *
    rw [el, List.map_append, List.sum_append]
    rw [hw] at w1
    omega
  · unfold Wt2 at *
    rw [el, List.map_append, List.sum_append]
    rw [hw] at w2
    omega
theorem Ex.prom {kd : Nat} {c : ae_C} (hx : Ex b s t K0 σ0 K σ) (hlo : σ0.2.length ≤ p) (hK : K p = 0) (hp : σ.2[p]? = some c) (hok : okC K kd c) : ∃ K2 : Nat → Nat, K2 p = kd ∧ (∀ q, q ≠ p → K2 q = K q) ∧ (∀ q, K q ≠ 0 → K2 q = K q) ∧ Ex b s t K0 σ0 K2 σ := by
  obtain ⟨a1, a2, a3, a4, a5, a6, a7⟩ := hx
  have hne : ∀ q, K q ≠ 0 → q ≠ p := fun q hq e => hq (by rw [e]; exact hK)
  have e2 : ∀ q, q ≠ p → (if q = p then kd else K q) = K q := fun q hq => if_neg hq
  have hm : ∀ q, K q ≠ 0 → (if q = p then kd else K q) = K q := fun q hq => e2 q (hne q hq)
  refine ⟨fun q => if q = p then kd else K q, if_pos rfl, e2, hm, fun q hq => ?_, a2, fun q hq => ?_, fun q z1 z2 => ?_, a5, a6, a7⟩
  · by_cases h2 : q = p
    · subst h2
      exact ⟨c, hp, by show okC _ (if q = q then kd else _) c; rw [if_pos rfl]; exact hok.mono hm⟩
    · have hq2 : K q ≠ 0 := by rw [← e2 q h2]; exact hq
      obtain ⟨c1, x1, x2⟩ := a1 q hq2
      refine ⟨c1, x1, ?_⟩
      show okC _ (if q = p then kd else K q) c1
      rw [e2 q h2]
      exact x2.mono hm
  · have e := a3 q hq
    exact (hm q (by rw [e]; exact hq)).trans e
  · obtain ⟨x1, x2⟩ := a4 q z1 z2
    exact ⟨(e2 q (by omega)).trans x1, x2⟩
theorem Ex.push {x : ae_C} {n a e : Nat} (hx : Ex b s t K0 σ0 K σ) (hw : wt x = (a, e)) : Ex b (s + (1 + a)) (t + (n + e)) K0 σ0 K ((σ.1.1 + 1, σ.1.2 + n), σ.2 ++ [x]) := by
  obtain ⟨a1, a2, a3, a4, a5, a6, a7⟩ := hx
  have ho : ∀ q, q < σ.2.length → (σ.2 ++ [x])[q]? = σ.2[q]? := fun q hq => List.getElem?_append_left hq
  refine ⟨fun q hq => ?_, by simp; omega, a3, fun q z1 z2 => ?_, fun q hq => ?_, ?_, ?_⟩
  · obtain ⟨c, x1, x2⟩ := a1 q hq
    exact ⟨c, (ho q (a1.lt hq)).trans x1, x2⟩
  · obtain ⟨x1, x2⟩ := a4 q z1 z2
    exact ⟨x1, (ho q (by omega)).trans x2⟩
  · have e := a3 q hq.ne
    have h2 : K q ≠ 0 := by rw [e]; exact hq.ne
    exact (ho q (a1.lt h2)).trans (a5 q hq)
  · unfold Wt1 at *
    simp only [List.map_append, List.sum_append, List.map_cons, List.map_nil, List.sum_cons, List.sum_nil, hw]
    omega
  · unfold Wt2 at *
    simp only [List.map_append, List.sum_append, List.map_cons, List.map_nil, List.sum_cons, List.sum_nil, hw]
    omega
theorem Ex.setU {c c0 : ae_C} (hx : Ex b s t K0 σ0 K σ) (hlo : σ0.2.length ≤ p) (hK : K p = 0) (hp : σ.2[p]? = some c0) (hw : (wt c).1 ≤ (wt c0).1 ∧ (wt c).2 ≤ (wt c0).2) : Ex b s t K0 σ0 K (σ.1, σ.2.set p c) := by
  obtain ⟨a1, a2, a3, a4, a5, a6, a7⟩ := hx
  have w1 := sum_set (fun c => (wt c).1) (c0 := c0) (c := c) hp
  have w2 := sum_set (fun c => (wt c).2) (c0 := c0) (c := c) hp
  refine ⟨a1.set hp (fun z => absurd hK z), by rw [List.length_set]; exact a2, a3, fun q h1 h2 => ?_, fun q hq => ?_, ?_, ?_⟩
  · obtain ⟨x1, x2⟩ := a4 q h1 h2
    exact ⟨x1, (st_ne (by omega)).trans x2⟩
  · refine (st_ne (fun e => ?_)).trans (a5 q hq)
    have e3 := a3 q hq.ne
    exact hq.ne (by rw [← e3, ← e]; exact hK)
  · unfold Wt1 at *
    simp only at *
    omega
  · unfold Wt2 at *
    simp only at *
    omega
theorem St.call2 {e : Nat} {c c' : Nat × Nat} {N N' : Nat} {T : List (Nat × ae_C)} {x y z : ae_C} {i : Nat} (h : St σ0 e σ c N T) (hi : T[i]? = some (p, x)) (hd : ap p T i) (h' : St σ p σ' c' N' [(p, y), (N, z)]) : St σ0 e σ' c' N' (T.set i (p, y) ++ [(N, z)]) := by
  have h1 := h.call hi hd (h'.one 0 rfl)
  refine ⟨h1.1, h1.2.1, h1.2.2.1, fun q hq => ?_, h1.2.2.2.2⟩
  rcases List.mem_append.mp hq with a | a
  · exact h1.2.2.2.1 q a
  · rw [List.mem_singleton.mp a]
    exact ⟨h'.at 1 rfl, Or.inr h.2.2.1⟩
section TN
variable {d mid pc np : Nat} {e : Nat} {c : Nat × Nat} {N : Nat} {T : List (Nat × ae_C)} {L : ae_Ls} {k : List Value} {P : ae_S × ae_O → Prop}
theorem t_nqN {t n : Nat} {j : Int32} (ht : ae_tab (at0 mid) pc = some (.inl (o_nq t np))) (h : St σ0 e σ c N T) (hn : j.toNatClampNeg = n) (hj : ¬ j < 0 ∧ n * 8 ≤ 536870912) (hc : ∀ σ', St σ0 e σ' (c.1 + 1, c.2 + n) (N + 1) (T ++ [(N, .inl (t, rfs n (fun _ => none)))]) → hG ra d mid σ' L (.ref N :: k) np P) : hG ra d mid σ L (.int j :: k) pc P := by
  subst hn
  exact t_nq ht h hj hc
theorem t_naN {n : Nat} {j : Int32} (ht : ae_tab (at0 mid) pc = some (.inl (o_na 0 np))) (h : St σ0 e σ c N T) (hn : j.toNatClampNeg = n) (hj : ¬ j < 0 ∧ n * 8 ≤ 536870912) (hc : ∀ σ', St σ0 e σ' (c.1 + 1, c.2 + n) (N + 1) (T ++ [(N, .inl (0, n, .inl (fun _ => 0)))]) → hG ra d mid σ' L (.ref N :: k) np P) : hG ra d mid σ L (.int j :: k) pc P := by
  subst hn
  exact t_na ht h hj hc
end TN
theorem c_84f {z sk : Int32} {n N4 : Nat} {c : Nat × Nat} {f : Nat → Int32} (hzn : (z = 1 ∧ n = 4) ∨ (z = 0 ∧ n = 1)) (hn : n ≤ 16) (hx : Ex b s t K0 σ0 K σ) (hlo : σ0.2.length ≤ p) (hK : K p = 0) (hp : σ.2[p]? = some (.inr (5, cd_Port)))
    (hs : St σ p σ' c N4 [(p, .inr (5, [.int z, .int sk, .ref σ.2.length, .int (-1), .int 0, .int 0, .int 0, .ref (σ.2.length + 1), .ref (σ.2.length + 1 + 1 + 1), .int 0, .int 0, .int 0])), (σ.2.length, .inl (0, 2, .inl f)), (σ.2.length + 1, .inr (0, [.ref (σ.2.length + 1 + 1), .int 0])), (σ.2.length + 1 + 1, .inl (1, 1000, .inl (fun _ => 0))), (σ.2.length + 1 + 1 + 1, .inl (9, rfs n (fun _ => none)))]) (hc1 : c.1 ≤ σ.1.1 + 4) (hc2 : c.2 ≤ σ.1.2 + 1004 + n) (hN4 : N4 = σ.2.length + 4) :
    pV (fun σ' => ∃ K', Ex b (s + 12) (t + 5016) K0 σ0 K' σ' ∧ K' p = 23 ∧ ∀ q, q < σ.2.length → q ≠ p → K' q = K q ∧ σ'.2[q]? = σ.2[q]?) (σ', .inl none) := by
  have hplt := (List.getElem?_eq_some_iff.mp hp).1
  have hT := hx.ty
  have hnl : ∀ m, nl (fun _ => none) m = m := fun m => by
    induction m with
    | zero => rfl
    | succ m ih => simp only [nl, ih]
  have hx1 : Ex b (s + 12) (t + 5016) K0 σ0 K σ' := by
    refine hx.st (cs := [.inl (0, 2, .inl f), .inr (0, [.ref (σ.2.length + 1 + 1), .int 0]), .inl (1, 1000, .inl (fun _ => 0)), .inl (9, rfs n (fun _ => none))]) hlo hK hp (hs.2.1.trans hN4) (hs.at 0 rfl) rfl hs.2.2.2.2 (fun i hi => ?_) ?_ ?_
    · rcases i with _ | _ | _ | _ | i
      · exact hs.at 1 rfl
      · exact hs.at 2 rfl
      · exact hs.at 3 rfl
      · exact hs.at 4 rfl
      · simp at hi
        omega
    · rw [hs.1]
      show c.1 + (0 + (0 + (0 + (2 * nl (fun _ => none) n + 0)))) ≤ _
      rw [hnl]
      omega
    · rw [hs.1]
      show c.2 + (0 + (0 + (0 + (1002 * nl (fun _ => none) n + 0)))) ≤ _
      rw [hnl]
      omega
  have z0 := ty_z (p := σ.2.length) hT (Nat.le_refl _)
  have z1 := ty_z (p := σ.2.length + 1) hT (by omega)
  have z2 := ty_z (p := σ.2.length + 1 + 1) hT (by omega)
  have z3 := ty_z (p := σ.2.length + 1 + 1 + 1) hT (by omega)
  have hl0 : σ0.2.length ≤ σ.2.length := hx.2.1
  obtain ⟨Ka, ka, oa, -, hx1⟩ := hx1.prom (kd := 20) hl0 z0 (hs.at 1 rfl) (ok_20 ⟨_, rfl⟩)
  obtain ⟨Kb, kb, ob, mb, hx1⟩ := hx1.prom (kd := 8) (by omega) ((oa _ (by omega)).trans z2) (hs.at 3 rfl) (ok_8 ⟨_, rfl, fun _ _ => by decide⟩)
  obtain ⟨Kc, kc, oc, mc, hx1⟩ := hx1.prom (kd := 7) (by omega) ((ob _ (by omega)).trans ((oa _ (by omega)).trans z1)) (hs.at 2 rfl) (ok_7 ⟨_, 0, rfl, by omega, kb⟩)
  obtain ⟨Kd, kd, od, md, hx1⟩ := hx1.prom (kd := 300 + n) (by omega) ((oc _ (by omega)).trans ((ob _ (by omega)).trans ((oa _ (by omega)).trans z3))) (hs.at 4 rfl) (ok_D hn ⟨_, rfl, fun j q _ h => by cases h⟩)
  obtain ⟨Ke, ke, oe, me, hx1⟩ := hx1.prom (kd := 23) hlo ((od _ (by omega)).trans ((oc _ (by omega)).trans ((ob _ (by omega)).trans ((oa _ (by omega)).trans hK)))) (hs.at 0 rfl) (ok_23 ⟨n, z, sk, _, _, _, _, _, _, _, 0, 0, _, rfl, ⟨hzn, by omega, by omega⟩, (od _ (by omega)).trans ((oc _ (by omega)).trans ((ob _ (by omega)).trans ka)), (od _ (by omega)).trans kc, kd⟩)
  exact ⟨_, rfl, Ke, hx1, ke, fun q h1 h2 => ⟨(oe q h2).trans ((od _ (by omega)).trans ((oc _ (by omega)).trans ((ob _ (by omega)).trans (oa _ (by omega))))), hs.2.2.2.2 q h1 h2⟩⟩
theorem c_84t {z sk : Int32} (hz : z = 0 ∨ z = 1) (hx : Ex b s t K0 σ0 K σ) (hlo : σ0.2.length ≤ p) (hK : K p = 0) (hp : σ.2[p]? = some (.inr (5, cd_Port))) : hE ra (d + 2) 84 [.ref p, .int z, .int sk] σ (pV (fun σ' => ∃ K', Ex b (s + 12) (t + 5016) K0 σ0 K' σ' ∧ K' p = 23 ∧ ∀ q, q < σ.2.length → q ≠ p → K' q = K q ∧ σ'.2[q]? = σ.2[q]?)) := by
  have hplt := (List.getElem?_eq_some_iff.mp hp).1
  have hs := St.ini hp
  have hzb : k_bool (.int z) = true := by rcases hz with rfl | rfl <;> rfl
  have hT := hx.ty
  refine h_in rfl rfl (Nat.le_of_ble_eq_true rfl) ?_
  refine h_st rfl rfl ?_
  refine h_st rfl rfl ?_
  refine h_st rfl rfl ?_
  refine h_st rfl rfl ?_
  refine t_naN (n := 2) rfl hs (by decide) (by decide) (fun σ hs2 => ?_)
  replace hs := hs2
  clear hs2
  try dsimp only [List.set, List.cons_append, List.nil_append, cd_Port] at hs
  refine h_st rfl rfl ?_
  refine h_st rfl rfl ?_
  refine h_st rfl rfl ?_
  refine t_ias 1 rfl hs rfl (And.intro (by first | omega | (dsimp only; omega)) trivial) (by decide) (fun σ f hs2 => ?_)
  replace hs := hs2
  clear hs2
  try dsimp only [List.set, List.cons_append, List.nil_append, cd_Port] at hs
  refine h_st rfl rfl ?_
  refine h_st rfl rfl ?_
  refine h_st rfl rfl ?_
  refine t_ias 1 rfl hs rfl (And.intro (by first | omega | (dsimp only; omega)) trivial) (by decide) (fun σ f hs2 => ?_)
  replace hs := hs2
  clear hs2
  try dsimp only [List.set, List.cons_append, List.nil_append, cd_Port] at hs
  refine t_put 0 rfl hs rfl (And.intro (by first | omega | (dsimp only; omega)) trivial) (rfl) (Nat.le_of_ble_eq_true rfl) (fun σ hs2 => ?_)
  replace hs := hs2
  clear hs2
  try dsimp only [List.set, List.cons_append, List.nil_append, cd_Port] at hs
  refine h_st rfl rfl ?_
  refine h_st rfl rfl ?_
  refine t_put 0 rfl hs rfl (And.intro (by first | omega | (dsimp only; omega)) trivial) (rfl) (Nat.le_of_ble_eq_true rfl) (fun σ hs2 => ?_)
  replace hs := hs2
  clear hs2
  try dsimp only [List.set, List.cons_append, List.nil_append, cd_Port] at hs
  refine h_st rfl rfl ?_
  refine h_st rfl rfl ?_
  refine t_put 0 rfl hs rfl (And.intro (by first | omega | (dsimp only; omega)) trivial) (rfl) (Nat.le_of_ble_eq_true rfl) (fun σ hs2 => ?_)
  replace hs := hs2
  clear hs2
  try dsimp only [List.set, List.cons_append, List.nil_append, cd_Port] at hs
  refine h_st rfl rfl ?_
  refine h_st rfl rfl ?_
  refine t_put 0 rfl hs rfl (And.intro (by first | omega | (dsimp only; omega)) trivial) (rfl) (Nat.le_of_ble_eq_true rfl) (fun σ hs2 => ?_)
  replace hs := hs2
  clear hs2
  try dsimp only [List.set, List.cons_append, List.nil_append, cd_Port] at hs
  refine h_st rfl rfl ?_
  refine h_st rfl rfl ?_
  refine t_put 0 rfl hs rfl (And.intro (by first | omega | (dsimp only; omega)) trivial) (rfl) (Nat.le_of_ble_eq_true rfl) (fun σ hs2 => ?_)
  replace hs := hs2
  clear hs2
  try dsimp only [List.set, List.cons_append, List.nil_append, cd_Port] at hs
  refine h_st rfl rfl ?_
  refine t_new rfl hs (fun σ hs2 => ?_)
  replace hs := hs2
  clear hs2
  try dsimp only [List.set, List.cons_append, List.nil_append, cd_Port] at hs
  refine h_st rfl rfl ?_
  refine h_cv1 rfl (Nat.le_of_ble_eq_true rfl) (e_rcv (hs.at 2 rfl)) rfl (k_3s (hs.at 2 rfl)) (fun σ2 hk => ?_)
  rw [hs.1, hs.2.1] at hk
  replace hs := hs.call2 (i := 2) rfl (And.intro (by first | omega | (dsimp only; omega)) (And.intro (by first | omega | (dsimp only; omega)) trivial)) hk
  clear hk
  try dsimp only [List.set, List.cons_append, List.nil_append] at hs
  refine t_put 0 rfl hs rfl (And.intro (by first | omega | (dsimp only; omega)) (And.intro (by first | omega | (dsimp only; omega)) (And.intro (by first | omega | (dsimp only; omega)) trivial))) (rfl) (Nat.le_of_ble_eq_true rfl) (fun σ hs2 => ?_)
  replace hs := hs2
  clear hs2
  try dsimp only [List.set, List.cons_append, List.nil_append, cd_Port] at hs
  refine h_st rfl rfl ?_
  refine h_st rfl rfl ?_
  refine t_put 0 rfl hs rfl (And.intro (by first | omega | (dsimp only; omega)) (And.intro (by first | omega | (dsimp only; omega)) (And.intro (by first | omega | (dsimp only; omega)) trivial))) (rfl) (Nat.le_of_ble_eq_true rfl) (fun σ hs2 => ?_)
  replace hs := hs2
  clear hs2
  try dsimp only [List.set, List.cons_append, List.nil_append, cd_Port] at hs
  refine h_st rfl rfl ?_
  refine h_st rfl rfl ?_
  refine t_put 0 rfl hs rfl (And.intro (by first | omega | (dsimp only; omega)) (And.intro (by first | omega | (dsimp only; omega)) (And.intro (by first | omega | (dsimp only; omega)) trivial))) (rfl) (Nat.le_of_ble_eq_true rfl) (fun σ hs2 => ?_)
  replace hs := hs2
  clear hs2
  try dsimp only [List.set, List.cons_append, List.nil_append, cd_Port] at hs
  refine h_st rfl rfl ?_
  refine h_st rfl rfl ?_
  refine t_put 0 rfl hs rfl (And.intro (by first | omega | (dsimp only; omega)) (And.intro (by first | omega | (dsimp only; omega)) (And.intro (by first | omega | (dsimp only; omega)) trivial))) (rfl) (Nat.le_of_ble_eq_true rfl) (fun σ hs2 => ?_)
  replace hs := hs2
  clear hs2
  try dsimp only [List.set, List.cons_append, List.nil_append, cd_Port] at hs
  refine h_st rfl rfl ?_
  refine h_st rfl rfl ?_
  refine t_put 0 rfl hs rfl (And.intro (by first | omega | (dsimp only; omega)) (And.intro (by first | omega | (dsimp only; omega)) (And.intro (by first | omega | (dsimp only; omega)) trivial))) (hzb) (Nat.le_of_ble_eq_true rfl) (fun σ hs2 => ?_)
  replace hs := hs2
  clear hs2
  try dsimp only [List.set, List.cons_append, List.nil_append, cd_Port] at hs
  refine h_st rfl rfl ?_
  refine h_st rfl rfl ?_
  refine t_put 0 rfl hs rfl (And.intro (by first | omega | (dsimp only; omega)) (And.intro (by first | omega | (dsimp only; omega)) (And.intro (by first | omega | (dsimp only; omega)) trivial))) (rfl) (Nat.le_of_ble_eq_true rfl) (fun σ hs2 => ?_)
  replace hs := hs2
  clear hs2
  try dsimp only [List.set, List.cons_append, List.nil_append, cd_Port] at hs
  refine h_st rfl rfl ?_
  refine h_st rfl rfl ?_
  refine h_st rfl rfl ?_
  refine h_br (fun hb => ?_) (fun hb => ?_)
  · refine h_st rfl rfl ?_
    refine t_nqN (n := 1) rfl hs (by decide) (by decide) (fun σ hs2 => ?_)
    replace hs := hs2
    clear hs2
    try dsimp only [List.set, List.cons_append, List.nil_append, cd_Port] at hs
    refine t_put 0 rfl hs rfl (And.intro (by first | omega | (dsimp only; omega)) (And.intro (by first | omega | (dsimp only; omega)) (And.intro (by first | omega | (dsimp only; omega)) (And.intro (by first | omega | (dsimp only; omega)) trivial)))) (rfl) (Nat.le_of_ble_eq_true rfl) (fun σ hs2 => ?_)
    replace hs := hs2
    clear hs2
    try dsimp only [List.set, List.cons_append, List.nil_append, cd_Port] at hs
    exact h_rv rfl (by exact c_84f (n := 1) (Or.inr ⟨hb, rfl⟩) (by decide) hx hlo hK hp hs (by simp only; omega) (by simp only; omega) rfl)
  · refine h_st rfl rfl ?_
    refine h_st rfl rfl ?_
    refine t_nqN (n := 4) rfl hs (by decide) (by decide) (fun σ hs2 => ?_)
    replace hs := hs2
    clear hs2
    try dsimp only [List.set, List.cons_append, List.nil_append, cd_Port] at hs
    refine t_put 0 rfl hs rfl (And.intro (by first | omega | (dsimp only; omega)) (And.intro (by first | omega | (dsimp only; omega)) (And.intro (by first | omega | (dsimp only; omega)) (And.intro (by first | omega | (dsimp only; omega)) trivial)))) (rfl) (Nat.le_of_ble_eq_true rfl) (fun σ hs2 => ?_)
    replace hs := hs2
    clear hs2
    try dsimp only [List.set, List.cons_append, List.nil_append, cd_Port] at hs
    exact h_rv rfl (by exact c_84f (n := 4) (Or.inl ⟨hz.resolve_left hb, rfl⟩) (by decide) hx hlo hK hp hs (by simp only; omega) (by simp only; omega) rfl)
theorem c_85t (hx : Ex b s t K0 σ0 K σ) (hlo : σ0.2.length ≤ p) (hK : K p = 0) (hp : σ.2[p]? = some (.inr (1, cd_Fragment))) : hE ra (d + 1) 85 [.ref p] σ (pV (fun σ' => ∃ K', Ex b s t K0 σ0 K' σ' ∧ K' p = 22 ∧ ∀ q, q < σ.2.length → q ≠ p → K' q = K q ∧ σ'.2[q]? = σ.2[q]?)) := by
  have hplt := (List.getElem?_eq_some_iff.mp hp).1
  have hs := St.ini hp
  have hfin : ∀ σ', St σ p σ' σ.1 σ.2.length [(p, .inr (1, [.int 0, .int 0, .int 0, .int 0, .int 0, .int 0]))] → pV (fun σ' => ∃ K', Ex b s t K0 σ0 K' σ' ∧ K' p = 22 ∧ ∀ q, q < σ.2.length → q ≠ p → K' q = K q ∧ σ'.2[q]? = σ.2[q]?) (σ', .inl none) := by
    intro σ' hs
    have hx1 : Ex b (s + 0) (t + 0) K0 σ0 K σ' := hx.st (cs := []) hlo hK hp hs.2.1 (hs.at 0 rfl) rfl hs.2.2.2.2 (fun i hi => absurd hi (Nat.not_lt_zero _)) (by rw [hs.1]; exact Nat.le_refl _) (by rw [hs.1]; exact Nat.le_refl _)
    obtain ⟨Ka, ka, oa, -, hx1⟩ := hx1.prom (kd := 22) hlo hK (hs.at 0 rfl) (ok_22 ⟨_, _, _, _, _, _, rfl⟩)
    exact ⟨_, rfl, Ka, hx1, ka, fun q h1 h2 => ⟨oa q h2, hs.2.2.2.2 q h1 h2⟩⟩
  refine h_in rfl rfl (Nat.le_of_ble_eq_true rfl) ?_
  refine h_st rfl rfl ?_
  refine h_st rfl rfl ?_
  refine h_st rfl rfl ?_
  refine h_st rfl rfl ?_
  refine t_put 0 rfl hs rfl trivial (rfl) (Nat.le_of_ble_eq_true rfl) (fun σ hs2 => ?_)
  replace hs := hs2
  clear hs2
  refine h_st rfl rfl ?_
  refine h_st rfl rfl ?_
  refine t_put 0 rfl hs rfl trivial (rfl) (Nat.le_of_ble_eq_true rfl) (fun σ hs2 => ?_)
  replace hs := hs2
  clear hs2
  refine h_st rfl rfl ?_
  refine h_st rfl rfl ?_
  refine t_put 0 rfl hs rfl trivial (rfl) (Nat.le_of_ble_eq_true rfl) (fun σ hs2 => ?_)
  replace hs := hs2
  clear hs2
  refine h_st rfl rfl ?_
  refine h_st rfl rfl ?_
  refine t_put 0 rfl hs rfl trivial (rfl) (Nat.le_of_ble_eq_true rfl) (fun σ hs2 => ?_)
  replace hs := hs2
  clear hs2
  refine h_st rfl rfl ?_
  refine h_st rfl rfl ?_
  refine t_put 0 rfl hs rfl trivial (rfl) (Nat.le_of_ble_eq_true rfl) (fun σ hs2 => ?_)
  replace hs := hs2
  clear hs2
  refine h_st rfl rfl ?_
  refine h_st rfl rfl ?_
  refine t_put 0 rfl hs rfl trivial (rfl) (Nat.le_of_ble_eq_true rfl) (fun σ hs2 => ?_)
  replace hs := hs2
  clear hs2
  exact h_rv rfl (hfin _ hs)
def pt (i j : Nat) : Int32 := (([[17, 289, 833, 129], [1042, 34, 578, 1154], [3092, 2084, 68, 3204], [24, 296, 840, 136]] : List (List Int32)).getD i []).getD j 0
theorem k_76x {i j : Nat} (hi : i < 4) (hj : j < 4) : hE ra (d + 2) 76 [.int (nI i), .int (nI j)] σ (pI (fun σ' y => σ' = σ ∧ y = pt i j)) := by
  have hi4 : i = 0 ∨ i = 1 ∨ i = 2 ∨ i = 3 := by omega
  have hj4 : j = 0 ∨ j = 1 ∨ j = 2 ∨ j = 3 := by omega
  rcases hi4 with rfl | rfl | rfl | rfl <;> rcases hj4 with rfl | rfl | rfl | rfl
  · refine h_in rfl rfl (Nat.le_of_ble_eq_true rfl) ?_
    refine h_st rfl rfl ?_
    refine h_st rfl rfl ?_
    refine h_st rfl rfl ?_
    refine h_st rfl rfl ?_
    refine h_st rfl rfl ?_
    refine h_st rfl rfl ?_
    refine h_st rfl rfl ?_
    refine h_st rfl rfl ?_
    refine h_st rfl rfl ?_
    refine h_st rfl rfl ?_
    refine h_st rfl rfl ?_
    refine h_ci1 rfl (Nat.le_of_ble_eq_true rfl) rfl rfl (k_77) (fun σ' y hb => ?_)
    obtain ⟨hss, rfl⟩ := hb
    replace hss := hss.symm
    subst hss
    refine h_st rfl rfl ?_
    refine h_st rfl rfl ?_
    refine h_st rfl rfl ?_
    refine h_ci1 rfl (Nat.le_of_ble_eq_true rfl) rfl rfl (k_77) (fun σ' y hb => ?_)
    obtain ⟨hss, rfl⟩ := hb
    replace hss := hss.symm
    subst hss
    refine h_st rfl rfl ?_
    refine h_pc (if_pos (by decide)) ?_
    refine h_st rfl rfl ?_
    refine h_ci1 rfl (Nat.le_of_ble_eq_true rfl) rfl rfl (k_77) (fun σ' y hb => ?_)
    obtain ⟨hss, rfl⟩ := hb
    replace hss := hss.symm
    subst hss
    refine h_st rfl rfl ?_
    refine h_st rfl rfl ?_
    refine h_st rfl rfl ?_
    refine h_ci1 rfl (Nat.le_of_ble_eq_true rfl) rfl rfl (k_77) (fun σ' y hb => ?_)
    obtain ⟨hss, rfl⟩ := hb
    replace hss := hss.symm
    subst hss
    refine h_st rfl rfl ?_
    refine h_pc (if_pos (by decide)) ?_
    refine h_st rfl rfl ?_
    exact h_rt rfl rfl (⟨_, _, rfl, rfl, by decide⟩)
  · refine h_in rfl rfl (Nat.le_of_ble_eq_true rfl) ?_
    refine h_st rfl rfl ?_
    refine h_st rfl rfl ?_
    refine h_st rfl rfl ?_
    refine h_st rfl rfl ?_
    refine h_st rfl rfl ?_
    refine h_st rfl rfl ?_
    refine h_st rfl rfl ?_
    refine h_st rfl rfl ?_
    refine h_st rfl rfl ?_
    refine h_st rfl rfl ?_
    refine h_st rfl rfl ?_
    refine h_ci1 rfl (Nat.le_of_ble_eq_true rfl) rfl rfl (k_77) (fun σ' y hb => ?_)
    obtain ⟨hss, rfl⟩ := hb
    replace hss := hss.symm
    subst hss
    refine h_st rfl rfl ?_
    refine h_st rfl rfl ?_
    refine h_st rfl rfl ?_
    refine h_ci1 rfl (Nat.le_of_ble_eq_true rfl) rfl rfl (k_77) (fun σ' y hb => ?_)
    obtain ⟨hss, rfl⟩ := hb
    replace hss := hss.symm
    subst hss
    refine h_st rfl rfl ?_
    refine h_pc (if_neg (by decide)) ?_
    refine h_st rfl rfl ?_
    refine h_st rfl rfl ?_
    refine h_st rfl rfl ?_
    refine h_st rfl rfl ?_
    refine h_st rfl rfl ?_
    refine h_st rfl rfl ?_
    refine h_st rfl rfl ?_
    refine h_st rfl rfl ?_
    refine h_st rfl rfl ?_
    refine h_st rfl rfl ?_
    refine h_st rfl rfl ?_
    refine h_st rfl rfl ?_
    refine h_ci1 rfl (Nat.le_of_ble_eq_true rfl) rfl rfl (k_77) (fun σ' y hb => ?_)
    obtain ⟨hss, rfl⟩ := hb
    replace hss := hss.symm
    subst hss
    refine h_st rfl rfl ?_
    refine h_pc (if_pos (by decide)) ?_
    refine h_st rfl rfl ?_
    refine h_ci1 rfl (Nat.le_of_ble_eq_true rfl) rfl rfl (k_77) (fun σ' y hb => ?_)
    obtain ⟨hss, rfl⟩ := hb
    replace hss := hss.symm
    subst hss
    refine h_st rfl rfl ?_
    refine h_st rfl rfl ?_
    refine h_st rfl rfl ?_
    refine h_ci1 rfl (Nat.le_of_ble_eq_true rfl) rfl rfl (k_77) (fun σ' y hb => ?_)
    obtain ⟨hss, rfl⟩ := hb
    replace hss := hss.symm
    subst hss
    refine h_st rfl rfl ?_
    refine h_pc (if_pos (by decide)) ?_
    refine h_st rfl rfl ?_
    exact h_rt rfl rfl (⟨_, _, rfl, rfl, by decide⟩)
  · refine h_in rfl rfl (Nat.le_of_ble_eq_true rfl) ?_
    refine h_st rfl rfl ?_
    refine h_st rfl rfl ?_
    refine h_st rfl rfl ?_
    refine h_st rfl rfl ?_
    refine h_st rfl rfl ?_
    refine h_st rfl rfl ?_
    refine h_st rfl rfl ?_
    refine h_st rfl rfl ?_
    refine h_st rfl rfl ?_
    refine h_st rfl rfl ?_
    refine h_st rfl rfl ?_
    refine h_ci1 rfl (Nat.le_of_ble_eq_true rfl) rfl rfl (k_77) (fun σ' y hb => ?_)
    obtain ⟨hss, rfl⟩ := hb
    replace hss := hss.symm
    subst hss
    refine h_st rfl rfl ?_
    refine h_st rfl rfl ?_
    refine h_st rfl rfl ?_
    refine h_ci1 rfl (Nat.le_of_ble_eq_true rfl) rfl rfl (k_77) (fun σ' y hb => ?_)
    obtain ⟨hss, rfl⟩ := hb
    replace hss := hss.symm
    subst hss
    refine h_st rfl rfl ?_
    refine h_pc (if_neg (by decide)) ?_
    refine h_st rfl rfl ?_
    refine h_st rfl rfl ?_
    refine h_st rfl rfl ?_
    refine h_st rfl rfl ?_
    refine h_st rfl rfl ?_
    refine h_st rfl rfl ?_
    refine h_st rfl rfl ?_
    refine h_st rfl rfl ?_
    refine h_st rfl rfl ?_
    refine h_st rfl rfl ?_
    refine h_st rfl rfl ?_
    refine h_st rfl rfl ?_
    refine h_ci1 rfl (Nat.le_of_ble_eq_true rfl) rfl rfl (k_77) (fun σ' y hb => ?_)
    obtain ⟨hss, rfl⟩ := hb
    replace hss := hss.symm
    subst hss
    refine h_st rfl rfl ?_
    refine h_pc (if_neg (by decide)) ?_
    refine h_st rfl rfl ?_
    refine h_st rfl rfl ?_
    refine h_st rfl rfl ?_
    refine h_st rfl rfl ?_
    refine h_st rfl rfl ?_
    refine h_st rfl rfl ?_
    refine h_st rfl rfl ?_
    refine h_st rfl rfl ?_
    refine h_st rfl rfl ?_
    refine h_st rfl rfl ?_
    refine h_st rfl rfl ?_
    refine h_st rfl rfl ?_
    refine h_ci1 rfl (Nat.le_of_ble_eq_true rfl) rfl rfl (k_77) (fun σ' y hb => ?_)
    obtain ⟨hss, rfl⟩ := hb
    replace hss := hss.symm
    subst hss
    refine h_st rfl rfl ?_
    refine h_pc (if_pos (by decide)) ?_
    refine h_st rfl rfl ?_
    refine h_ci1 rfl (Nat.le_of_ble_eq_true rfl) rfl rfl (k_77) (fun σ' y hb => ?_)
    obtain ⟨hss, rfl⟩ := hb
    replace hss := hss.symm
    subst hss
    refine h_st rfl rfl ?_
    refine h_st rfl rfl ?_
    refine h_st rfl rfl ?_
    refine h_ci1 rfl (Nat.le_of_ble_eq_true rfl) rfl rfl (k_77) (fun σ' y hb => ?_)
    obtain ⟨hss, rfl⟩ := hb
    replace hss := hss.symm
    subst hss
    refine h_st rfl rfl ?_
    refine h_pc (if_pos (by decide)) ?_
    refine h_st rfl rfl ?_
    exact h_rt rfl rfl (⟨_, _, rfl, rfl, by decide⟩)
  · refine h_in rfl rfl (Nat.le_of_ble_eq_true rfl) ?_
    refine h_st rfl rfl ?_
    refine h_st rfl rfl ?_
    refine h_st rfl rfl ?_
    refine h_st rfl rfl ?_
    refine h_st rfl rfl ?_
    refine h_st rfl rfl ?_
    refine h_st rfl rfl ?_
    refine h_st rfl rfl ?_
    refine h_st rfl rfl ?_
    refine h_st rfl rfl ?_
    refine h_st rfl rfl ?_
    refine h_ci1 rfl (Nat.le_of_ble_eq_true rfl) rfl rfl (k_77) (fun σ' y hb => ?_)
    obtain ⟨hss, rfl⟩ := hb
    replace hss := hss.symm
    subst hss
    refine h_st rfl rfl ?_
    refine h_st rfl rfl ?_
    refine h_st rfl rfl ?_
    refine h_ci1 rfl (Nat.le_of_ble_eq_true rfl) rfl rfl (k_77) (fun σ' y hb => ?_)
    obtain ⟨hss, rfl⟩ := hb
    replace hss := hss.symm
    subst hss
    refine h_st rfl rfl ?_
    refine h_pc (if_pos (by decide)) ?_
    refine h_st rfl rfl ?_
    refine h_ci1 rfl (Nat.le_of_ble_eq_true rfl) rfl rfl (k_77) (fun σ' y hb => ?_)
    obtain ⟨hss, rfl⟩ := hb
    replace hss := hss.symm
    subst hss
    refine h_st rfl rfl ?_
    refine h_st rfl rfl ?_
    refine h_st rfl rfl ?_
    refine h_ci1 rfl (Nat.le_of_ble_eq_true rfl) rfl rfl (k_77) (fun σ' y hb => ?_)
    obtain ⟨hss, rfl⟩ := hb
    replace hss := hss.symm
    subst hss
    refine h_st rfl rfl ?_
    refine h_pc (if_pos (by decide)) ?_
    refine h_st rfl rfl ?_
    exact h_rt rfl rfl (⟨_, _, rfl, rfl, by decide⟩)
  · refine h_in rfl rfl (Nat.le_of_ble_eq_true rfl) ?_
    refine h_st rfl rfl ?_
    refine h_st rfl rfl ?_
    refine h_st rfl rfl ?_
    refine h_st rfl rfl ?_
    refine h_st rfl rfl ?_
    refine h_st rfl rfl ?_
    refine h_st rfl rfl ?_
    refine h_st rfl rfl ?_
    refine h_st rfl rfl ?_
    refine h_st rfl rfl ?_
    refine h_st rfl rfl ?_
    refine h_ci1 rfl (Nat.le_of_ble_eq_true rfl) rfl rfl (k_77) (fun σ' y hb => ?_)
    obtain ⟨hss, rfl⟩ := hb
    replace hss := hss.symm
    subst hss
    refine h_st rfl rfl ?_
    refine h_st rfl rfl ?_
    refine h_st rfl rfl ?_
    refine h_ci1 rfl (Nat.le_of_ble_eq_true rfl) rfl rfl (k_77) (fun σ' y hb => ?_)
    obtain ⟨hss, rfl⟩ := hb
    replace hss := hss.symm
    subst hss
    refine h_st rfl rfl ?_
    refine h_pc (if_pos (by decide)) ?_
    refine h_st rfl rfl ?_
    refine h_ci1 rfl (Nat.le_of_ble_eq_true rfl) rfl rfl (k_77) (fun σ' y hb => ?_)
    obtain ⟨hss, rfl⟩ := hb
    replace hss := hss.symm
    subst hss
    refine h_st rfl rfl ?_
    refine h_st rfl rfl ?_
    refine h_st rfl rfl ?_
    refine h_ci1 rfl (Nat.le_of_ble_eq_true rfl) rfl rfl (k_77) (fun σ' y hb => ?_)
    obtain ⟨hss, rfl⟩ := hb
    replace hss := hss.symm
    subst hss
    refine h_st rfl rfl ?_
    refine h_pc (if_neg (by decide)) ?_
    refine h_st rfl rfl ?_
    refine h_st rfl rfl ?_
    refine h_st rfl rfl ?_
    refine h_st rfl rfl ?_
    refine h_st rfl rfl ?_
    refine h_st rfl rfl ?_
    refine h_st rfl rfl ?_
    refine h_st rfl rfl ?_
    refine h_st rfl rfl ?_
    refine h_st rfl rfl ?_
    refine h_st rfl rfl ?_
    refine h_st rfl rfl ?_
    refine h_ci1 rfl (Nat.le_of_ble_eq_true rfl) rfl rfl (k_77) (fun σ' y hb => ?_)
    obtain ⟨hss, rfl⟩ := hb
    replace hss := hss.symm
    subst hss
    refine h_st rfl rfl ?_
    refine h_pc (if_pos (by decide)) ?_
    refine h_st rfl rfl ?_
    exact h_rt rfl rfl (⟨_, _, rfl, rfl, by decide⟩)
  · refine h_in rfl rfl (Nat.le_of_ble_eq_true rfl) ?_
    refine h_st rfl rfl ?_
    refine h_st rfl rfl ?_
    refine h_st rfl rfl ?_
    refine h_st rfl rfl ?_
    refine h_st rfl rfl ?_
    refine h_st rfl rfl ?_
    refine h_st rfl rfl ?_
    refine h_st rfl rfl ?_
    refine h_st rfl rfl ?_
    refine h_st rfl rfl ?_
    refine h_st rfl rfl ?_
    refine h_ci1 rfl (Nat.le_of_ble_eq_true rfl) rfl rfl (k_77) (fun σ' y hb => ?_)
    obtain ⟨hss, rfl⟩ := hb
    replace hss := hss.symm
    subst hss
    refine h_st rfl rfl ?_
    refine h_st rfl rfl ?_
    refine h_st rfl rfl ?_
    refine h_ci1 rfl (Nat.le_of_ble_eq_true rfl) rfl rfl (k_77) (fun σ' y hb => ?_)
    obtain ⟨hss, rfl⟩ := hb
    replace hss := hss.symm
    subst hss
    refine h_st rfl rfl ?_
    refine h_pc (if_pos (by decide)) ?_
    refine h_st rfl rfl ?_
    refine h_ci1 rfl (Nat.le_of_ble_eq_true rfl) rfl rfl (k_77) (fun σ' y hb => ?_)
    obtain ⟨hss, rfl⟩ := hb
    replace hss := hss.symm
    subst hss
    refine h_st rfl rfl ?_
    refine h_st rfl rfl ?_
    refine h_st rfl rfl ?_
    refine h_ci1 rfl (Nat.le_of_ble_eq_true rfl) rfl rfl (k_77) (fun σ' y hb => ?_)
    obtain ⟨hss, rfl⟩ := hb
    replace hss := hss.symm
    subst hss
    refine h_st rfl rfl ?_
    refine h_pc (if_pos (by decide)) ?_
    refine h_st rfl rfl ?_
    exact h_rt rfl rfl (⟨_, _, rfl, rfl, by decide⟩)
  · refine h_in rfl rfl (Nat.le_of_ble_eq_true rfl) ?_
    refine h_st rfl rfl ?_
    refine h_st rfl rfl ?_
    refine h_st rfl rfl ?_
    refine h_st rfl rfl ?_
    refine h_st rfl rfl ?_
    refine h_st rfl rfl ?_
    refine h_st rfl rfl ?_
    refine h_st rfl rfl ?_
    refine h_st rfl rfl ?_
    refine h_st rfl rfl ?_
    refine h_st rfl rfl ?_
    refine h_ci1 rfl (Nat.le_of_ble_eq_true rfl) rfl rfl (k_77) (fun σ' y hb => ?_)
    obtain ⟨hss, rfl⟩ := hb
    replace hss := hss.symm
    subst hss
    refine h_st rfl rfl ?_
    refine h_st rfl rfl ?_
    refine h_st rfl rfl ?_
    refine h_ci1 rfl (Nat.le_of_ble_eq_true rfl) rfl rfl (k_77) (fun σ' y hb => ?_)
    obtain ⟨hss, rfl⟩ := hb
    replace hss := hss.symm
    subst hss
    refine h_st rfl rfl ?_
    refine h_pc (if_neg (by decide)) ?_
    refine h_st rfl rfl ?_
    refine h_st rfl rfl ?_
    refine h_st rfl rfl ?_
    refine h_st rfl rfl ?_
    refine h_st rfl rfl ?_
    refine h_st rfl rfl ?_
    refine h_st rfl rfl ?_
    refine h_st rfl rfl ?_
    refine h_st rfl rfl ?_
    refine h_st rfl rfl ?_
    refine h_st rfl rfl ?_
    refine h_st rfl rfl ?_
    refine h_ci1 rfl (Nat.le_of_ble_eq_true rfl) rfl rfl (k_77) (fun σ' y hb => ?_)
    obtain ⟨hss, rfl⟩ := hb
    replace hss := hss.symm
    subst hss
    refine h_st rfl rfl ?_
    refine h_pc (if_pos (by decide)) ?_
    refine h_st rfl rfl ?_
    refine h_ci1 rfl (Nat.le_of_ble_eq_true rfl) rfl rfl (k_77) (fun σ' y hb => ?_)
    obtain ⟨hss, rfl⟩ := hb
    replace hss := hss.symm
    subst hss
    refine h_st rfl rfl ?_
    refine h_st rfl rfl ?_
    refine h_st rfl rfl ?_
    refine h_ci1 rfl (Nat.le_of_ble_eq_true rfl) rfl rfl (k_77) (fun σ' y hb => ?_)
    obtain ⟨hss, rfl⟩ := hb
    replace hss := hss.symm
    subst hss
    refine h_st rfl rfl ?_
    refine h_pc (if_pos (by decide)) ?_
    refine h_st rfl rfl ?_
    exact h_rt rfl rfl (⟨_, _, rfl, rfl, by decide⟩)
  · refine h_in rfl rfl (Nat.le_of_ble_eq_true rfl) ?_
    refine h_st rfl rfl ?_
    refine h_st rfl rfl ?_
    refine h_st rfl rfl ?_
    refine h_st rfl rfl ?_
    refine h_st rfl rfl ?_
    refine h_st rfl rfl ?_
    refine h_st rfl rfl ?_
    refine h_st rfl rfl ?_
    refine h_st rfl rfl ?_
    refine h_st rfl rfl ?_
    refine h_st rfl rfl ?_
    refine h_ci1 rfl (Nat.le_of_ble_eq_true rfl) rfl rfl (k_77) (fun σ' y hb => ?_)
    obtain ⟨hss, rfl⟩ := hb
    replace hss := hss.symm
    subst hss
    refine h_st rfl rfl ?_
    refine h_st rfl rfl ?_
    refine h_st rfl rfl ?_
    refine h_ci1 rfl (Nat.le_of_ble_eq_true rfl) rfl rfl (k_77) (fun σ' y hb => ?_)
    obtain ⟨hss, rfl⟩ := hb
    replace hss := hss.symm
    subst hss
    refine h_st rfl rfl ?_
    refine h_pc (if_pos (by decide)) ?_
    refine h_st rfl rfl ?_
    refine h_ci1 rfl (Nat.le_of_ble_eq_true rfl) rfl rfl (k_77) (fun σ' y hb => ?_)
    obtain ⟨hss, rfl⟩ := hb
    replace hss := hss.symm
    subst hss
    refine h_st rfl rfl ?_
    refine h_st rfl rfl ?_
    refine h_st rfl rfl ?_
    refine h_ci1 rfl (Nat.le_of_ble_eq_true rfl) rfl rfl (k_77) (fun σ' y hb => ?_)
    obtain ⟨hss, rfl⟩ := hb
    replace hss := hss.symm
    subst hss
    refine h_st rfl rfl ?_
    refine h_pc (if_neg (by decide)) ?_
    refine h_st rfl rfl ?_
    refine h_st rfl rfl ?_
    refine h_st rfl rfl ?_
    refine h_st rfl rfl ?_
    refine h_st rfl rfl ?_
    refine h_st rfl rfl ?_
    refine h_st rfl rfl ?_
    refine h_st rfl rfl ?_
    refine h_st rfl rfl ?_
    refine h_st rfl rfl ?_
    refine h_st rfl rfl ?_
    refine h_st rfl rfl ?_
    refine h_ci1 rfl (Nat.le_of_ble_eq_true rfl) rfl rfl (k_77) (fun σ' y hb => ?_)
    obtain ⟨hss, rfl⟩ := hb
    replace hss := hss.symm
    subst hss
    refine h_st rfl rfl ?_
    refine h_pc (if_pos (by decide)) ?_
    refine h_st rfl rfl ?_
    exact h_rt rfl rfl (⟨_, _, rfl, rfl, by decide⟩)
  · refine h_in rfl rfl (Nat.le_of_ble_eq_true rfl) ?_
    refine h_st rfl rfl ?_
    refine h_st rfl rfl ?_
    refine h_st rfl rfl ?_
    refine h_st rfl rfl ?_
    refine h_st rfl rfl ?_
    refine h_st rfl rfl ?_
    refine h_st rfl rfl ?_
    refine h_st rfl rfl ?_
    refine h_st rfl rfl ?_
    refine h_st rfl rfl ?_
    refine h_st rfl rfl ?_
    refine h_ci1 rfl (Nat.le_of_ble_eq_true rfl) rfl rfl (k_77) (fun σ' y hb => ?_)
    obtain ⟨hss, rfl⟩ := hb
    replace hss := hss.symm
    subst hss
    refine h_st rfl rfl ?_
    refine h_st rfl rfl ?_
    refine h_st rfl rfl ?_
    refine h_ci1 rfl (Nat.le_of_ble_eq_true rfl) rfl rfl (k_77) (fun σ' y hb => ?_)
    obtain ⟨hss, rfl⟩ := hb
    replace hss := hss.symm
    subst hss
    refine h_st rfl rfl ?_
    refine h_pc (if_pos (by decide)) ?_
    refine h_st rfl rfl ?_
    refine h_ci1 rfl (Nat.le_of_ble_eq_true rfl) rfl rfl (k_77) (fun σ' y hb => ?_)
    obtain ⟨hss, rfl⟩ := hb
    replace hss := hss.symm
    subst hss
    refine h_st rfl rfl ?_
    refine h_st rfl rfl ?_
    refine h_st rfl rfl ?_
    refine h_ci1 rfl (Nat.le_of_ble_eq_true rfl) rfl rfl (k_77) (fun σ' y hb => ?_)
    obtain ⟨hss, rfl⟩ := hb
    replace hss := hss.symm
    subst hss
    refine h_st rfl rfl ?_
    refine h_pc (if_neg (by decide)) ?_
    refine h_st rfl rfl ?_
    refine h_st rfl rfl ?_
    refine h_st rfl rfl ?_
    refine h_st rfl rfl ?_
    refine h_st rfl rfl ?_
    refine h_st rfl rfl ?_
    refine h_st rfl rfl ?_
    refine h_st rfl rfl ?_
    refine h_st rfl rfl ?_
    refine h_st rfl rfl ?_
    refine h_st rfl rfl ?_
    refine h_st rfl rfl ?_
    refine h_ci1 rfl (Nat.le_of_ble_eq_true rfl) rfl rfl (k_77) (fun σ' y hb => ?_)
    obtain ⟨hss, rfl⟩ := hb
    replace hss := hss.symm
    subst hss
    refine h_st rfl rfl ?_
    refine h_pc (if_neg (by decide)) ?_
    refine h_st rfl rfl ?_
    refine h_st rfl rfl ?_
    refine h_st rfl rfl ?_
    refine h_st rfl rfl ?_
    refine h_st rfl rfl ?_
    refine h_st rfl rfl ?_
    refine h_st rfl rfl ?_
    refine h_st rfl rfl ?_
    refine h_st rfl rfl ?_
    refine h_st rfl rfl ?_
    refine h_st rfl rfl ?_
    refine h_st rfl rfl ?_
    refine h_ci1 rfl (Nat.le_of_ble_eq_true rfl) rfl rfl (k_77) (fun σ' y hb => ?_)
    obtain ⟨hss, rfl⟩ := hb
    replace hss := hss.symm
    subst hss
    refine h_st rfl rfl ?_
    refine h_pc (if_pos (by decide)) ?_
    refine h_st rfl rfl ?_
    exact h_rt rfl rfl (⟨_, _, rfl, rfl, by decide⟩)
  · refine h_in rfl rfl (Nat.le_of_ble_eq_true rfl) ?_
    refine h_st rfl rfl ?_
    refine h_st rfl rfl ?_
    refine h_st rfl rfl ?_
    refine h_st rfl rfl ?_
    refine h_st rfl rfl ?_
    refine h_st rfl rfl ?_
    refine h_st rfl rfl ?_
    refine h_st rfl rfl ?_
    refine h_st rfl rfl ?_
    refine h_st rfl rfl ?_
    refine h_st rfl rfl ?_
    refine h_ci1 rfl (Nat.le_of_ble_eq_true rfl) rfl rfl (k_77) (fun σ' y hb => ?_)
    obtain ⟨hss, rfl⟩ := hb
    replace hss := hss.symm
    subst hss
    refine h_st rfl rfl ?_
    refine h_st rfl rfl ?_
    refine h_st rfl rfl ?_
    refine h_ci1 rfl (Nat.le_of_ble_eq_true rfl) rfl rfl (k_77) (fun σ' y hb => ?_)
    obtain ⟨hss, rfl⟩ := hb
    replace hss := hss.symm
    subst hss
    refine h_st rfl rfl ?_
    refine h_pc (if_pos (by decide)) ?_
    refine h_st rfl rfl ?_
    refine h_ci1 rfl (Nat.le_of_ble_eq_true rfl) rfl rfl (k_77) (fun σ' y hb => ?_)
    obtain ⟨hss, rfl⟩ := hb
    replace hss := hss.symm
    subst hss
    refine h_st rfl rfl ?_
    refine h_st rfl rfl ?_
    refine h_st rfl rfl ?_
    refine h_ci1 rfl (Nat.le_of_ble_eq_true rfl) rfl rfl (k_77) (fun σ' y hb => ?_)
    obtain ⟨hss, rfl⟩ := hb
    replace hss := hss.symm
    subst hss
    refine h_st rfl rfl ?_
    refine h_pc (if_neg (by decide)) ?_
    refine h_st rfl rfl ?_
    refine h_st rfl rfl ?_
    refine h_st rfl rfl ?_
    refine h_st rfl rfl ?_
    refine h_st rfl rfl ?_
    refine h_st rfl rfl ?_
    refine h_st rfl rfl ?_
    refine h_st rfl rfl ?_
    refine h_st rfl rfl ?_
    refine h_st rfl rfl ?_
    refine h_st rfl rfl ?_
    refine h_st rfl rfl ?_
    refine h_ci1 rfl (Nat.le_of_ble_eq_true rfl) rfl rfl (k_77) (fun σ' y hb => ?_)
    obtain ⟨hss, rfl⟩ := hb
    replace hss := hss.symm
    subst hss
    refine h_st rfl rfl ?_
    refine h_pc (if_pos (by decide)) ?_
    refine h_st rfl rfl ?_
    exact h_rt rfl rfl (⟨_, _, rfl, rfl, by decide⟩)
  · refine h_in rfl rfl (Nat.le_of_ble_eq_true rfl) ?_
    refine h_st rfl rfl ?_
    refine h_st rfl rfl ?_
    refine h_st rfl rfl ?_
    refine h_st rfl rfl ?_
    refine h_st rfl rfl ?_
    refine h_st rfl rfl ?_
    refine h_st rfl rfl ?_
    refine h_st rfl rfl ?_
    refine h_st rfl rfl ?_
    refine h_st rfl rfl ?_
    refine h_st rfl rfl ?_
    refine h_ci1 rfl (Nat.le_of_ble_eq_true rfl) rfl rfl (k_77) (fun σ' y hb => ?_)
    obtain ⟨hss, rfl⟩ := hb
    replace hss := hss.symm
    subst hss
    refine h_st rfl rfl ?_
    refine h_st rfl rfl ?_
    refine h_st rfl rfl ?_
    refine h_ci1 rfl (Nat.le_of_ble_eq_true rfl) rfl rfl (k_77) (fun σ' y hb => ?_)
    obtain ⟨hss, rfl⟩ := hb
    replace hss := hss.symm
    subst hss
    refine h_st rfl rfl ?_
    refine h_pc (if_pos (by decide)) ?_
    refine h_st rfl rfl ?_
    refine h_ci1 rfl (Nat.le_of_ble_eq_true rfl) rfl rfl (k_77) (fun σ' y hb => ?_)
    obtain ⟨hss, rfl⟩ := hb
    replace hss := hss.symm
    subst hss
    refine h_st rfl rfl ?_
    refine h_st rfl rfl ?_
    refine h_st rfl rfl ?_
    refine h_ci1 rfl (Nat.le_of_ble_eq_true rfl) rfl rfl (k_77) (fun σ' y hb => ?_)
    obtain ⟨hss, rfl⟩ := hb
    replace hss := hss.symm
    subst hss
    refine h_st rfl rfl ?_
    refine h_pc (if_pos (by decide)) ?_
    refine h_st rfl rfl ?_
    exact h_rt rfl rfl (⟨_, _, rfl, rfl, by decide⟩)
  · refine h_in rfl rfl (Nat.le_of_ble_eq_true rfl) ?_
    refine h_st rfl rfl ?_
    refine h_st rfl rfl ?_
    refine h_st rfl rfl ?_
    refine h_st rfl rfl ?_
    refine h_st rfl rfl ?_
    refine h_st rfl rfl ?_
    refine h_st rfl rfl ?_
    refine h_st rfl rfl ?_
    refine h_st rfl rfl ?_
    refine h_st rfl rfl ?_
    refine h_st rfl rfl ?_
    refine h_ci1 rfl (Nat.le_of_ble_eq_true rfl) rfl rfl (k_77) (fun σ' y hb => ?_)
    obtain ⟨hss, rfl⟩ := hb
    replace hss := hss.symm
    subst hss
    refine h_st rfl rfl ?_
    refine h_st rfl rfl ?_
    refine h_st rfl rfl ?_
    refine h_ci1 rfl (Nat.le_of_ble_eq_true rfl) rfl rfl (k_77) (fun σ' y hb => ?_)
    obtain ⟨hss, rfl⟩ := hb
    replace hss := hss.symm
    subst hss
    refine h_st rfl rfl ?_
    refine h_pc (if_pos (by decide)) ?_
    refine h_st rfl rfl ?_
    refine h_ci1 rfl (Nat.le_of_ble_eq_true rfl) rfl rfl (k_77) (fun σ' y hb => ?_)
    obtain ⟨hss, rfl⟩ := hb
    replace hss := hss.symm
    subst hss
    refine h_st rfl rfl ?_
    refine h_st rfl rfl ?_
    refine h_st rfl rfl ?_
    refine h_ci1 rfl (Nat.le_of_ble_eq_true rfl) rfl rfl (k_77) (fun σ' y hb => ?_)
    obtain ⟨hss, rfl⟩ := hb
    replace hss := hss.symm
    subst hss
    refine h_st rfl rfl ?_
    refine h_pc (if_neg (by decide)) ?_
    refine h_st rfl rfl ?_
    refine h_st rfl rfl ?_
    refine h_st rfl rfl ?_
    refine h_st rfl rfl ?_
    refine h_st rfl rfl ?_
    refine h_st rfl rfl ?_
    refine h_st rfl rfl ?_
    refine h_st rfl rfl ?_
    refine h_st rfl rfl ?_
    refine h_st rfl rfl ?_
    refine h_st rfl rfl ?_
    refine h_st rfl rfl ?_
    refine h_ci1 rfl (Nat.le_of_ble_eq_true rfl) rfl rfl (k_77) (fun σ' y hb => ?_)
    obtain ⟨hss, rfl⟩ := hb
    replace hss := hss.symm
    subst hss
    refine h_st rfl rfl ?_
    refine h_pc (if_neg (by decide)) ?_
    refine h_st rfl rfl ?_
    refine h_st rfl rfl ?_
    refine h_st rfl rfl ?_
    refine h_st rfl rfl ?_
    refine h_st rfl rfl ?_
    refine h_st rfl rfl ?_
    refine h_st rfl rfl ?_
    refine h_st rfl rfl ?_
    refine h_st rfl rfl ?_
    refine h_st rfl rfl ?_
    refine h_st rfl rfl ?_
    refine h_st rfl rfl ?_
    refine h_ci1 rfl (Nat.le_of_ble_eq_true rfl) rfl rfl (k_77) (fun σ' y hb => ?_)
    obtain ⟨hss, rfl⟩ := hb
    replace hss := hss.symm
    subst hss
    refine h_st rfl rfl ?_
    refine h_pc (if_pos (by decide)) ?_
    refine h_st rfl rfl ?_
    exact h_rt rfl rfl (⟨_, _, rfl, rfl, by decide⟩)
  · refine h_in rfl rfl (Nat.le_of_ble_eq_true rfl) ?_
    refine h_st rfl rfl ?_
    refine h_st rfl rfl ?_
    refine h_st rfl rfl ?_
    refine h_st rfl rfl ?_
    refine h_st rfl rfl ?_
    refine h_st rfl rfl ?_
    refine h_st rfl rfl ?_
    refine h_st rfl rfl ?_
    refine h_st rfl rfl ?_
    refine h_st rfl rfl ?_
    refine h_st rfl rfl ?_
    refine h_ci1 rfl (Nat.le_of_ble_eq_true rfl) rfl rfl (k_77) (fun σ' y hb => ?_)
    obtain ⟨hss, rfl⟩ := hb
    replace hss := hss.symm
    subst hss
    refine h_st rfl rfl ?_
    refine h_st rfl rfl ?_
    refine h_st rfl rfl ?_
    refine h_ci1 rfl (Nat.le_of_ble_eq_true rfl) rfl rfl (k_77) (fun σ' y hb => ?_)
    obtain ⟨hss, rfl⟩ := hb
    replace hss := hss.symm
    subst hss
    refine h_st rfl rfl ?_
    refine h_pc (if_pos (by decide)) ?_
    refine h_st rfl rfl ?_
    refine h_ci1 rfl (Nat.le_of_ble_eq_true rfl) rfl rfl (k_77) (fun σ' y hb => ?_)
    obtain ⟨hss, rfl⟩ := hb
    replace hss := hss.symm
    subst hss
    refine h_st rfl rfl ?_
    refine h_st rfl rfl ?_
    refine h_st rfl rfl ?_
    refine h_ci1 rfl (Nat.le_of_ble_eq_true rfl) rfl rfl (k_77) (fun σ' y hb => ?_)
    obtain ⟨hss, rfl⟩ := hb
    replace hss := hss.symm
    subst hss
    refine h_st rfl rfl ?_
    refine h_pc (if_pos (by decide)) ?_
    refine h_st rfl rfl ?_
    exact h_rt rfl rfl (⟨_, _, rfl, rfl, by decide⟩)
  · refine h_in rfl rfl (Nat.le_of_ble_eq_true rfl) ?_
    refine h_st rfl rfl ?_
    refine h_st rfl rfl ?_
    refine h_st rfl rfl ?_
    refine h_st rfl rfl ?_
    refine h_st rfl rfl ?_
    refine h_st rfl rfl ?_
    refine h_st rfl rfl ?_
    refine h_st rfl rfl ?_
    refine h_st rfl rfl ?_
    refine h_st rfl rfl ?_
    refine h_st rfl rfl ?_
    refine h_ci1 rfl (Nat.le_of_ble_eq_true rfl) rfl rfl (k_77) (fun σ' y hb => ?_)
    obtain ⟨hss, rfl⟩ := hb
    replace hss := hss.symm
    subst hss
    refine h_st rfl rfl ?_
    refine h_st rfl rfl ?_
    refine h_st rfl rfl ?_
    refine h_ci1 rfl (Nat.le_of_ble_eq_true rfl) rfl rfl (k_77) (fun σ' y hb => ?_)
    obtain ⟨hss, rfl⟩ := hb
    replace hss := hss.symm
    subst hss
    refine h_st rfl rfl ?_
    refine h_pc (if_neg (by decide)) ?_
    refine h_st rfl rfl ?_
    refine h_st rfl rfl ?_
    refine h_st rfl rfl ?_
    refine h_st rfl rfl ?_
    refine h_st rfl rfl ?_
    refine h_st rfl rfl ?_
    refine h_st rfl rfl ?_
    refine h_st rfl rfl ?_
    refine h_st rfl rfl ?_
    refine h_st rfl rfl ?_
    refine h_st rfl rfl ?_
    refine h_st rfl rfl ?_
    refine h_ci1 rfl (Nat.le_of_ble_eq_true rfl) rfl rfl (k_77) (fun σ' y hb => ?_)
    obtain ⟨hss, rfl⟩ := hb
    replace hss := hss.symm
    subst hss
    refine h_st rfl rfl ?_
    refine h_pc (if_pos (by decide)) ?_
    refine h_st rfl rfl ?_
    refine h_ci1 rfl (Nat.le_of_ble_eq_true rfl) rfl rfl (k_77) (fun σ' y hb => ?_)
    obtain ⟨hss, rfl⟩ := hb
    replace hss := hss.symm
    subst hss
    refine h_st rfl rfl ?_
    refine h_st rfl rfl ?_
    refine h_st rfl rfl ?_
    refine h_ci1 rfl (Nat.le_of_ble_eq_true rfl) rfl rfl (k_77) (fun σ' y hb => ?_)
    obtain ⟨hss, rfl⟩ := hb
    replace hss := hss.symm
    subst hss
    refine h_st rfl rfl ?_
    refine h_pc (if_pos (by decide)) ?_
    refine h_st rfl rfl ?_
    exact h_rt rfl rfl (⟨_, _, rfl, rfl, by decide⟩)
  · refine h_in rfl rfl (Nat.le_of_ble_eq_true rfl) ?_
    refine h_st rfl rfl ?_
    refine h_st rfl rfl ?_
    refine h_st rfl rfl ?_
    refine h_st rfl rfl ?_
    refine h_st rfl rfl ?_
    refine h_st rfl rfl ?_
    refine h_st rfl rfl ?_
    refine h_st rfl rfl ?_
    refine h_st rfl rfl ?_
    refine h_st rfl rfl ?_
    refine h_st rfl rfl ?_
    refine h_ci1 rfl (Nat.le_of_ble_eq_true rfl) rfl rfl (k_77) (fun σ' y hb => ?_)
    obtain ⟨hss, rfl⟩ := hb
    replace hss := hss.symm
    subst hss
    refine h_st rfl rfl ?_
    refine h_st rfl rfl ?_
    refine h_st rfl rfl ?_
    refine h_ci1 rfl (Nat.le_of_ble_eq_true rfl) rfl rfl (k_77) (fun σ' y hb => ?_)
    obtain ⟨hss, rfl⟩ := hb
    replace hss := hss.symm
    subst hss
    refine h_st rfl rfl ?_
    refine h_pc (if_neg (by decide)) ?_
    refine h_st rfl rfl ?_
    refine h_st rfl rfl ?_
    refine h_st rfl rfl ?_
    refine h_st rfl rfl ?_
    refine h_st rfl rfl ?_
    refine h_st rfl rfl ?_
    refine h_st rfl rfl ?_
    refine h_st rfl rfl ?_
    refine h_st rfl rfl ?_
    refine h_st rfl rfl ?_
    refine h_st rfl rfl ?_
    refine h_st rfl rfl ?_
    refine h_ci1 rfl (Nat.le_of_ble_eq_true rfl) rfl rfl (k_77) (fun σ' y hb => ?_)
    obtain ⟨hss, rfl⟩ := hb
    replace hss := hss.symm
    subst hss
    refine h_st rfl rfl ?_
    refine h_pc (if_neg (by decide)) ?_
    refine h_st rfl rfl ?_
    refine h_st rfl rfl ?_
    refine h_st rfl rfl ?_
    refine h_st rfl rfl ?_
    refine h_st rfl rfl ?_
    refine h_st rfl rfl ?_
    refine h_st rfl rfl ?_
    refine h_st rfl rfl ?_
    refine h_st rfl rfl ?_
    refine h_st rfl rfl ?_
    refine h_st rfl rfl ?_
    refine h_st rfl rfl ?_
    refine h_ci1 rfl (Nat.le_of_ble_eq_true rfl) rfl rfl (k_77) (fun σ' y hb => ?_)
    obtain ⟨hss, rfl⟩ := hb
    replace hss := hss.symm
    subst hss
    refine h_st rfl rfl ?_
    refine h_pc (if_pos (by decide)) ?_
    refine h_st rfl rfl ?_
    refine h_ci1 rfl (Nat.le_of_ble_eq_true rfl) rfl rfl (k_77) (fun σ' y hb => ?_)
    obtain ⟨hss, rfl⟩ := hb
    replace hss := hss.symm
    subst hss
    refine h_st rfl rfl ?_
    refine h_st rfl rfl ?_
    refine h_st rfl rfl ?_
    refine h_ci1 rfl (Nat.le_of_ble_eq_true rfl) rfl rfl (k_77) (fun σ' y hb => ?_)
    obtain ⟨hss, rfl⟩ := hb
    replace hss := hss.symm
    subst hss
    refine h_st rfl rfl ?_
    refine h_pc (if_pos (by decide)) ?_
    refine h_st rfl rfl ?_
    exact h_rt rfl rfl (⟨_, _, rfl, rfl, by decide⟩)
  · refine h_in rfl rfl (Nat.le_of_ble_eq_true rfl) ?_
    refine h_st rfl rfl ?_
    refine h_st rfl rfl ?_
    refine h_st rfl rfl ?_
    refine h_st rfl rfl ?_
    refine h_st rfl rfl ?_
    refine h_st rfl rfl ?_
    refine h_st rfl rfl ?_
    refine h_st rfl rfl ?_
    refine h_st rfl rfl ?_
    refine h_st rfl rfl ?_
    refine h_st rfl rfl ?_
    refine h_ci1 rfl (Nat.le_of_ble_eq_true rfl) rfl rfl (k_77) (fun σ' y hb => ?_)
    obtain ⟨hss, rfl⟩ := hb
    replace hss := hss.symm
    subst hss
    refine h_st rfl rfl ?_
    refine h_st rfl rfl ?_
    refine h_st rfl rfl ?_
    refine h_ci1 rfl (Nat.le_of_ble_eq_true rfl) rfl rfl (k_77) (fun σ' y hb => ?_)
    obtain ⟨hss, rfl⟩ := hb
    replace hss := hss.symm
    subst hss
    refine h_st rfl rfl ?_
    refine h_pc (if_pos (by decide)) ?_
    refine h_st rfl rfl ?_
    refine h_ci1 rfl (Nat.le_of_ble_eq_true rfl) rfl rfl (k_77) (fun σ' y hb => ?_)
    obtain ⟨hss, rfl⟩ := hb
    replace hss := hss.symm
    subst hss
    refine h_st rfl rfl ?_
    refine h_st rfl rfl ?_
    refine h_st rfl rfl ?_
    refine h_ci1 rfl (Nat.le_of_ble_eq_true rfl) rfl rfl (k_77) (fun σ' y hb => ?_)
    obtain ⟨hss, rfl⟩ := hb
    replace hss := hss.symm
    subst hss
    refine h_st rfl rfl ?_
    refine h_pc (if_pos (by decide)) ?_
    refine h_st rfl rfl ?_
    exact h_rt rfl rfl (⟨_, _, rfl, rfl, by decide⟩)
/-- the lines of a link's ways, as far as end system e -/
def pths (i : Nat) (t : Int32) : Nat → Int32
  | 0 => 0
  | e + 1 => if (t >>> (nI e &&& 31)) &&& 1 = 0 then pths i t e else pths i t e ||| pt i e
theorem c_83a {i N : Nat} {l g m t6 f6 hv qv : Int32} {σx : ae_S} {Kx : Nat → Nat} (hi : i < 4) (hqv : qv = 0 ∨ qv = 1) (hlo : σ0.2.length ≤ p) (hpN : p < N) {P : ae_S × ae_O → Prop} (hx9 : ∀ (σ : ae_S) (K : Nat → Nat) (hx : Ex b (s + 52) (t + 20112) K0 σ0 K σ) (hk : σ.2[p]? = some (.inr (4, [.int l, .int (nI i), .int g, .int m, .int hv, .int qv, .int 0, .ref N, .ref (N + 1), .ref (N + 1 + 1), .int 0, .int 0, .int 0, .int (-1), .int 0]))) (hK : K p = 0) (h19 : K N = 0) (h20 : K (N + 1) = 20) (hKw : K (N + 1 + 1) = 0) (f0 : Nat → Option Nat) (hpo : σ.2[N]? = some (.inl (7, rfs 4 f0))) (hpf : ∀ e, e < 4 → (e < 4 → (f0 e = none ↔ (t6 >>> (nI e &&& 31)) &&& 1 = 0)) ∧ (4 ≤ e → f0 e = none) ∧ ∀ q, f0 e = some q → K q = 23) (hw : σ.2[N + 1 + 1]? = some (.inl (8, rfs 8 (fun _ => none)))) (hfr : ∀ q, q < N → q ≠ p → K q = Kx q ∧ σ.2[q]? = σx.2[q]?), N + 1 + 1 < σ.2.length → hG ra (d + 2) 83 σ [some (.ref p), some (.int l), some (.int (nI i)), some (.int g), some (.int m), some (.int t6), some (.int f6), some (.int (pths i t6 4)), some (.int (nI 4))] [] 167 P) : ∀ (m' j : Nat) (σ : ae_S) (K : Nat → Nat) (_ : j + m' = 4) (hx : Ex b (s + 13 * j) (t + 5028 * j) K0 σ0 K σ) (hk : σ.2[p]? = some (.inr (4, [.int l, .int (nI i), .int g, .int m, .int hv, .int qv, .int 0, .ref N, .ref (N + 1), .ref (N + 1 + 1), .int 0, .int 0, .int 0, .int (-1), .int 0]))) (hK : K p = 0) (h19 : K N = 0) (h20 : K (N + 1) = 20) (hKw : K (N + 1 + 1) = 0) (f0 : Nat → Option Nat) (hpo : σ.2[N]? = some (.inl (7, rfs 4 f0))) (hpf : ∀ e, e < 4 → (e < j → (f0 e = none ↔ (t6 >>> (nI e &&& 31)) &&& 1 = 0)) ∧ (j ≤ e → f0 e = none) ∧ ∀ q, f0 e = some q → K q = 23) (hw : σ.2[N + 1 + 1]? = some (.inl (8, rfs 8 (fun _ => none)))) (hfr : ∀ q, q < N → q ≠ p → K q = Kx q ∧ σ.2[q]? = σx.2[q]?), N + 1 + 1 < σ.2.length → hG ra (d + 2) 83 σ [some (.ref p), some (.int l), some (.int (nI i)), some (.int g), some (.int m), some (.int t6), some (.int f6), some (.int (pths i t6 j)), some (.int (nI j))] [] 112 P := by
  intro m'
  induction m' with
  | zero =>
    intro j σ K hj hx hk hK h19 h20 hKw f0 hpo hpf hw hfr hN
    have hj : j = 4 := by omega
    subst hj
    refine h_st rfl rfl ?_
    refine h_st rfl rfl ?_
    refine h_st rfl rfl ?_
    refine h_pc (if_pos (decide_eq_true (nI_le (Nat.le_refl 4) (by decide)))) ?_
    exact hx9 _ _ hx hk hK h19 h20 hKw f0 hpo hpf hw hfr hN
  | succ m' ih =>
    intro j σ K hjm hx hk hK h19 h20 hKw f0 hpo hpf hw hfr hN
    have hj : j < 4 := by omega
    have ih1 := fun σ K => ih (j + 1) σ K (by omega)
    simp only [← nI_1] at ih1
    refine h_st rfl rfl ?_
    refine h_st rfl rfl ?_
    refine h_st rfl rfl ?_
    refine h_pc (if_neg (fun z9 => (nI_ge hj (by decide)) (of_decide_eq_true z9))) ?_
    refine h_st rfl rfl ?_
    refine h_st rfl rfl ?_
    refine h_st rfl rfl ?_
    refine h_st rfl rfl ?_
    refine h_st rfl rfl ?_
    refine h_st rfl rfl ?_
    refine h_br (fun hbit => ?_) (fun hbit => ?_)
    · have ep : pths i t6 (j + 1) = pths i t6 j := if_pos hbit
      rw [ep] at ih1
      refine h_st rfl rfl ?_
      refine h_st rfl rfl ?_
      refine ih1 _ _ (hx.le (by omega) (by omega)) hk hK h19 h20 hKw f0 hpo (fun e he => ⟨fun h1 => ?_, fun h1 => (hpf e he).2.1 (by omega), (hpf e he).2.2⟩) hw hfr hN
      by_cases ee : e = j
      · subst ee
        exact ⟨fun _ => hbit, fun _ => (hpf e he).2.1 (Nat.le_refl _)⟩
      · exact (hpf e he).1 (by omega)
    · have ep : pths i t6 (j + 1) = pths i t6 j ||| pt i j := if_neg hbit
      rw [ep] at ih1
      refine h_st rfl rfl ?_
      refine h_st rfl rfl ?_
      refine h_st rfl rfl ?_
      refine h_ci2 rfl (Nat.le_of_ble_eq_true rfl) rfl rfl (k_76x hi hj) (fun σ' y hb => ?_)
      obtain ⟨hss, rfl⟩ := hb
      replace hss := hss.symm
      subst hss
      refine h_st rfl rfl ?_
      refine h_st rfl rfl ?_
      refine h_st rfl rfl ?_
      refine h_st rfl (e_get hk rfl) ?_
      refine h_st rfl rfl ?_
      refine h_st rfl rfl ?_
      have hz9 := ty_z hx.ty (Nat.le_refl _)
      have hlN := hx.2.1
      have hpl : p < σ.2.length := by omega
      have hlt23 : ∀ q, K q = 23 → q < σ.2.length := fun q hq => hx.ty.lt (by omega)
      replace hx := hx.push (x := .inr (5, cd_Port)) (n := 12) (a := 0) (e := 0) rfl
      have hnew : (((σ.1.1 + 1, σ.1.2 + 12), σ.2 ++ [.inr (5, cd_Port)]) : ae_S).2[σ.2.length]? = some (.inr (5, cd_Port)) := by simp
      have hl1 : (((σ.1.1 + 1, σ.1.2 + 12), σ.2 ++ [.inr (5, cd_Port)]) : ae_S).2.length = σ.2.length + 1 := by simp
      have hap : ∀ q, q < σ.2.length → (((σ.1.1 + 1, σ.1.2 + 12), σ.2 ++ [.inr (5, cd_Port)]) : ae_S).2[q]? = σ.2[q]? := fun q hq => List.getElem?_append_left hq
      have hk1 := (hap p hpl).trans hk
      have ej : (nI j).toNatClampNeg = j := nI_clamp (by omega)
      refine h_st rfl rfl ?_
      refine h_st rfl rfl ?_
      refine h_st rfl (e_get hk1 rfl) ?_
      refine h_st rfl rfl ?_
      refine h_st rfl rfl ?_
      refine h_st rfl rfl ?_
      refine h_cv3 rfl (Nat.le_of_ble_eq_true rfl) (e_rcv hnew) rfl (c_84t hqv hx (by omega) hz9 hnew) (fun σ2 hq => ?_)
      obtain ⟨K2, hx2, hK23, hf2⟩ := hq
      rw [hl1] at hf2
      have f1 := hf2 p (by omega) (by omega)
      have f2 := hf2 N (by omega) (by omega)
      have f3 := hf2 (N + 1) (by omega) (by omega)
      have f4 := hf2 (N + 1 + 1) (by omega) (by omega)
      have hpo2 := f2.2.trans ((hap N (by omega)).trans hpo)
      have hK192 := f2.1.trans h19
      obtain ⟨n9, z9, sk9, la9, ts9, ta9, ib9, bn9, be9, ke9, fk9, kc9, ca9, hc9, -⟩ := hx2.ty.k23 hK23
      have hx3 := hx2.setU (c := .inl (7, rfs 4 (va_up f0 (nI j).toNatClampNeg (some σ.2.length)))) (by omega) hK192 hpo2 ⟨Nat.mul_le_mul_left _ (nl_up _), Nat.mul_le_mul_left _ (nl_up _)⟩
      refine h_st rfl (e_aas hpo2 hc9 (by decide) (nI_in hj (by decide))) ?_
      refine h_st rfl rfl ?_
      refine h_st rfl rfl ?_
      refine ih1 _ _ (hx3.le (by omega) (by omega)) ((st_ne (by omega)).trans (f1.2.trans hk1)) (f1.1.trans hK) hK192 (f3.1.trans h20) (f4.1.trans hKw) _ (st_get hpo2) (fun e he => ?_) ((st_ne (by omega)).trans (f4.2.trans ((hap _ hN).trans hw))) (fun q h1 h2 => ⟨((hf2 q (by omega) (by omega)).1).trans (hfr q h1 h2).1, (st_ne (by omega)).trans ((hf2 q (by omega) (by omega)).2.trans ((hap q (by omega)).trans (hfr q h1 h2).2))⟩) (Nat.lt_trans hN (hx3.ty.lt (p := σ.2.length) (by omega)))
      rw [ej]
      by_cases ee : e = j
      · subst ee
        have ev : va_up f0 e (some σ.2.length) e = some σ.2.length := by simp [va_up]
        rw [ev]
        exact ⟨fun _ => ⟨(fun z => by cases z), fun z => absurd z hbit⟩, fun z => absurd z (by omega), (fun q hq => by cases hq; exact hK23)⟩
      · have ev : va_up f0 j (some σ.2.length) e = f0 e := by simp [va_up, ee]
        rw [ev]
        refine ⟨fun h1 => (hpf e he).1 (by omega), fun h1 => (hpf e he).2.1 (by omega), fun q hq => ?_⟩
        have h23 := (hpf e he).2.2 q hq
        have := hlt23 q h23
        exact ((hf2 q (by omega) (by omega)).1).trans h23
theorem c_83b {i N : Nat} {l g m t6 f6 hv qv : Int32} {σx : ae_S} {Kx : Nat → Nat} {pa x7 : Int32} (hlo : σ0.2.length ≤ p) (hpN : p < N) {P : ae_S × ae_O → Prop} (hx9 : ∀ (σ : ae_S) (K : Nat → Nat) (hx : Ex b (s + 8) (t + 48) K0 σ0 K σ) (hk : σ.2[p]? = some (.inr (4, [.int l, .int (nI i), .int g, .int m, .int hv, .int qv, .int pa, .ref N, .ref (N + 1), .ref (N + 1 + 1), .int 0, .int 0, .int 0, .int (-1), .int 0]))) (hK : K p = 0) (h19 : K N = 19) (h20 : K (N + 1) = 20) (hKw : K (N + 1 + 1) = 0) (f2 : Nat → Option Nat) (hw : σ.2[N + 1 + 1]? = some (.inl (8, rfs 8 f2))) (hwf : ∀ q, q < 8 → ∃ r, f2 q = some r ∧ K r = 22) (hfr : ∀ q, q < N + 1 → q ≠ p → K q = Kx q ∧ σ.2[q]? = σx.2[q]?), N + 1 + 1 < σ.2.length → hG ra (d + 2) 83 σ [some (.ref p), some (.int l), some (.int (nI i)), some (.int g), some (.int m), some (.int t6), some (.int f6), some (.int x7), some (.int (nI 8))] [] 203 P) : ∀ (m' j : Nat) (σ : ae_S) (K : Nat → Nat) (_ : j + m' = 8) (hx : Ex b (s + j) (t + 6 * j) K0 σ0 K σ) (hk : σ.2[p]? = some (.inr (4, [.int l, .int (nI i), .int g, .int m, .int hv, .int qv, .int pa, .ref N, .ref (N + 1), .ref (N + 1 + 1), .int 0, .int 0, .int 0, .int (-1), .int 0]))) (hK : K p = 0) (h19 : K N = 19) (h20 : K (N + 1) = 20) (hKw : K (N + 1 + 1) = 0) (f2 : Nat → Option Nat) (hw : σ.2[N + 1 + 1]? = some (.inl (8, rfs 8 f2))) (hwf : ∀ q, q < j → ∃ r, f2 q = some r ∧ K r = 22) (hfr : ∀ q, q < N + 1 → q ≠ p → K q = Kx q ∧ σ.2[q]? = σx.2[q]?), N + 1 + 1 < σ.2.length → hG ra (d + 2) 83 σ [some (.ref p), some (.int l), some (.int (nI i)), some (.int g), some (.int m), some (.int t6), some (.int f6), some (.int x7), some (.int (nI j))] [] 176 P := by
  intro m'
  induction m' with
  | zero =>
    intro j σ K hj hx hk hK h19 h20 hKw f2 hw hwf hfr hN
    have hj : j = 8 := by omega
    subst hj
    refine h_st rfl rfl ?_
    refine h_st rfl rfl ?_
    refine h_st rfl rfl ?_
    refine h_pc (if_pos (decide_eq_true (nI_le (Nat.le_refl 8) (by decide)))) ?_
    exact hx9 _ _ hx hk hK h19 h20 hKw f2 hw hwf hfr hN
  | succ m' ih =>
    intro j σ K hjm hx hk hK h19 h20 hKw f2 hw hwf hfr hN
    have hj : j < 8 := by omega
    have ih1 := fun σ K => ih (j + 1) σ K (by omega)
    simp only [← nI_1] at ih1
    refine h_st rfl rfl ?_
    refine h_st rfl rfl ?_
    refine h_st rfl rfl ?_
    refine h_pc (if_neg (fun z9 => (nI_ge hj (by decide)) (of_decide_eq_true z9))) ?_
    refine h_st rfl rfl ?_
    refine h_st rfl (e_get hk rfl) ?_
    refine h_st rfl rfl ?_
    refine h_st rfl rfl ?_
    have hz9 := ty_z hx.ty (Nat.le_refl _)
    have hlN := hx.2.1
    have hpl : p < σ.2.length := by omega
    have hlt22 : ∀ r, K r = 22 → r < σ.2.length := fun r hr => hx.ty.lt (by omega)
    replace hx := hx.push (x := .inr (1, cd_Fragment)) (n := 6) (a := 0) (e := 0) rfl
    have hnew : (((σ.1.1 + 1, σ.1.2 + 6), σ.2 ++ [.inr (1, cd_Fragment)]) : ae_S).2[σ.2.length]? = some (.inr (1, cd_Fragment)) := by simp
    have hl1 : (((σ.1.1 + 1, σ.1.2 + 6), σ.2 ++ [.inr (1, cd_Fragment)]) : ae_S).2.length = σ.2.length + 1 := by simp
    have hap : ∀ q, q < σ.2.length → (((σ.1.1 + 1, σ.1.2 + 6), σ.2 ++ [.inr (1, cd_Fragment)]) : ae_S).2[q]? = σ.2[q]? := fun q hq => List.getElem?_append_left hq
    have ej : (nI j).toNatClampNeg = j := nI_clamp (by omega)
    refine h_st rfl rfl ?_
    refine h_cv1 rfl (Nat.le_of_ble_eq_true rfl) (e_rcv hnew) rfl (c_85t hx (by omega) hz9 hnew) (fun σ2 hq => ?_)
    obtain ⟨K2, hx2, hK22, hf2⟩ := hq
    rw [hl1] at hf2
    have f1 := hf2 p (by omega) (by omega)
    have e2 := hf2 N (by omega) (by omega)
    have f3 := hf2 (N + 1) (by omega) (by omega)
    have f4 := hf2 (N + 1 + 1) (by omega) (by omega)
    obtain ⟨b1, b2, b3, b4, b5, b6, hc9⟩ := hx2.ty.k22 hK22
    have hw2 := f4.2.trans ((hap _ hN).trans hw)
    have hKw2 := f4.1.trans hKw
    have hx3 := hx2.setU (c := .inl (8, rfs 8 (va_up f2 (nI j).toNatClampNeg (some σ.2.length)))) (by omega) hKw2 hw2 ⟨Nat.mul_le_mul_left _ (nl_up _), Nat.mul_le_mul_left _ (nl_up _)⟩
    refine h_st rfl (e_aas hw2 hc9 (by decide) (nI_in hj (by decide))) ?_
    refine h_st rfl rfl ?_
    refine h_st rfl rfl ?_
    refine ih1 _ _ (hx3.le (by omega) (by omega)) ((st_ne (by omega)).trans (f1.2.trans ((hap p hpl).trans hk))) (f1.1.trans hK) (e2.1.trans h19) (f3.1.trans h20) hKw2 _ (st_get hw2) (fun q hq => ?_) (fun q h1 h2 => ⟨((hf2 q (by omega) (by omega)).1).trans (hfr q h1 h2).1, (st_ne (by omega)).trans ((hf2 q (by omega) (by omega)).2.trans ((hap q (by omega)).trans (hfr q h1 h2).2))⟩) (Nat.lt_trans hN (hx3.ty.lt (p := σ.2.length) (by omega)))
    rw [ej]
    by_cases e : q = j
    · exact ⟨σ.2.length, by simp [va_up, e], hK22⟩
    · obtain ⟨r, hr1, hr2⟩ := hwf q (by omega)
      have := hlt22 r hr2
      exact ⟨r, by simp [va_up, e, hr1], ((hf2 r (by omega) (by omega)).1).trans hr2⟩
theorem c_83c {i N : Nat} {l g m t6 f6 hv qv pa : Int32} {x7 : Int32} {P : ae_S × ae_O → Prop} (h20 : K (N + 1) = 20) (hk : σ.2[p]? = some (.inr (4, [.int l, .int (nI i), .int g, .int m, .int hv, .int qv, .int pa, .ref N, .ref (N + 1), .ref (N + 1 + 1), .int 0, .int 0, .int 0, .int (-1), .int 0]))) (hpN : p < N) (hx9 : ∀ (σ2 : ae_S) (hx : Ex b s t K0 σ0 K σ2), (∀ q, q ≠ N + 1 → σ2.2[q]? = σ.2[q]?) → hG ra (d + 2) 83 σ2 [some (.ref p), some (.int l), some (.int (nI i)), some (.int g), some (.int m), some (.int t6), some (.int f6), some (.int x7), some (.int (nI 2))] [] 232 P) : ∀ (m' j : Nat) (σ2 : ae_S) (_ : j + m' = 2) (hx : Ex b s t K0 σ0 K σ2), (∀ q, q ≠ N + 1 → σ2.2[q]? = σ.2[q]?) → hG ra (d + 2) 83 σ2 [some (.ref p), some (.int l), some (.int (nI i)), some (.int g), some (.int m), some (.int t6), some (.int f6), some (.int x7), some (.int (nI j))] [] 206 P := by
  intro m'
  induction m' with
  | zero =>
    intro j σ2 hj hx hoo
    have hj : j = 2 := by omega
    subst hj
    refine h_st rfl rfl ?_
    refine h_st rfl rfl ?_
    refine h_st rfl rfl ?_
    refine h_pc (if_pos (decide_eq_true (nI_le (Nat.le_refl 2) (by decide)))) ?_
    exact hx9 _ hx hoo
  | succ m' ih =>
    intro j σ2 hjm hx hoo
    have hj : j < 2 := by omega
    have ih1 := fun σ => ih (j + 1) σ (by omega)
    simp only [← nI_1] at ih1
    have hk1 := (hoo p (by omega)).trans hk
    obtain ⟨fa, hfa⟩ := hx.ty.k20 h20
    refine h_st rfl rfl ?_
    refine h_st rfl rfl ?_
    refine h_st rfl rfl ?_
    refine h_pc (if_neg (fun z9 => (nI_ge hj (by decide)) (of_decide_eq_true z9))) ?_
    refine h_st rfl rfl ?_
    refine h_st rfl (e_get hk1 rfl) ?_
    refine h_st rfl rfl ?_
    refine h_st rfl rfl ?_
    refine h_st rfl rfl ?_
    refine h_st rfl rfl ?_
    refine h_st rfl rfl ?_
    refine h_st rfl rfl ?_
    refine y_ias rfl hx hfa h20 (by omega) (ncs (by omega)) ((nI_in hj (by decide))) (fun f' => ok_20 ⟨f', rfl⟩) (fun σ2 hx2 g2 ho => ?_)
    replace hoo := fun q z => (ho q z).trans (hoo q z)
    replace hfa := g2
    clear g2 ho
    replace hx := hx2
    clear hx2
    refine h_st rfl rfl ?_
    refine h_st rfl rfl ?_
    exact ih1 _ hx hoo
set_option maxRecDepth 8192 in
theorem c_83r {i N mo N3 : Nat} {c : Nat × Nat} {l g m t6 f6 hv qv : Int32} {f1 : Nat → Int32} {σ1 : ae_S} {x7 x8 : Option Value} (hi : i < 4) (hm : m = nI mo) (hmo : 64 ≤ mo ∧ mo ≤ 128) (hqv : qv = if f6 &&& 2 = 0 then 0 else 1) (hx : Ex b s t K0 σ0 K σ) (hlo : σ0.2.length ≤ p) (hK : K p = 0) (hp : σ.2[p]? = some (.inr (4, cd_Link))) (hN : σ.2.length = N) (hc1 : c.1 ≤ σ.1.1 + 3) (hc2 : c.2 ≤ σ.1.2 + 14) (hN3 : N3 = N + 3) (hs : St σ p σ1 c N3 [(p, .inr (4, [.int l, .int (nI i), .int g, .int m, .int hv, .int qv, .int 0, .ref N, .ref (N + 1), .ref (N + 1 + 1), .int 0, .int 0, .int 0, .int (-1), .int 0])), (N, .inl (7, rfs 4 (fun _ => none))), (N + 1, .inl (0, 2, .inl f1)), (N + 1 + 1, .inl (8, rfs 8 (fun _ => none)))]) : hG ra (d + 2) 83 σ1 [some (.ref p), some (.int l), some (.int (nI i)), some (.int g), some (.int m), some (.int t6), some (.int f6), x7, x8] [] 106 (pV (fun σ' => ∃ K', Ex b (s + 63) (t + 20174) K0 σ0 K' σ' ∧ K' p = 18 ∧ (∃ hv po ac wa, (∃ pf, σ'.2[po]? = some (.inl (7, rfs 4 pf)) ∧ ∀ e, e < 4 → (pf e = none ↔ (t6 >>> (nI e &&& 31)) &&& 1 = 0)) ∧ K' po = 19 ∧ σ'.2[p]? = some (.inr (4, [.int l, .int (nI i), .int g, .int m, .int hv, .int (if f6 &&& 2 = 0 then 0 else 1), .int (pths i t6 4), .ref po, .ref ac, .ref wa, .int 0, .int 0, .int 0, .int (-1), .int 0]))) ∧ ∀ q, q < σ.2.length → q ≠ p → K' q = K q ∧ σ'.2[q]? = σ.2[q]?)) := by
  have hplt := (List.getElem?_eq_some_iff.mp hp).1
  have hT := hx.ty
  have hl0 := hx.2.1
  have hqv2 : qv = 0 ∨ qv = 1 := by
    rw [hqv]
    split
    · exact Or.inl rfl
    · exact Or.inr rfl
  have z0 := ty_z (p := N) hT (by omega)
  have z1 := ty_z (p := N + 1) hT (by omega)
  have z2 := ty_z (p := N + 1 + 1) hT (by omega)
  have hx1 : Ex b (s + 3) (t + 14) K0 σ0 K σ1 := by
    refine hx.st (cs := [.inl (7, rfs 4 (fun _ => none)), .inl (0, 2, .inl f1), .inl (8, rfs 8 (fun _ => none))]) hlo hK hp (by rw [hs.2.1, hN, hN3]; rfl) (hs.at 0 rfl) rfl hs.2.2.2.2 (fun i hi => ?_) ?_ ?_
    · rw [hN]
      rcases i with _ | _ | _ | i
      · exact hs.at 1 rfl
      · exact hs.at 2 rfl
      · exact hs.at 3 rfl
      · simp at hi
        omega
    · rw [hs.1]
      show c.1 + 0 ≤ _
      omega
    · rw [hs.1]
      show c.2 + 0 ≤ _
      omega
  obtain ⟨Kb, kb, ob, -, hx1⟩ := hx1.prom (p := N + 1) (kd := 20) (by omega) z1 (hs.at 2 rfl) (ok_20 ⟨_, rfl⟩)
  refine h_st rfl rfl ?_
  refine h_st rfl rfl ?_
  refine h_st rfl rfl ?_
  refine h_st rfl rfl ?_
  refine c_83a (σx := σ) (Kx := K) hi hqv2 hlo (by omega) (fun σ2 K2 hx hk hK h19 h20 hKw f0 hpo hpf hw hfr hN2 => ?_) 4 0 _ _ rfl hx1 (hs.at 0 rfl) ((ob _ (by omega)).trans hK) ((ob _ (by omega)).trans z0) kb ((ob _ (by omega)).trans z2) _ (hs.at 1 rfl) (fun e _ => ⟨fun h => absurd h (Nat.not_lt_zero _), fun _ => rfl, fun q h => by cases h⟩) (hs.at 3 rfl) (fun q h1 h2 => ⟨ob _ (by omega), hs.2.2.2.2 q (by omega) h2⟩) (by have := hs.2.1; omega)
  obtain ⟨K3, k3, o3, m3, hx⟩ := hx.prom (p := N) (kd := 19) (by omega) h19 hpo (ok_19 ⟨_, rfl, fun e q he hq => (hpf e he).2.2 q hq⟩)
  replace hK := (o3 p (by omega)).trans hK
  replace h20 := (o3 (N + 1) (by omega)).trans h20
  replace hKw := (o3 (N + 1 + 1) (by omega)).trans hKw
  replace hfr : ∀ q, q < N → q ≠ p → K3 q = K q ∧ σ2.2[q]? = σ.2[q]? := fun q h1 h2 => ⟨(o3 q (by omega)).trans (hfr q h1 h2).1, (hfr q h1 h2).2⟩
  have hx3 := hx.setU (c := .inr (4, [.int l, .int (nI i), .int g, .int m, .int hv, .int qv, .int (pths i t6 4), .ref N, .ref (N + 1), .ref (N + 1 + 1), .int 0, .int 0, .int 0, .int (-1), .int 0])) hlo hK hk ⟨Nat.le_refl _, Nat.le_refl _⟩
  refine h_st rfl rfl ?_
  refine h_st rfl rfl ?_
  refine h_st rfl (e_put hk rfl (Nat.le_of_ble_eq_true rfl)) ?_
  refine h_st rfl rfl ?_
  refine h_st rfl rfl ?_
  refine c_83b (pa := pths i t6 4) (Kx := K3) hlo (by omega) (fun σ4 K4 hx4 hk4 hK4 h194 h204 hKw4 f24 hw4 hwf4 hfr4 hN4 => ?_) 8 0 _ _ rfl hx3 (st_get hk) hK k3 h20 hKw _ ((st_ne (by omega)).trans hw) (fun q h => absurd h (Nat.not_lt_zero _)) (fun q h1 h2 => ⟨rfl, rfl⟩) (by simpa using hN2)
  obtain ⟨K5, k5, o5, m5, hx5⟩ := hx4.prom (p := N + 1 + 1) (kd := 21) (by omega) hKw4 hw4 (ok_21 ⟨_, rfl, hwf4⟩)
  refine h_st rfl rfl ?_
  refine h_st rfl rfl ?_
  refine c_83c (σ := σ4) (pa := pths i t6 4) ((o5 _ (by omega)).trans h204) hk4 (by omega) (fun σ6 hx6 ho6 => ?_) 2 0 _ rfl hx5 (fun _ _ => rfl)
  have hk6 := (ho6 p (by omega)).trans hk4
  have hpo6 : σ6.2[N]? = some (.inl (7, rfs 4 f0)) := (ho6 N (by omega)).trans ((hfr4 N (by omega) (by omega)).2.trans ((st_ne (by omega)).trans hpo))
  obtain ⟨K7, k7, o7, m7, hx7⟩ := hx6.prom (p := p) (kd := 18) hlo ((o5 _ (by omega)).trans hK4) hk6 (by subst hm; exact ok_18 ⟨_, _, _, _, _, _, _, _, _, _, 0, 0, _, _, _, rfl, ⟨hi, hmo, by decide, by decide⟩, (o5 _ (by omega)).trans h194, (o5 _ (by omega)).trans h204, k5⟩)
  exact h_rv rfl (⟨_, rfl, K7, hx7.le (by omega) (by omega), k7, ⟨_, _, _, _, ⟨f0, hpo6, fun e he => (hpf e he).1 he⟩, (o7 _ (by omega)).trans ((o5 _ (by omega)).trans h194), by rw [hk6, hqv]⟩, fun q h1 h2 => ⟨(o7 q h2).trans ((o5 q (by omega)).trans ((hfr4 q (by omega) h2).1.trans (hfr q (by omega) h2).1)), (ho6 q (by omega)).trans ((hfr4 q (by omega) h2).2.trans ((st_ne (Ne.symm h2)).trans (hfr q (by omega) h2).2))⟩⟩)
theorem c_83t {i mo : Nat} {l g m t6 f6 : Int32} (hi : i < 4) (hm : m = nI mo) (hmo : 64 ≤ mo ∧ mo ≤ 128) (hx : Ex b s t K0 σ0 K σ) (hlo : σ0.2.length ≤ p) (hK : K p = 0) (hp : σ.2[p]? = some (.inr (4, cd_Link))) : hE ra (d + 3) 83 [.ref p, .int l, .int (nI i), .int g, .int m, .int t6, .int f6] σ (pV (fun σ' => ∃ K', Ex b (s + 63) (t + 20174) K0 σ0 K' σ' ∧ K' p = 18 ∧ (∃ hv po ac wa, (∃ pf, σ'.2[po]? = some (.inl (7, rfs 4 pf)) ∧ ∀ e, e < 4 → (pf e = none ↔ (t6 >>> (nI e &&& 31)) &&& 1 = 0)) ∧ K' po = 19 ∧ σ'.2[p]? = some (.inr (4, [.int l, .int (nI i), .int g, .int m, .int hv, .int (if f6 &&& 2 = 0 then 0 else 1), .int (pths i t6 4), .ref po, .ref ac, .ref wa, .int 0, .int 0, .int 0, .int (-1), .int 0]))) ∧ ∀ q, q < σ.2.length → q ≠ p → K' q = K q ∧ σ'.2[q]? = σ.2[q]?)) := by
  have hplt := (List.getElem?_eq_some_iff.mp hp).1
  have hs := St.ini hp
  refine h_in rfl rfl (Nat.le_of_ble_eq_true rfl) ?_
  refine h_st rfl rfl ?_
  refine h_st rfl rfl ?_
  refine h_st rfl rfl ?_
  refine h_st rfl rfl ?_
  refine t_nqN (n := 4) rfl hs (by decide) (by decide) (fun σ hs2 => ?_)
  replace hs := hs2
  clear hs2
  try dsimp only [List.set, List.cons_append, List.nil_append, cd_Link] at hs
  refine t_put 0 rfl hs rfl (And.intro (by first | omega | (dsimp only; omega)) trivial) (rfl) (Nat.le_of_ble_eq_true rfl) (fun σ hs2 => ?_)
  replace hs := hs2
  clear hs2
  try dsimp only [List.set, List.cons_append, List.nil_append, cd_Link] at hs
  refine h_st rfl rfl ?_
  refine h_st rfl rfl ?_
  refine t_naN (n := 2) rfl hs (by decide) (by decide) (fun σ hs2 => ?_)
  replace hs := hs2
  clear hs2
  try dsimp only [List.set, List.cons_append, List.nil_append, cd_Link] at hs
  refine t_put 0 rfl hs rfl (And.intro (by first | omega | (dsimp only; omega)) (And.intro (by first | omega | (dsimp only; omega)) trivial)) (rfl) (Nat.le_of_ble_eq_true rfl) (fun σ hs2 => ?_)
  replace hs := hs2
  clear hs2
  try dsimp only [List.set, List.cons_append, List.nil_append, cd_Link] at hs
  refine h_st rfl rfl ?_
  refine h_st rfl rfl ?_
  refine t_nqN (n := 8) rfl hs (by decide) (by decide) (fun σ hs2 => ?_)
  replace hs := hs2
  clear hs2
  try dsimp only [List.set, List.cons_append, List.nil_append, cd_Link] at hs
  refine t_put 0 rfl hs rfl (And.intro (by first | omega | (dsimp only; omega)) (And.intro (by first | omega | (dsimp only; omega)) (And.intro (by first | omega | (dsimp only; omega)) trivial))) (rfl) (Nat.le_of_ble_eq_true rfl) (fun σ hs2 => ?_)
  replace hs := hs2
  clear hs2
  try dsimp only [List.set, List.cons_append, List.nil_append, cd_Link] at hs
  refine h_st rfl rfl ?_
  refine h_st rfl rfl ?_
  refine t_put 0 rfl hs rfl (And.intro (by first | omega | (dsimp only; omega)) (And.intro (by first | omega | (dsimp only; omega)) (And.intro (by first | omega | (dsimp only; omega)) trivial))) (rfl) (Nat.le_of_ble_eq_true rfl) (fun σ hs2 => ?_)
  replace hs := hs2
  clear hs2
  try dsimp only [List.set, List.cons_append, List.nil_append, cd_Link] at hs
  refine h_st rfl rfl ?_
  refine h_st rfl rfl ?_
  refine t_put 0 rfl hs rfl (And.intro (by first | omega | (dsimp only; omega)) (And.intro (by first | omega | (dsimp only; omega)) (And.intro (by first | omega | (dsimp only; omega)) trivial))) (rfl) (Nat.le_of_ble_eq_true rfl) (fun σ hs2 => ?_)
  replace hs := hs2
  clear hs2
  try dsimp only [List.set, List.cons_append, List.nil_append, cd_Link] at hs
  refine h_st rfl rfl ?_
  refine h_st rfl rfl ?_
  refine t_put 0 rfl hs rfl (And.intro (by first | omega | (dsimp only; omega)) (And.intro (by first | omega | (dsimp only; omega)) (And.intro (by first | omega | (dsimp only; omega)) trivial))) (rfl) (Nat.le_of_ble_eq_true rfl) (fun σ hs2 => ?_)
  replace hs := hs2
  clear hs2
  try dsimp only [List.set, List.cons_append, List.nil_append, cd_Link] at hs
  refine h_st rfl rfl ?_
  refine h_st rfl rfl ?_
  refine t_put 0 rfl hs rfl (And.intro (by first | omega | (dsimp only; omega)) (And.intro (by first | omega | (dsimp only; omega)) (And.intro (by first | omega | (dsimp only; omega)) trivial))) (rfl) (Nat.le_of_ble_eq_true rfl) (fun σ hs2 => ?_)
  replace hs := hs2
  clear hs2
  try dsimp only [List.set, List.cons_append, List.nil_append, cd_Link] at hs
  refine h_st rfl rfl ?_
  refine h_st rfl rfl ?_
  refine t_put 0 rfl hs rfl (And.intro (by first | omega | (dsimp only; omega)) (And.intro (by first | omega | (dsimp only; omega)) (And.intro (by first | omega | (dsimp only; omega)) trivial))) (rfl) (Nat.le_of_ble_eq_true rfl) (fun σ hs2 => ?_)
  replace hs := hs2
  clear hs2
  try dsimp only [List.set, List.cons_append, List.nil_append, cd_Link] at hs
  refine h_st rfl rfl ?_
  refine h_st rfl rfl ?_
  refine t_put 0 rfl hs rfl (And.intro (by first | omega | (dsimp only; omega)) (And.intro (by first | omega | (dsimp only; omega)) (And.intro (by first | omega | (dsimp only; omega)) trivial))) (rfl) (Nat.le_of_ble_eq_true rfl) (fun σ hs2 => ?_)
  replace hs := hs2
  clear hs2
  try dsimp only [List.set, List.cons_append, List.nil_append, cd_Link] at hs
  refine h_st rfl rfl ?_
  refine h_st rfl rfl ?_
  refine t_put 0 rfl hs rfl (And.intro (by first | omega | (dsimp only; omega)) (And.intro (by first | omega | (dsimp only; omega)) (And.intro (by first | omega | (dsimp only; omega)) trivial))) (rfl) (Nat.le_of_ble_eq_true rfl) (fun σ hs2 => ?_)
  replace hs := hs2
  clear hs2
  try dsimp only [List.set, List.cons_append, List.nil_append, cd_Link] at hs
  refine h_st rfl rfl ?_
  refine h_st rfl rfl ?_
  refine t_put 0 rfl hs rfl (And.intro (by first | omega | (dsimp only; omega)) (And.intro (by first | omega | (dsimp only; omega)) (And.intro (by first | omega | (dsimp only; omega)) trivial))) (rfl) (Nat.le_of_ble_eq_true rfl) (fun σ hs2 => ?_)
  replace hs := hs2
  clear hs2
  try dsimp only [List.set, List.cons_append, List.nil_append, cd_Link] at hs
  refine h_st rfl rfl ?_
  refine h_st rfl rfl ?_
  refine t_put 0 rfl hs rfl (And.intro (by first | omega | (dsimp only; omega)) (And.intro (by first | omega | (dsimp only; omega)) (And.intro (by first | omega | (dsimp only; omega)) trivial))) (rfl) (Nat.le_of_ble_eq_true rfl) (fun σ hs2 => ?_)
  replace hs := hs2
  clear hs2
  try dsimp only [List.set, List.cons_append, List.nil_append, cd_Link] at hs
  refine h_st rfl rfl ?_
  refine h_st rfl rfl ?_
  refine h_st rfl rfl ?_
  refine h_st rfl rfl ?_
  refine h_st rfl rfl ?_
  refine h_br (fun hb1 => ?_) (fun hb1 => ?_)
  · refine h_st rfl rfl ?_
    refine t_put 0 rfl hs rfl (And.intro (by first | omega | (dsimp only; omega)) (And.intro (by first | omega | (dsimp only; omega)) (And.intro (by first | omega | (dsimp only; omega)) trivial))) (rfl) (Nat.le_of_ble_eq_true rfl) (fun σ hs2 => ?_)
    replace hs := hs2
    clear hs2
    try dsimp only [List.set, List.cons_append, List.nil_append, cd_Link] at hs
    refine h_st rfl rfl ?_
    refine h_st rfl rfl ?_
    refine h_st rfl rfl ?_
    refine h_st rfl rfl ?_
    refine h_st rfl rfl ?_
    refine h_br (fun hb2 => ?_) (fun hb2 => ?_)
    · refine h_st rfl rfl ?_
      refine t_put 0 rfl hs rfl (And.intro (by first | omega | (dsimp only; omega)) (And.intro (by first | omega | (dsimp only; omega)) (And.intro (by first | omega | (dsimp only; omega)) trivial))) (rfl) (Nat.le_of_ble_eq_true rfl) (fun σ hs2 => ?_)
      replace hs := hs2
      clear hs2
      try dsimp only [List.set, List.cons_append, List.nil_append, cd_Link] at hs
      exact c_83r hi hm hmo (if_pos hb2).symm hx hlo hK hp rfl (by simp only; omega) (by simp only; omega) rfl hs
    · refine h_st rfl rfl ?_
      refine h_st rfl rfl ?_
      refine t_put 0 rfl hs rfl (And.intro (by first | omega | (dsimp only; omega)) (And.intro (by first | omega | (dsimp only; omega)) (And.intro (by first | omega | (dsimp only; omega)) trivial))) (rfl) (Nat.le_of_ble_eq_true rfl) (fun σ hs2 => ?_)
      replace hs := hs2
      clear hs2
      try dsimp only [List.set, List.cons_append, List.nil_append, cd_Link] at hs
      exact c_83r hi hm hmo (if_neg hb2).symm hx hlo hK hp rfl (by simp only; omega) (by simp only; omega) rfl hs
  · refine h_st rfl rfl ?_
    refine h_st rfl rfl ?_
    refine t_put 0 rfl hs rfl (And.intro (by first | omega | (dsimp only; omega)) (And.intro (by first | omega | (dsimp only; omega)) (And.intro (by first | omega | (dsimp only; omega)) trivial))) (rfl) (Nat.le_of_ble_eq_true rfl) (fun σ hs2 => ?_)
    replace hs := hs2
    clear hs2
    try dsimp only [List.set, List.cons_append, List.nil_append, cd_Link] at hs
    refine h_st rfl rfl ?_
    refine h_st rfl rfl ?_
    refine h_st rfl rfl ?_
    refine h_st rfl rfl ?_
    refine h_st rfl rfl ?_
    refine h_br (fun hb2 => ?_) (fun hb2 => ?_)
    · refine h_st rfl rfl ?_
      refine t_put 0 rfl hs rfl (And.intro (by first | omega | (dsimp only; omega)) (And.intro (by first | omega | (dsimp only; omega)) (And.intro (by first | omega | (dsimp only; omega)) trivial))) (rfl) (Nat.le_of_ble_eq_true rfl) (fun σ hs2 => ?_)
      replace hs := hs2
      clear hs2
      try dsimp only [List.set, List.cons_append, List.nil_append, cd_Link] at hs
      exact c_83r hi hm hmo (if_pos hb2).symm hx hlo hK hp rfl (by simp only; omega) (by simp only; omega) rfl hs
    · refine h_st rfl rfl ?_
      refine h_st rfl rfl ?_
      refine t_put 0 rfl hs rfl (And.intro (by first | omega | (dsimp only; omega)) (And.intro (by first | omega | (dsimp only; omega)) (And.intro (by first | omega | (dsimp only; omega)) trivial))) (rfl) (Nat.le_of_ble_eq_true rfl) (fun σ hs2 => ?_)
      replace hs := hs2
      clear hs2
      try dsimp only [List.set, List.cons_append, List.nil_append, cd_Link] at hs
      exact c_83r hi hm hmo (if_neg hb2).symm hx hlo hK hp rfl (by simp only; omega) (by simp only; omega) rfl hs
end TYA
