section TY8
variable {ra : ae_R} {d : Nat} {σ σ0 : ae_S} {p : Nat} {K K0 : Nat → Nat} {b : Bool} {s t : Nat}
theorem Ex.cs {K' : Nat → Nat} {σ' : ae_S} (h : Ex true s t K σ K' σ') (hp : K p = 1 ∨ K p = 18) : σ'.2[p]? = σ.2[p]? := h.2.2.2.2.1 p (Or.inr (Or.inr (Or.inr ⟨rfl, hp⟩)))
theorem Ex.c19 {K' : Nat → Nat} {σ' : ae_S} (h : Ex b s t K σ K' σ') (hp : K p = 19) : σ'.2[p]? = σ.2[p]? := h.2.2.2.2.1 p (Or.inr (Or.inr (Or.inl hp)))
theorem i_up {i n : Int32} (h : ¬ n ≤ i) : (n.toInt - (i + 1).toInt).toNat + 1 = (n.toInt - i.toInt).toNat := by
  have h1 : i.toInt < n.toInt := by
    rw [Int32.le_iff_toInt_le] at h
    omega
  have h2 := Int32.toInt_lt n
  have h3 := Int32.le_toInt i
  have h4 : (1 : Int32).toInt = 1 := by decide
  have h5 : (i + 1).toInt = i.toInt + 1 := by
    rw [Int32.toInt_add, h4, Int.bmod_def]
    split <;> omega
  omega
theorem c_25t (hT : Ty σ K) (hS : S0 K) {fr : Nat} (hfr : K fr = 5) (n l hi : Int32) : hE ra (d + 3) 25 [.ref 0, .int n, .int l, .int hi, .ref fr] σ (pI (fun σ' v => k_bool (.int v) = true ∧ ∃ K', Ex b 0 0 K σ K' σ')) := by
  have hx := Ex.refl (b := b) hT
  refine h_in rfl rfl (Nat.le_of_ble_eq_true rfl) ?_
  refine h_st rfl rfl ?_
  refine h_st rfl rfl ?_
  refine h_st rfl rfl ?_
  refine h_cr3 rfl (Nat.le_of_ble_eq_true rfl) (rcv1 hx.ty hS.1) rfl (c_26t hx.ty hS n l) (fun σ' q9 hq => ?_)
  obtain ⟨rfl, hq⟩ := hq
  rcases hq with ⟨rfl, hq⟩ | ⟨hq, r, rfl, hKr⟩
  · refine h_st rfl rfl ?_
    refine h_st rfl rfl ?_
    refine h_st rfl rfl ?_
    refine h_st rfl rfl ?_
    refine h_st rfl rfl ?_
    refine h_st rfl rfl ?_
    refine h_st rfl rfl ?_
    refine h_pc (if_neg (by decide)) ?_
    obtain ⟨tm, h0⟩ := hx.ty.k1 hS.1
    obtain ⟨fd, hd⟩ := hx.ty.k4 hS.2.2.2.1
    refine h_st rfl rfl ?_
    refine h_st rfl (e_get h0 rfl) ?_
    refine h_st rfl rfl ?_
    refine h_st rfl rfl ?_
    refine h_st rfl (e_ia hd (by decide)) ?_
    refine h_st rfl rfl ?_
    refine h_st rfl rfl ?_
    refine y_ias rfl hx hd hS.2.2.2.1 (by omega) (ncs (by omega)) ((by decide)) (fun f' => ok_4 ⟨f', rfl⟩) (fun σ2 hx2 g2 ho => ?_)
    replace hd := g2
    clear g2 ho
    replace hx := hx2
    clear hx2
    refine h_st rfl rfl ?_
    exact h_rt rfl rfl (⟨_, _, rfl, rfl, _, hx⟩)
  · refine h_st rfl rfl ?_
    refine h_st rfl rfl ?_
    refine h_st rfl rfl ?_
    refine h_st rfl rfl ?_
    refine h_st rfl rfl ?_
    refine h_cr2 rfl (Nat.le_of_ble_eq_true rfl) (rcv16 hx.ty hKr) rfl (c_28t hx.ty hKr hi) (fun σ' q8 hq8 => ?_)
    obtain ⟨rfl, r8, n8, rfl, hn8, hK8⟩ := hq8
    refine h_st rfl rfl ?_
    refine h_ci2 rfl (Nat.le_of_ble_eq_true rfl) (rcvR hx.ty hn8 hK8) rfl (c_29t (b := b) hx.ty hn8 hK8 hfr) (fun σ9 y hy => ?_)
    obtain ⟨K9, ex⟩ := hy
    replace hx := hx.trans ex
    replace hS := ex.s0 hS
    refine h_st rfl rfl ?_
    refine h_br (fun q1 => ?_) (fun q1 => ?_)
    · refine h_st rfl rfl ?_
      refine h_st rfl rfl ?_
      refine h_st rfl rfl ?_
      refine h_st rfl rfl ?_
      refine h_pc (if_neg (by decide)) ?_
      obtain ⟨tm, h0⟩ := hx.ty.k1 hS.1
      obtain ⟨fd, hd⟩ := hx.ty.k4 hS.2.2.2.1
      refine h_st rfl rfl ?_
      refine h_st rfl (e_get h0 rfl) ?_
      refine h_st rfl rfl ?_
      refine h_st rfl rfl ?_
      refine h_st rfl (e_ia hd (by decide)) ?_
      refine h_st rfl rfl ?_
      refine h_st rfl rfl ?_
      refine y_ias rfl hx hd hS.2.2.2.1 (by omega) (ncs (by omega)) ((by decide)) (fun f' => ok_4 ⟨f', rfl⟩) (fun σ2 hx2 g2 ho => ?_)
      replace hd := g2
      clear g2 ho
      replace hx := hx2
      clear hx2
      refine h_st rfl rfl ?_
      exact h_rt rfl rfl (⟨_, _, rfl, rfl, _, hx⟩)
    · refine h_st rfl rfl ?_
      refine h_st rfl rfl ?_
      refine h_st rfl rfl ?_
      refine h_st rfl rfl ?_
      refine h_st rfl rfl ?_
      refine h_pc (if_pos (by decide)) ?_
      refine h_st rfl rfl ?_
      exact h_rt rfl rfl (⟨_, _, rfl, rfl, _, hx⟩)
theorem c_7bt (hT : Ty σ K) (hS : S0 K) : ∀ (m j : Nat) (x4 : Option Value), j + m = 8 → hG ra (d + 1) 7 σ [some (.ref 0), some (.ref 1), some (.int (nI 8)), some (.int (nI j)), x4] [] 68 (pI (fun σ' _ => σ' = σ)) := by
  obtain ⟨f, hs, hf⟩ := hT.k2 hS.2.1
  intro m
  induction m with
  | zero =>
    intro j x4 hj
    have hj : j = 8 := by omega
    subst hj
    refine h_st rfl rfl ?_
    refine h_st rfl rfl ?_
    refine h_st rfl rfl ?_
    refine h_pc (if_pos (decide_eq_true (nI_le (Nat.le_refl 8) (by decide)))) ?_
    refine h_st rfl rfl ?_
    exact h_rt rfl rfl (⟨_, _, rfl, rfl⟩)
  | succ m ih =>
    intro j x4 hj
    have ih1 := fun x4 => ih (j + 1) x4 (by omega)
    simp only [← nI_1] at ih1
    have hin : ¬ (nI j < 0 ∨ 8 ≤ (nI j).toNatClampNeg) := nI_in (by omega) (by decide)
    have ej : (nI j).toNatClampNeg = j := nI_clamp (by omega)
    cases hv : f (nI j).toNatClampNeg with
    | none =>
      refine h_st rfl rfl ?_
      refine h_st rfl rfl ?_
      refine h_st rfl rfl ?_
      refine h_pc (if_neg (fun z9 => (nI_ge (show j < 8 by omega) (by decide)) (of_decide_eq_true z9))) ?_
      refine h_st rfl rfl ?_
      refine h_st rfl rfl ?_
      refine h_st rfl ((e_aa hs (by decide) hin).trans (by rw [hv])) ?_
      refine h_st rfl rfl ?_
      refine h_st rfl rfl ?_
      refine h_st rfl rfl ?_
      refine h_st rfl rfl ?_
      refine h_st rfl rfl ?_
      exact ih1 _
    | some q =>
      have hKq := hf j q (by omega) (by rw [← ej]; exact hv)
      obtain ⟨nu, so, ga, mo, hi, qu, pa, po, ac, wa, fi, co, me, se, op, hk, hb, h19, h20, h21⟩ := hT.k18 hKq
      refine h_st rfl rfl ?_
      refine h_st rfl rfl ?_
      refine h_st rfl rfl ?_
      refine h_pc (if_neg (fun z9 => (nI_ge (show j < 8 by omega) (by decide)) (of_decide_eq_true z9))) ?_
      refine h_st rfl rfl ?_
      refine h_st rfl rfl ?_
      refine h_st rfl ((e_aa hs (by decide) hin).trans (by rw [hv])) ?_
      refine h_st rfl rfl ?_
      refine h_st rfl rfl ?_
      refine h_st rfl rfl ?_
      refine h_st rfl rfl ?_
      refine h_st rfl (e_get hk rfl) ?_
      refine h_st rfl rfl ?_
      refine h_br (fun q1 => ?_) (fun q1 => ?_)
      · refine h_st rfl rfl ?_
        refine h_st rfl rfl ?_
        exact ih1 _
      · refine h_st rfl rfl ?_
        exact h_rt rfl rfl (⟨_, _, rfl, rfl⟩)
theorem c_7at (hT : Ty σ K) (hS : S0 K) {P : ae_S × ae_O → Prop} (h0 : P (σ, .inl (some (.int 0)))) (hx9 : ∀ x4, hG ra (d + 1) 7 σ [some (.ref 0), some (.ref 2), some (.int (nI 24)), some (.int (nI 24)), x4] [] 58 P) : ∀ (m j : Nat) (x4 : Option Value), j + m = 24 → hG ra (d + 1) 7 σ [some (.ref 0), some (.ref 2), some (.int (nI 24)), some (.int (nI j)), x4] [] 10 P := by
  obtain ⟨f, hs, hf⟩ := hT.k3 hS.2.2.1
  intro m
  induction m with
  | zero =>
    intro j x4 hj
    have hj : j = 24 := by omega
    subst hj
    refine h_st rfl rfl ?_
    refine h_st rfl rfl ?_
    refine h_st rfl rfl ?_
    refine h_pc (if_pos (decide_eq_true (nI_le (Nat.le_refl 24) (by decide)))) ?_
    exact hx9 _
  | succ m ih =>
    intro j x4 hj
    have ih1 := fun x4 => ih (j + 1) x4 (by omega)
    simp only [← nI_1] at ih1
    have hin : ¬ (nI j < 0 ∨ 24 ≤ (nI j).toNatClampNeg) := nI_in (by omega) (by decide)
    obtain ⟨q, hq, hKq⟩ := hf j (by omega)
    have hv : f (nI j).toNatClampNeg = some q := by rw [nI_clamp (by omega)]; exact hq
    obtain ⟨n6, m6, r6, h6, z6, fr6, bb6, g6, e6, hpl6, mk6, hl, hnm, hr6, hh6, hf6⟩ := hT.k16 hKq
    refine h_st rfl rfl ?_
    refine h_st rfl rfl ?_
    refine h_st rfl rfl ?_
    refine h_pc (if_neg (fun z9 => (nI_ge (show j < 24 by omega) (by decide)) (of_decide_eq_true z9))) ?_
    refine h_st rfl rfl ?_
    refine h_st rfl rfl ?_
    refine h_st rfl ((e_aa hs (by decide) hin).trans (by rw [hv])) ?_
    refine h_st rfl rfl ?_
    refine h_st rfl rfl ?_
    refine h_st rfl (e_get hl rfl) ?_
    refine h_st rfl rfl ?_
    refine h_br (fun q1 => ?_) (fun q1 => ?_)
    · refine h_st rfl rfl ?_
      exact h_rt rfl rfl (h0)
    · refine h_st rfl rfl ?_
      refine h_st rfl (e_get hl rfl) ?_
      refine h_ci1 rfl (Nat.le_of_ble_eq_true rfl) (rcvR hT hnm.1 hr6) rfl (c_8t hT hnm.1 hr6) (fun σ' y hy => ?_)
      subst hy
      refine h_st rfl rfl ?_
      refine h_br (fun q2 => ?_) (fun q2 => ?_)
      · refine h_st rfl rfl ?_
        exact h_rt rfl rfl (h0)
      · refine h_st rfl rfl ?_
        refine h_st rfl (e_get hl rfl) ?_
        refine h_ci1 rfl (Nat.le_of_ble_eq_true rfl) (rcvR hT hnm.2 hh6) rfl (c_8t hT hnm.2 hh6) (fun σ' y hy => ?_)
        subst hy
        refine h_st rfl rfl ?_
        refine h_br (fun q3 => ?_) (fun q3 => ?_)
        · refine h_st rfl rfl ?_
          refine h_st rfl rfl ?_
          exact ih1 _
        · refine h_st rfl rfl ?_
          exact h_rt rfl rfl (h0)
theorem c_7t (hT : Ty σ K) (hS : S0 K) : hE ra (d + 2) 7 [.ref 0] σ (pI (fun σ' _ => σ' = σ)) := by
  obtain ⟨tm, h0⟩ := hT.k1 hS.1
  obtain ⟨f, hs, hf⟩ := hT.k3 hS.2.2.1
  obtain ⟨f2, hs2, hf2⟩ := hT.k2 hS.2.1
  refine h_in rfl rfl (Nat.le_of_ble_eq_true rfl) ?_
  refine h_st rfl rfl ?_
  refine h_st rfl (e_get h0 rfl) ?_
  refine h_st rfl rfl ?_
  refine h_st rfl rfl ?_
  refine h_st rfl (e_len hs (by decide)) ?_
  refine h_st rfl rfl ?_
  refine h_st rfl rfl ?_
  refine h_st rfl rfl ?_
  refine c_7at hT hS ⟨_, _, rfl, rfl⟩ (fun x4 => ?_) 24 0 _ rfl
  refine h_st rfl rfl ?_
  refine h_st rfl (e_get h0 rfl) ?_
  refine h_st rfl rfl ?_
  refine h_st rfl rfl ?_
  refine h_st rfl (e_len hs2 (by decide)) ?_
  refine h_st rfl rfl ?_
  refine h_st rfl rfl ?_
  refine h_st rfl rfl ?_
  exact c_7bt hT hS 8 0 _ rfl
theorem c_9l (hS : S0 K) {x : Int32} {P : ae_S × ae_O → Prop} (hx9 : ∀ σ x5, Ex true 0 0 K σ0 K σ → hG ra (d + 1) 9 σ [some (.ref 0), some (.int x), some (.ref 1), some (.int (nI 8)), some (.int (nI 8)), x5] [] 40 P) : ∀ (m j : Nat) (σ : ae_S) (x5 : Option Value), j + m = 8 → Ex true 0 0 K σ0 K σ → hG ra (d + 1) 9 σ [some (.ref 0), some (.int x), some (.ref 1), some (.int (nI 8)), some (.int (nI j)), x5] [] 11 P := by
  intro m
  induction m with
  | zero =>
    intro j σ x5 hj hx
    have hj : j = 8 := by omega
    subst hj
    refine h_st rfl rfl ?_
    refine h_st rfl rfl ?_
    refine h_st rfl rfl ?_
    refine h_pc (if_pos (decide_eq_true (nI_le (Nat.le_refl 8) (by decide)))) ?_
    exact hx9 _ _ hx
  | succ m ih =>
    intro j σ x5 hj hx
    obtain ⟨f, hs, hf⟩ := hx.ty.k2 hS.2.1
    have ih1 := fun σ x5 h1 => ih (j + 1) σ x5 (by omega) h1
    simp only [← nI_1] at ih1
    have hin : ¬ (nI j < 0 ∨ 8 ≤ (nI j).toNatClampNeg) := nI_in (by omega) (by decide)
    have ej : (nI j).toNatClampNeg = j := nI_clamp (by omega)
    cases hv : f (nI j).toNatClampNeg with
    | none =>
      refine h_st rfl rfl ?_
      refine h_st rfl rfl ?_
      refine h_st rfl rfl ?_
      refine h_pc (if_neg (fun z9 => (nI_ge (show j < 8 by omega) (by decide)) (of_decide_eq_true z9))) ?_
      refine h_st rfl rfl ?_
      refine h_st rfl rfl ?_
      refine h_st rfl ((e_aa hs (by decide) hin).trans (by rw [hv])) ?_
      refine h_st rfl rfl ?_
      refine h_st rfl rfl ?_
      refine h_st rfl rfl ?_
      refine h_st rfl rfl ?_
      refine h_st rfl rfl ?_
      exact ih1 _ _ hx
    | some q =>
      have hKq := hf j q (by omega) (by rw [← ej]; exact hv)
      refine h_st rfl rfl ?_
      refine h_st rfl rfl ?_
      refine h_st rfl rfl ?_
      refine h_pc (if_neg (fun z9 => (nI_ge (show j < 8 by omega) (by decide)) (of_decide_eq_true z9))) ?_
      refine h_st rfl rfl ?_
      refine h_st rfl rfl ?_
      refine h_st rfl ((e_aa hs (by decide) hin).trans (by rw [hv])) ?_
      refine h_st rfl rfl ?_
      refine h_st rfl rfl ?_
      refine h_st rfl rfl ?_
      refine h_st rfl rfl ?_
      refine h_st rfl rfl ?_
      refine h_cv2 rfl (Nat.le_of_ble_eq_true rfl) (rcv18 hx.ty hKq) rfl (c_10 (b := true) hx.ty hKq x) (fun σ2 ex => ?_)
      replace hx := hx.trans ex
      refine h_st rfl rfl ?_
      refine h_st rfl rfl ?_
      exact ih1 _ _ hx
theorem c_9t (hT : Ty σ K) (hS : S0 K) (x : Int32) : hE ra (d + 2) 9 [.ref 0, .int x] σ (pV (fun σ' => Ex false 0 0 K σ K σ' ∧ ∀ tm, σ.2[0]? = some (.inr (7, [.ref 1, .ref 2, .ref 3, .ref 4, .ref 6, .int tm])) → σ'.2[0]? = some (.inr (7, [.ref 1, .ref 2, .ref 3, .ref 4, .ref 6, .int (tm + x)])))) := by
  obtain ⟨tm, h0⟩ := hT.k1 hS.1
  obtain ⟨f2, hs2, hf2⟩ := hT.k2 hS.2.1
  have hx := Ex.refl (b := true) hT
  refine h_in rfl rfl (Nat.le_of_ble_eq_true rfl) ?_
  refine h_st rfl rfl ?_
  refine h_st rfl (e_get h0 rfl) ?_
  refine h_st rfl rfl ?_
  refine h_st rfl rfl ?_
  refine h_st rfl (e_len hs2 (by decide)) ?_
  refine h_st rfl rfl ?_
  refine h_st rfl rfl ?_
  refine h_st rfl rfl ?_
  refine c_9l hS (fun σ9 x5 hx => ?_) 8 0 _ _ rfl hx
  have h9 := (hx.cs (Or.inl hS.1)).trans h0
  replace hx : Ex false 0 0 K σ K σ9 := hx.weak
  refine h_st rfl rfl ?_
  refine h_st rfl rfl ?_
  refine h_st rfl (e_get h9 rfl) ?_
  refine h_st rfl rfl ?_
  refine h_st rfl rfl ?_
  refine y_put rfl hx h9 hS.1 (by omega) (ncf (by omega)) (rfl) (Nat.le_of_ble_eq_true rfl) (ok_1 ⟨_, rfl⟩) (fun σ2 hx2 g2 ho => ?_)
  replace h9 := g2
  clear g2 ho
  replace hx := hx2
  clear hx2
  exact h_rv rfl (⟨_, rfl, hx, fun t9 ht9 => by rw [h0] at ht9; cases ht9; exact h9⟩)
theorem c_20 (hT : Ty σ K) {q : Nat} (hq : K q = 22) (a k : Int32) : hE ra (d + 1) 20 [.ref q, .int a, .int k] σ (pI (fun σ' _ => σ' = σ)) := by
  obtain ⟨a1, a2, a3, a4, a5, a6, hc⟩ := hT.k22 hq
  refine h_in rfl rfl (Nat.le_of_ble_eq_true rfl) ?_
  refine h_st rfl rfl ?_
  refine h_st rfl rfl ?_
  refine h_sw (by decide) ?_ (fun t9 ht9 => ?_)
  · refine h_st rfl rfl ?_
    refine h_st rfl rfl ?_
    refine h_st rfl rfl ?_
    refine h_st rfl rfl ?_
    refine h_st rfl rfl ?_
    refine h_st rfl (e_get hc rfl) ?_
    refine h_st rfl rfl ?_
    refine h_st rfl rfl ?_
    refine h_st rfl rfl ?_
    refine h_st rfl rfl ?_
    refine h_st rfl rfl ?_
    refine h_st rfl rfl ?_
    refine h_st rfl rfl ?_
    refine h_st rfl rfl ?_
    refine h_st rfl (e_dv (by decide)) ?_
    refine h_st rfl rfl ?_
    refine h_st rfl rfl ?_
    refine h_st rfl rfl ?_
    exact h_rt rfl rfl (⟨_, _, rfl, rfl⟩)
  · simp only [List.mem_cons, List.not_mem_nil, or_false] at ht9
    rcases ht9 with rfl | rfl | rfl | rfl | rfl | rfl | rfl | rfl
    · refine h_st rfl rfl ?_
      exact h_rt rfl rfl (⟨_, _, rfl, rfl⟩)
    · refine h_st rfl rfl ?_
      refine h_st rfl rfl ?_
      refine h_st rfl rfl ?_
      exact h_rt rfl rfl (⟨_, _, rfl, rfl⟩)
    · refine h_st rfl rfl ?_
      exact h_rt rfl rfl (⟨_, _, rfl, rfl⟩)
    · refine h_st rfl rfl ?_
      refine h_st rfl rfl ?_
      refine h_st rfl rfl ?_
      exact h_rt rfl rfl (⟨_, _, rfl, rfl⟩)
    · refine h_st rfl rfl ?_
      refine h_st rfl rfl ?_
      refine h_st rfl (e_get hc rfl) ?_
      refine h_st rfl rfl ?_
      refine h_st rfl rfl ?_
      refine h_st rfl rfl ?_
      exact h_rt rfl rfl (⟨_, _, rfl, rfl⟩)
    · refine h_st rfl rfl ?_
      refine h_st rfl rfl ?_
      refine h_st rfl (e_get hc rfl) ?_
      refine h_st rfl rfl ?_
      refine h_st rfl rfl ?_
      refine h_st rfl rfl ?_
      exact h_rt rfl rfl (⟨_, _, rfl, rfl⟩)
    · refine h_st rfl rfl ?_
      exact h_rt rfl rfl (⟨_, _, rfl, rfl⟩)
    · refine h_st rfl rfl ?_
      exact h_rt rfl rfl (⟨_, _, rfl, rfl⟩)
theorem c_12i (hT : Ty σ K) (hS : S0 K) {fr pb k tm : _} {nu ga hi qu pa me se op x3 x4 a1 a2 a3 a4 a5 a6 : Int32} {so mo po ac wa fi co : Nat} (hp : K p = 18) (hfr : K fr = 22) (hpb : K pb = 6) (h0 : σ.2[0]? = some (.inr (7, [.ref 1, .ref 2, .ref 3, .ref 4, .ref 6, .int tm]))) (hk : σ.2[p]? = some (.inr (4, [.int nu, .int (nI so), .int ga, .int (nI mo), .int hi, .int qu, .int pa, .ref po, .ref ac, .ref wa, .int (nI fi), .int (nI co), .int me, .int se, .int op]))) (hc : σ.2[fr]? = some (.inr (1, [.int a1, .int a2, .int a3, .int a4, .int a5, .int a6]))) (hF1 : FR σ 4 pb k) {P : ae_S × ae_O → Prop} (hx9 : ∀ σ2 i, FR σ2 4 pb k → Op 4 pb σ σ2 → hG ra (d + 1) 12 σ2 [some (.ref 0), some (.ref p), some (.ref fr), some (.int x3), some (.int x4), some (.int i)] [] 104 P) : ∀ (m : Nat) (i : Int32) (σ2 : ae_S), (a5.toInt - i.toInt).toNat ≤ m → FR σ2 4 pb k → Op 4 pb σ σ2 → hG ra (d + 1) 12 σ2 [some (.ref 0), some (.ref p), some (.ref fr), some (.int x3), some (.int x4), some (.int i)] [] 62 P := by
  have d0 := kne hS.1 hS.2.2.2.2.1 (by decide)
  have d1 := kne hS.1 hpb (by decide)
  have d2 := kne hp hS.2.2.2.2.1 (by decide)
  have d3 := kne hp hpb (by decide)
  have d4 := kne hfr hS.2.2.2.2.1 (by decide)
  have d5 := kne hfr hpb (by decide)
  intro m
  induction m with
  | zero =>
    intro i σ2 hm hF ho
    replace h0 := (ho.2.2 0 d0 d1).trans h0
    replace hk := (ho.2.2 p d2 d3).trans hk
    replace hc := (ho.2.2 fr d4 d5).trans hc
    refine h_st rfl rfl ?_
    refine h_st rfl rfl ?_
    refine h_st rfl (e_get hc rfl) ?_
    refine h_st rfl rfl ?_
    refine h_pc (if_pos (decide_eq_true (Classical.byContradiction (fun z => by have := i_up z; omega)))) ?_
    exact hx9 _ _ hF ho
  | succ m ih =>
    intro i σ2 hm hF ho
    have h0' := (ho.2.2 0 d0 d1).trans h0
    have hk' := (ho.2.2 p d2 d3).trans hk
    have hc' := (ho.2.2 fr d4 d5).trans hc
    have hF0 := hF
    refine h_st rfl rfl ?_
    refine h_st rfl rfl ?_
    refine h_st rfl (e_get hc' rfl) ?_
    refine h_st rfl rfl ?_
    refine h_br (fun _ => hx9 _ _ hF ho) (fun q => ?_)
    have hT2 : Ty σ2 K := (((Ex.refl (b := true) hT).op hS.2.2.2.2.1 hpb hF1 hF ho)).ty
    refine h_st rfl rfl ?_
    refine h_st rfl (e_get h0' rfl) ?_
    refine h_st rfl rfl ?_
    refine h_st rfl rfl ?_
    refine h_st rfl rfl ?_
    refine h_st rfl rfl ?_
    refine h_st rfl rfl ?_
    refine h_st rfl (e_get hk' rfl) ?_
    refine h_st rfl rfl ?_
    refine h_st rfl (e_get hc' rfl) ?_
    refine h_st rfl rfl ?_
    refine h_st rfl rfl ?_
    refine h_ci3 rfl (Nat.le_of_ble_eq_true rfl) (rcv22 hT2 hfr) rfl (c_20 hT2 hfr _ _) (fun σ' y hy => ?_)
    subst hy
    refine h_cv3 rfl (Nat.le_of_ble_eq_true rfl) (e_rcv hF.1) rfl (c_17 hF _ _) (fun σ3 hq => ?_)
    obtain ⟨hF3, o3⟩ := hq
    refine h_st rfl rfl ?_
    refine h_st rfl rfl ?_
    exact ih _ _ (by have := i_up q; omega) hF3 (ho.trans o3)
theorem c_12l (hr : (ra 3).1 = 16) {fr : Nat} {x3 : Int32} (hS0 : S0 K0) (hp0 : K0 p = 18) (hf0 : K0 fr = 22) : ∀ (m j : Nat) (σ : ae_S) (K : Nat → Nat) (x5 : Option Value), j + m = 2 → Ex false 0 0 K0 σ0 K σ → σ.2[0]? = σ0.2[0]? → hG ra (d + 3) 12 σ [some (.ref 0), some (.ref p), some (.ref fr), some (.int x3), some (.int (nI j)), x5] [] 13 (pV (fun σ' => ∃ K', Ex false 0 0 K0 σ0 K' σ' ∧ σ'.2[0]? = σ0.2[0]?)) := by
  intro m
  induction m with
  | zero =>
    intro j σ K x5 hj hx hn
    have hj : j = 2 := by omega
    subst hj
    have hS := hx.s0 hS0
    have hp := hx.kd hp0 (by decide)
    obtain ⟨tm, h0⟩ := hx.ty.k1 hS.1
    obtain ⟨nu, so, ga, mo, hi, qu, pa, po, ac, wa, fi, co, me, se, op, hk, hb, h19, h20, h21⟩ := hx.ty.k18 hp
    refine h_st rfl rfl ?_
    refine h_st rfl rfl ?_
    refine h_st rfl rfl ?_
    refine h_pc (if_pos (decide_eq_true (nI_le (Nat.le_refl 2) (by decide)))) ?_
    refine h_st rfl rfl ?_
    refine h_st rfl rfl ?_
    refine h_st rfl (e_get h0 rfl) ?_
    refine h_st rfl rfl ?_
    refine h_st rfl (e_get hk rfl) ?_
    refine h_st rfl rfl ?_
    refine y_put rfl hx hk hp (by omega) (ncf (by omega)) (rfl) (Nat.le_of_ble_eq_true rfl) (ok_18 ⟨_, _, _, _, _, _, _, _, _, _, _, _, _, _, _, rfl, hb, h19, h20, h21⟩) (fun σ2 hx2 g2 ho => ?_)
    replace hn := (ho 0 (kne hS.1 hp (by decide))).trans hn
    replace hk := g2
    clear g2 ho
    replace hx := hx2
    clear hx2
    exact h_rv rfl (⟨_, rfl, K, hx, hn⟩)
  | succ m ih =>
    intro j σ K x5 hj hx hn
    have hS := hx.s0 hS0
    have hp := hx.kd hp0 (by decide)
    have hf := hx.kd hf0 (by decide)
    obtain ⟨tm, h0⟩ := hx.ty.k1 hS.1
    obtain ⟨nu, so, ga, mo, hi, qu, pa, po, ac, wa, fi, co, me, se, op, hk, hb, h19, h20, h21⟩ := hx.ty.k18 hp
    obtain ⟨a1, a2, a3, a4, a5, a6, hc⟩ := hx.ty.k22 hf
    obtain ⟨pb, k, hF, hpb⟩ := hx.ty.fr hS.2.2.2.2.1
    have d0 := kne hS.1 hS.2.2.2.2.1 (by decide)
    have d1 := kne hS.1 hpb (by decide)
    have d2 := kne hp hS.2.2.2.2.1 (by decide)
    have d3 := kne hp hpb (by decide)
    have d4 := kne hf hS.2.2.2.2.1 (by decide)
    have d5 := kne hf hpb (by decide)
    have ih1 := fun σ K x5 h1 h2 => ih (j + 1) σ K x5 (by omega) h1 h2
    simp only [← nI_1] at ih1
    refine h_st rfl rfl ?_
    refine h_st rfl rfl ?_
    refine h_st rfl rfl ?_
    refine h_pc (if_neg (fun z9 => (nI_ge (show j < 2 by omega) (by decide)) (of_decide_eq_true z9))) ?_
    refine h_st rfl rfl ?_
    refine h_st rfl (e_get h0 rfl) ?_
    refine h_st rfl rfl ?_
    refine h_st rfl (e_get hk rfl) ?_
    refine h_st rfl rfl ?_
    refine h_st rfl (e_get hk rfl) ?_
    refine h_st rfl rfl ?_
    refine h_st rfl rfl ?_
    refine h_st rfl (e_get hc rfl) ?_
    refine h_cv5 rfl (Nat.le_of_ble_eq_true rfl) (e_rcv hF.1) rfl (c_16 ⟨⟨_, hF.1⟩, hF.2.1.2, hF.2.2⟩ _ _ _ _) (fun σ2 hq => ?_)
    obtain ⟨k2, hF2, o2⟩ := hq
    replace hx := hx.op hS.2.2.2.2.1 hpb hF hF2 o2
    replace h0 := (o2.2.2 0 d0 d1).trans h0
    replace hn := (o2.2.2 0 d0 d1).trans hn
    replace hk := (o2.2.2 p d2 d3).trans hk
    replace hc := (o2.2.2 fr d4 d5).trans hc
    replace hF := hF2
    clear hF2 o2
    refine h_st rfl rfl ?_
    refine h_st rfl (e_get h0 rfl) ?_
    refine h_st rfl rfl ?_
    refine h_st rfl (e_get hc rfl) ?_
    refine h_st rfl rfl ?_
    refine h_st rfl (e_get hc rfl) ?_
    refine h_st rfl rfl ?_
    refine h_st rfl (e_get hc rfl) ?_
    refine h_cv4 rfl (Nat.le_of_ble_eq_true rfl) (e_rcv hF.1) rfl (c_19 hF _ _ _) (fun σ3 hq => ?_)
    obtain ⟨hF2, o2⟩ := hq
    replace hx := hx.op hS.2.2.2.2.1 hpb hF hF2 o2
    replace h0 := (o2.2.2 0 d0 d1).trans h0
    replace hn := (o2.2.2 0 d0 d1).trans hn
    replace hk := (o2.2.2 p d2 d3).trans hk
    replace hc := (o2.2.2 fr d4 d5).trans hc
    replace hF := hF2
    clear hF2 o2
    refine h_st rfl rfl ?_
    refine h_st rfl rfl ?_
    refine c_12i hx.ty hS hp hf hpb h0 hk hc hF (fun σ4 i hF2 o2 => ?_) _ _ _ (Nat.le_refl _) hF Op.refl
    replace hx := hx.op hS.2.2.2.2.1 hpb hF hF2 o2
    replace h0 := (o2.2.2 0 d0 d1).trans h0
    replace hn := (o2.2.2 0 d0 d1).trans hn
    replace hk := (o2.2.2 p d2 d3).trans hk
    replace hc := (o2.2.2 fr d4 d5).trans hc
    replace hF := hF2
    clear hF2 o2
    refine h_st rfl rfl ?_
    refine h_st rfl (e_get h0 rfl) ?_
    refine h_st rfl rfl ?_
    refine h_cv2 rfl (Nat.le_of_ble_eq_true rfl) (e_rcv hF.1) rfl (c_21 hr hF _) (fun σ5 hq => ?_)
    obtain ⟨hF2, o2⟩ := hq
    replace hx := hx.op hS.2.2.2.2.1 hpb hF hF2 o2
    replace h0 := (o2.2.2 0 d0 d1).trans h0
    replace hn := (o2.2.2 0 d0 d1).trans hn
    replace hk := (o2.2.2 p d2 d3).trans hk
    replace hc := (o2.2.2 fr d4 d5).trans hc
    replace hF := hF2
    clear hF2 o2
    refine h_st rfl rfl ?_
    refine h_st rfl rfl ?_
    refine h_st rfl rfl ?_
    refine h_st rfl (e_get hk rfl) ?_
    refine h_st rfl rfl ?_
    refine h_st rfl (e_get hk rfl) ?_
    refine h_st rfl rfl ?_
    refine h_st rfl (e_get h0 rfl) ?_
    refine h_ci5 rfl (Nat.le_of_ble_eq_true rfl) (rcv1 hx.ty hS.1) rfl (c_25t (b := true) hx.ty hS hS.2.2.2.2.1 _ _ _) (fun σ6 y hy => ?_)
    obtain ⟨-, K6, ex⟩ := hy
    replace hn := (ex.cs (Or.inl hS.1)).trans hn
    replace hx := hx.trans ex.weak
    refine h_st rfl rfl ?_
    refine h_st rfl rfl ?_
    refine h_st rfl rfl ?_
    exact ih1 _ _ _ hx hn
theorem c_12 (hT : Ty σ K) (hS : S0 K) (hr : (ra 3).1 = 16) {nu ga hi qu pa me se op : Int32} {so mo po ac wa fi co : Nat} (hp : K p = 18) (hk : σ.2[p]? = some (.inr (4, [.int nu, .int (nI so), .int ga, .int (nI mo), .int hi, .int qu, .int pa, .ref po, .ref ac, .ref wa, .int (nI fi), .int (nI (co + 1)), .int me, .int se, .int op]))) (hb : so < 4 ∧ (64 ≤ mo ∧ mo ≤ 128) ∧ fi < 8 ∧ co + 1 ≤ 8) (h19 : K po = 19) (h20 : K ac = 20) (h21 : K wa = 21) : hE ra (d + 4) 12 [.ref 0, .ref p] σ (pV (fun σ' => ∃ K', Ex false 0 0 K σ K' σ' ∧ σ'.2[0]? = σ.2[0]?)) := by
  have hne := kne hS.1 hp (by decide)
  refine h_in rfl rfl (Nat.le_of_ble_eq_true rfl) ?_
  refine h_st rfl rfl ?_
  refine h_cr1 rfl (Nat.le_of_ble_eq_true rfl) (rcv18 hT hp) rfl (c_13 hT hp hk hb h19 h20 h21) (fun σ1 q9 hq => ?_)
  obtain ⟨fr, rfl, hKf, hx, ho1, -⟩ := hq
  have hn := ho1 0 hne
  refine h_st rfl rfl ?_
  refine h_st rfl rfl ?_
  refine h_ci1 rfl (Nat.le_of_ble_eq_true rfl) (rcv18 hx.ty hp) rfl (c_14 hx.ty hp) (fun σ2 y hq => ?_)
  obtain ⟨ex, ho2⟩ := hq
  replace hx := hx.trans ex
  replace hn := (ho2 0 hne).trans hn
  refine h_st rfl rfl ?_
  refine h_st rfl rfl ?_
  refine h_st rfl rfl ?_
  exact c_12l hr hS hp hKf 2 0 _ _ _ rfl hx hn
theorem c_11l (hr : (ra 3).1 = 16) (hS0 : S0 K0) : ∀ (m j : Nat) (σ : ae_S) (K : Nat → Nat) (x4 : Option Value), j + m = 8 → Ex false 0 0 K0 σ0 K σ → σ.2[0]? = σ0.2[0]? → hG ra (d + 4) 11 σ [some (.ref 0), some (.ref 1), some (.int (nI 8)), some (.int (nI j)), x4] [] 10 (pV (fun σ' => ∃ K', Ex false 0 0 K0 σ0 K' σ' ∧ σ'.2[0]? = σ0.2[0]?)) := by
  intro m
  induction m with
  | zero =>
    intro j σ K x4 hj hx hn
    have hj : j = 8 := by omega
    subst hj
    refine h_st rfl rfl ?_
    refine h_st rfl rfl ?_
    refine h_st rfl rfl ?_
    refine h_pc (if_pos (decide_eq_true (nI_le (Nat.le_refl 8) (by decide)))) ?_
    exact h_rv rfl (⟨_, rfl, K, hx, hn⟩)
  | succ m ih =>
    intro j σ K x4 hj hx hn
    have hS := hx.s0 hS0
    obtain ⟨tm, h0⟩ := hx.ty.k1 hS.1
    obtain ⟨f, hs, hf⟩ := hx.ty.k2 hS.2.1
    have ih1 := fun σ K x4 h1 h2 => ih (j + 1) σ K x4 (by omega) h1 h2
    simp only [← nI_1] at ih1
    have hin : ¬ (nI j < 0 ∨ 8 ≤ (nI j).toNatClampNeg) := nI_in (by omega) (by decide)
    have ej : (nI j).toNatClampNeg = j := nI_clamp (by omega)
    cases hv : f (nI j).toNatClampNeg with
    | none =>
      refine h_st rfl rfl ?_
      refine h_st rfl rfl ?_
      refine h_st rfl rfl ?_
      refine h_pc (if_neg (fun z9 => (nI_ge (show j < 8 by omega) (by decide)) (of_decide_eq_true z9))) ?_
      refine h_st rfl rfl ?_
      refine h_st rfl rfl ?_
      refine h_st rfl ((e_aa hs (by decide) hin).trans (by rw [hv])) ?_
      refine h_st rfl rfl ?_
      refine h_st rfl rfl ?_
      refine h_st rfl rfl ?_
      refine h_st rfl rfl ?_
      refine h_st rfl rfl ?_
      exact ih1 _ _ _ hx hn
    | some p =>
      have hp := hf j p (by omega) (by rw [← ej]; exact hv)
      obtain ⟨nu, so, ga, mo, hi, qu, pa, po, ac, wa, fi, co, me, se, op, hk, hb, h19, h20, h21⟩ := hx.ty.k18 hp
      refine h_st rfl rfl ?_
      refine h_st rfl rfl ?_
      refine h_st rfl rfl ?_
      refine h_pc (if_neg (fun z9 => (nI_ge (show j < 8 by omega) (by decide)) (of_decide_eq_true z9))) ?_
      refine h_st rfl rfl ?_
      refine h_st rfl rfl ?_
      refine h_st rfl ((e_aa hs (by decide) hin).trans (by rw [hv])) ?_
      refine h_st rfl rfl ?_
      refine h_st rfl rfl ?_
      refine h_st rfl rfl ?_
      refine h_st rfl rfl ?_
      refine h_st rfl (e_get hk rfl) ?_
      refine h_st rfl rfl ?_
      refine h_br (fun q1 => ?_) (fun q1 => ?_)
      · refine h_st rfl rfl ?_
        refine h_st rfl rfl ?_
        exact ih1 _ _ _ hx hn
      · obtain ⟨c', rfl⟩ : ∃ c', co = c' + 1 := ⟨co - 1, by cases co with | zero => exact absurd (show nI 0 ≤ 0 by decide) q1 | succ m => rfl⟩
        refine h_st rfl rfl ?_
        refine h_st rfl (e_get h0 rfl) ?_
        refine h_st rfl rfl ?_
        refine h_st rfl (e_get hk rfl) ?_
        refine h_st rfl rfl ?_
        refine h_br (fun q2 => ?_) (fun q2 => ?_)
        · refine h_st rfl rfl ?_
          refine h_st rfl rfl ?_
          exact ih1 _ _ _ hx hn
        · refine h_st rfl rfl ?_
          refine h_st rfl rfl ?_
          refine h_cv2 rfl (Nat.le_of_ble_eq_true rfl) (rcv1 hx.ty hS.1) rfl (c_12 hx.ty hS hr hp hk hb h19 h20 h21) (fun σ2 hq => ?_)
          obtain ⟨K2, ex, hn2⟩ := hq
          replace hx := hx.trans ex
          replace hn := hn2.trans hn
          refine h_st rfl rfl ?_
          refine h_st rfl rfl ?_
          exact ih1 _ _ _ hx hn
theorem c_11t (hT : Ty σ K) (hS : S0 K) (hr : (ra 3).1 = 16) : hE ra (d + 5) 11 [.ref 0] σ (pV (fun σ' => ∃ K', Ex false 0 0 K σ K' σ' ∧ σ'.2[0]? = σ.2[0]?)) := by
  obtain ⟨tm, h0⟩ := hT.k1 hS.1
  obtain ⟨f2, hs2, hf2⟩ := hT.k2 hS.2.1
  refine h_in rfl rfl (Nat.le_of_ble_eq_true rfl) ?_
  refine h_st rfl rfl ?_
  refine h_st rfl (e_get h0 rfl) ?_
  refine h_st rfl rfl ?_
  refine h_st rfl rfl ?_
  refine h_st rfl (e_len hs2 (by decide)) ?_
  refine h_st rfl rfl ?_
  refine h_st rfl rfl ?_
  refine h_st rfl rfl ?_
  exact c_11l hr hS 8 0 _ _ _ rfl (Ex.refl hT) rfl
end TY8
