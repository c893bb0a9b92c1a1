section SP2
variable {ra : ae_R} {d : Nat} {σ : ae_S}
def Fr (σ : ae_S) : Prop := vall σ = true
theorem ix_of {x : Int32} (n : Nat) (h0 : ¬ x < 0) (h : ¬ Int32.ofNat n ≤ x) (hn : n < 2 ^ 31) : ∃ j, j < n ∧ x = nI j ∧ x.toNatClampNeg = j ∧ ¬ (x < 0 ∨ n ≤ x.toNatClampNeg) := by
  obtain ⟨j, h1, h2, h3, h4, h5⟩ := pk_mu (L := n) h0 h hn
  exact ⟨j, h1, h2, h4, fun z => by rcases z with z | z; exact h0 z; omega⟩
theorem st_same {p : Nat} {x : ae_C} (h : σ.2[p]? = some x) : (σ.1, σ.2.set p x) = σ := by
  have h1 : σ.2.set p x = σ.2 := by
    apply List.ext_getElem?
    intro i
    rw [List.getElem?_set]
    by_cases hi : p = i
    · subst hi
      rw [h]
      have := (List.getElem?_eq_some_iff.mp h).1
      simp [this]
    · simp [hi]
  rw [h1]
theorem e_putS {L : ae_Ls} {k : List Value} {np p ci kk : Nat} {ok : Value → Bool} {fs : List Value} {v : Value} (h : σ.2[p]? = some (.inr (ci, fs))) (hv : ok v = true) (hl : kk < fs.length) (hs : fs.set kk v = fs) : o_put ci kk ok np ra σ L (v :: .ref p :: k) = some (σ, L, k, np) := by
  rw [e_put h hv hl, hs, st_same h]
theorem fr_cls (h : Fr σ) : ∃ f1 f2 f3 f5, σ.1 = (216, 250236) ∧ σ.2.length = 216 ∧ σ.2[0]? = some (.inr (7, [.ref 1, .ref 2, .ref 3, .ref 4, .ref 6, .int 0])) ∧ σ.2[1]? = some (.inl (4, 8, .inr (.inr (.inr (.inr f1))))) ∧ (∀ j, j < 8 → f1 j = none) ∧ σ.2[2]? = some (.inl (5, 24, .inr (.inr (.inr (.inr f2))))) ∧ (∀ j, j < 24 → f2 j = some (8 + 7 * j)) ∧ σ.2[3]? = some (.inl (0, 12, .inl f3)) ∧ (∀ j, j < 12 → f3 j = 0) ∧ σ.2[4]? = some (.inr (2, [.ref 5, .int 0])) ∧ σ.2[5]? = some (.inl (1, 200, .inl f5)) ∧ (∀ j, j < 200 → f5 j = 0) ∧ σ.2[6]? = some (.inr (0, [.ref 7, .int 0])) := by
  unfold Fr vall at h
  simp only [Bool.and_eq_true] at h
  obtain ⟨⟨⟨⟨⟨⟨⟨⟨⟨⟨⟨⟨h1, h2⟩, h3⟩, h4⟩, h5⟩, h6⟩, h7⟩, h8⟩, h9⟩, h10⟩, h11⟩, h12⟩, h13⟩ := h
  obtain ⟨f1, a1, b1⟩ := vq_eq h4
  obtain ⟨f2, a2, b2⟩ := vq_eq h5
  obtain ⟨f3, a3, b3⟩ := vi_eq h6
  obtain ⟨f5, a5, b5⟩ := vi_eq h8
  exact ⟨f1, f2, f3, f5, of_decide_eq_true h1, beq_iff_eq.mp h2, vo_eq h3, a1, b1, a2, b2, a3, b3, vo_eq h7, a5, b5, vo_eq h9⟩
theorem fr_line (h : Fr σ) {i : Nat} (hi : i < 24) : ∃ fb fp fh, σ.2[8 + 7 * i]? = some (.inr (3, ln_F i)) ∧ σ.2[9 + 7 * i]? = some (.inr (2, [.ref (10 + 7 * i), .int 0])) ∧ σ.2[10 + 7 * i]? = some (.inl (1, 200, .inl fb)) ∧ (∀ j, j < 200 → fb j = 0) ∧ σ.2[11 + 7 * i]? = some (.inr (6, [.ref (12 + 7 * i), .int 0, .int 0])) ∧ σ.2[12 + 7 * i]? = some (.inl (6, (if i % 12 < 4 then 16 else 4), .inr (.inr (.inr (.inr fp))))) ∧ (∀ j, j < 16 → fp j = none) ∧ σ.2[13 + 7 * i]? = some (.inr (6, [.ref (14 + 7 * i), .int 0, .int 0])) ∧ σ.2[14 + 7 * i]? = some (.inl (6, (if i % 12 < 4 then 0 else 4), .inr (.inr (.inr (.inr fh))))) ∧ (∀ j, j < 4 → fh j = none) := by
  unfold Fr vall at h
  simp only [Bool.and_eq_true] at h
  obtain ⟨⟨⟨⟨⟨⟨⟨⟨⟨⟨⟨⟨h1, h2⟩, h3⟩, h4⟩, h5⟩, h6⟩, h7⟩, h8⟩, h9⟩, h10⟩, h11⟩, h12⟩, h13⟩ := h
  have hl := List.all_eq_true.mp h11 i (List.mem_range.mpr hi)
  unfold vline at hl
  simp only [Bool.and_eq_true] at hl
  obtain ⟨⟨⟨⟨⟨⟨q1, q2⟩, q3⟩, q4⟩, q5⟩, q6⟩, q7⟩ := hl
  obtain ⟨fb, a1, b1⟩ := vi_eq q3
  obtain ⟨fp, a2, b2⟩ := vq_eq q5
  obtain ⟨fh, a3, b3⟩ := vq_eq q7
  exact ⟨fb, fp, fh, vo_eq q1, vo_eq q2, a1, b1, vo_eq q4, a2, b2, vo_eq q6, a3, b3⟩
/-- the reference, fresh -/
def RF (σ : ae_S) : Prop := vo σ 176 8 (rf_M 0 0 0) = true ∧ rf_A.all (fun q => vi σ q.1 q.2.1 q.2.2.1 q.2.2.2.1 (fun _ => q.2.2.2.2)) = true
theorem fr_rf (h : Fr σ) : RF σ := by
  unfold Fr vall at h
  simp only [Bool.and_eq_true] at h
  exact ⟨h.1.2, h.2⟩
/-- the reference's cells are the same -/
def Sm (σ σ' : ae_S) : Prop := ∀ p, 176 ≤ p → p < 216 → σ'.2[p]? = σ.2[p]?
theorem rf_A_in : rf_A.all (fun q => decide (176 ≤ q.1 ∧ q.1 < 216)) = true := by decide +kernel
theorem RF.same {σ' : ae_S} (h : RF σ) (hs : Sm σ σ') : RF σ' := by
  refine ⟨?_, List.all_eq_true.mpr fun q hq => ?_⟩
  · have := h.1
    unfold vo at this ⊢
    rw [hs 176 (by omega) (by omega)]
    exact this
  · have h1 := List.all_eq_true.mp h.2 q hq
    have h2 := of_decide_eq_true (List.all_eq_true.mp rf_A_in q hq)
    unfold vi at h1 ⊢
    rw [hs q.1 h2.1 h2.2]
    exact h1
theorem rf_o (h : RF σ) : σ.2[176]? = some (.inr (8, rf_M 0 0 0)) := vo_eq h.1
theorem rf_a (h : RF σ) {p t n m : Nat} {v : Int32} (hq : (p, t, n, m, v) ∈ rf_A) : ∃ f, σ.2[p]? = some (.inl (t, n, .inl f)) ∧ ∀ j, j < m → f j = v := vi_eq (List.all_eq_true.mp h.2 _ hq)
theorem c_37 (h : Fr σ) (l : Int32) : hE ra (d + 2) 37 [.ref 0, .int l] σ (pR (fun σ' q => σ' = σ ∧ q = none)) := by
  obtain ⟨f1, f2, f3, f5, hc, hlen, h0, hk1, hf1, hk2, hf2, hk3, hf3, h4, hk5, hf5, h6⟩ := fr_cls h
  refine h_in rfl rfl (Nat.le_of_ble_eq_true rfl) ?_
  refine h_st rfl rfl ?_
  refine h_ci1 rfl (Nat.le_of_ble_eq_true rfl) rfl rfl (s_38 l) (fun σ' b hb => ?_)
  obtain ⟨rfl, hb⟩ := hb
  refine h_st rfl rfl ?_
  refine h_br (fun hz => ?_) (fun hz => ?_)
  · refine h_st rfl rfl ?_
    exact h_rt rfl (rfl) (⟨_, none, rfl, rfl, rfl⟩)
  · have hg : ¬ l < 0 ∧ ¬ 8 ≤ l := by
      rcases hb with ⟨_, q1, q2⟩ | ⟨q0, _⟩
      · exact ⟨q1, q2⟩
      · exact absurd q0 hz
    obtain ⟨j, j1, j2, j3, j4⟩ := ix_of 8 hg.1 hg.2 (by decide)
    have hj : f1 l.toNatClampNeg = none := by rw [j3]; exact hf1 j j1
    refine h_st rfl rfl ?_
    refine h_st rfl (e_get h0 rfl) ?_
    refine h_st rfl rfl ?_
    refine h_st rfl ((e_aa hk1 (by decide) j4).trans (by rw [hj])) ?_
    refine h_st rfl rfl ?_
    exact h_rt rfl (rfl) (⟨_, none, rfl, rfl, rfl⟩)
theorem c_65 (h : Fr σ) (e l : Int32) : hE ra (d + 3) 65 [.ref 0, .int e, .int l] σ (pR (fun σ' q => σ' = σ ∧ q = none)) := by
  obtain ⟨f1, f2, f3, f5, hc, hlen, h0, hk1, hf1, hk2, hf2, hk3, hf3, h4, hk5, hf5, h6⟩ := fr_cls h
  refine h_in rfl rfl (Nat.le_of_ble_eq_true rfl) ?_
  refine h_st rfl rfl ?_
  refine h_st rfl rfl ?_
  refine h_cr2 rfl (Nat.le_of_ble_eq_true rfl) (e_rcv (h0)) rfl (c_37 h l) (fun σ' q hq => ?_)
  obtain ⟨rfl, rfl⟩ := hq
  refine h_st rfl rfl ?_
  refine h_st rfl rfl ?_
  refine h_st rfl rfl ?_
  refine h_st rfl rfl ?_
  refine h_st rfl rfl ?_
  exact h_rt rfl (rfl) (⟨_, none, rfl, rfl, rfl⟩)
theorem c_26 (h : Fr σ) (n l : Int32) : hE ra (d + 2) 26 [.ref 0, .int n, .int l] σ (pR (fun σ' q => σ' = σ ∧ ((q = none ∧ ¬ ((¬ n < 0 ∧ ¬ 2 ≤ n) ∧ ¬ l < 0 ∧ ¬ 12 ≤ l)) ∨ (((¬ n < 0 ∧ ¬ 2 ≤ n) ∧ ¬ l < 0 ∧ ¬ 12 ≤ l) ∧ ∃ i, i < 24 ∧ q = some (8 + 7 * i))))) := by
  obtain ⟨f1, f2, f3, f5, hc, hlen, h0, hk1, hf1, hk2, hf2, hk3, hf3, h4, hk5, hf5, h6⟩ := fr_cls h
  refine h_in rfl rfl (Nat.le_of_ble_eq_true rfl) ?_
  refine h_st rfl rfl ?_
  refine h_ci1 rfl (Nat.le_of_ble_eq_true rfl) rfl rfl (s_27 n) (fun σ' b hb => ?_)
  obtain ⟨rfl, hb⟩ := hb
  refine h_st rfl rfl ?_
  refine h_br (fun hz => ?_) (fun hz => ?_)
  · refine h_st rfl rfl ?_
    exact h_rt rfl (rfl) (⟨_, none, rfl, rfl, Or.inl ⟨rfl, fun z => by rcases hb with ⟨q0, _⟩ | ⟨_, q1⟩; exact absurd (q0.symm.trans hz) (by decide); exact q1 z.1⟩⟩)
  · refine h_st rfl rfl ?_
    refine h_st rfl rfl ?_
    refine h_br (fun h2 => ?_) (fun h2 => ?_)
    · refine h_st rfl rfl ?_
      exact h_rt rfl (rfl) (⟨_, none, rfl, rfl, Or.inl ⟨rfl, fun z => z.2.1 h2⟩⟩)
    · refine h_st rfl rfl ?_
      refine h_st rfl rfl ?_
      refine h_st rfl rfl ?_
      refine h_br (fun h3 => ?_) (fun h3 => ?_)
      · refine h_st rfl rfl ?_
        exact h_rt rfl (rfl) (⟨_, none, rfl, rfl, Or.inl ⟨rfl, fun z => z.2.2 h3⟩⟩)
      · have hg : ¬ n < 0 ∧ ¬ 2 ≤ n := by
          rcases hb with ⟨_, q1, q2⟩ | ⟨q0, _⟩
          · exact ⟨q1, q2⟩
          · exact absurd q0 hz
        obtain ⟨a, a1, a2, a3, a4⟩ := ix_of 2 hg.1 hg.2 (by decide)
        obtain ⟨c, c1, c2, c3, c4⟩ := ix_of 12 h2 h3 (by decide)
        have hx : n * 12 + l = nI (a * 12 + c) := by rw [a2, c2, show (12 : Int32) = nI 12 from rfl, pk_mul, nI_add]
        have hin : ¬ (n * 12 + l < 0 ∨ 24 ≤ (n * 12 + l).toNatClampNeg) := by rw [hx]; exact nI_in (by omega) (by decide)
        have hv : f2 (n * 12 + l).toNatClampNeg = some (8 + 7 * (a * 12 + c)) := by rw [hx, nI_clamp (by omega)]; exact hf2 _ (by omega)
        refine h_st rfl rfl ?_
        refine h_st rfl (e_get h0 rfl) ?_
        refine h_st rfl rfl ?_
        refine h_st rfl rfl ?_
        refine h_st rfl rfl ?_
        refine h_st rfl rfl ?_
        refine h_st rfl rfl ?_
        refine h_st rfl ((e_aa hk2 (by decide) hin).trans (by rw [hv])) ?_
        refine h_st rfl rfl ?_
        exact h_rt rfl (rfl) (⟨_, some (8 + 7 * (a * 12 + c)), rfl, rfl, Or.inr ⟨⟨hg, h2, h3⟩, a * 12 + c, by omega, rfl⟩⟩)
theorem c_63 (h : Fr σ) (k : Int32) : hE ra (d + 1) 63 [.ref 0, .int k] σ (pI (fun σ' x => σ' = σ ∧ x = -1)) := by
  obtain ⟨f1, f2, f3, f5, hc, hlen, h0, hk1, hf1, hk2, hf2, hk3, hf3, h4, hk5, hf5, h6⟩ := fr_cls h
  refine h_in rfl rfl (Nat.le_of_ble_eq_true rfl) ?_
  refine h_st rfl rfl ?_
  refine h_st rfl rfl ?_
  refine h_br (fun h1 => ?_) (fun h1 => ?_)
  · refine h_st rfl rfl ?_
    exact h_rt rfl rfl (⟨_, _, rfl, rfl, rfl⟩)
  · refine h_st rfl rfl ?_
    refine h_st rfl rfl ?_
    refine h_st rfl (e_get h0 rfl) ?_
    refine h_st rfl (e_get h6 rfl) ?_
    refine h_st rfl rfl ?_
    refine h_st rfl rfl ?_
    refine h_st rfl rfl ?_
    refine h_pc (if_neg (fun z9 => (fun z => h1 (Int32.lt_trans z (by decide))) (of_decide_eq_true z9))) ?_
    refine h_st rfl rfl ?_
    exact h_rt rfl rfl (⟨_, _, rfl, rfl, rfl⟩)
theorem c_64 (h : Fr σ) (e l : Int32) : hE ra (d + 4) 64 [.ref 0, .int e, .int l] σ (pI (fun σ' x => σ' = σ ∧ x = -1)) := by
  obtain ⟨f1, f2, f3, f5, hc, hlen, h0, hk1, hf1, hk2, hf2, hk3, hf3, h4, hk5, hf5, h6⟩ := fr_cls h
  refine h_in rfl rfl (Nat.le_of_ble_eq_true rfl) ?_
  refine h_st rfl rfl ?_
  refine h_st rfl rfl ?_
  refine h_st rfl rfl ?_
  refine h_cr3 rfl (Nat.le_of_ble_eq_true rfl) (e_rcv (h0)) rfl (c_65 h e l) (fun σ' q hq => ?_)
  obtain ⟨rfl, rfl⟩ := hq
  refine h_st rfl rfl ?_
  refine h_st rfl rfl ?_
  refine h_st rfl rfl ?_
  refine h_st rfl rfl ?_
  refine h_st rfl rfl ?_
  exact h_rt rfl rfl (⟨_, _, rfl, rfl, rfl⟩)
theorem c_72 (h : Fr σ) (l : Int32) : hE ra (d + 3) 72 [.ref 0, .int l] σ (pI (fun σ' x => σ' = σ ∧ x = -1)) := by
  obtain ⟨f1, f2, f3, f5, hc, hlen, h0, hk1, hf1, hk2, hf2, hk3, hf3, h4, hk5, hf5, h6⟩ := fr_cls h
  refine h_in rfl rfl (Nat.le_of_ble_eq_true rfl) ?_
  refine h_st rfl rfl ?_
  refine h_st rfl rfl ?_
  refine h_cr2 rfl (Nat.le_of_ble_eq_true rfl) (e_rcv (h0)) rfl (c_37 h l) (fun σ' q hq => ?_)
  obtain ⟨rfl, rfl⟩ := hq
  refine h_st rfl rfl ?_
  refine h_st rfl rfl ?_
  refine h_st rfl rfl ?_
  refine h_st rfl rfl ?_
  refine h_st rfl rfl ?_
  exact h_rt rfl rfl (⟨_, _, rfl, rfl, rfl⟩)
theorem c_73 (h : Fr σ) (n l : Int32) : hE ra (d + 3) 73 [.ref 0, .int n, .int l] σ (pI (fun σ' x => σ' = σ ∧ x = -1)) := by
  obtain ⟨f1, f2, f3, f5, hc, hlen, h0, hk1, hf1, hk2, hf2, hk3, hf3, h4, hk5, hf5, h6⟩ := fr_cls h
  refine h_in rfl rfl (Nat.le_of_ble_eq_true rfl) ?_
  refine h_st rfl rfl ?_
  refine h_st rfl rfl ?_
  refine h_cr2 rfl (Nat.le_of_ble_eq_true rfl) (e_rcv (h0)) rfl (c_37 h l) (fun σ' q hq => ?_)
  obtain ⟨rfl, rfl⟩ := hq
  refine h_st rfl rfl ?_
  refine h_st rfl rfl ?_
  refine h_st rfl rfl ?_
  refine h_st rfl rfl ?_
  refine h_st rfl rfl ?_
  exact h_rt rfl rfl (⟨_, _, rfl, rfl, rfl⟩)
theorem c_75 (h : Fr σ) (l e : Int32) : hE ra (d + 3) 75 [.ref 0, .int l, .int e] σ (pI (fun σ' x => σ' = σ ∧ x = -1)) := by
  obtain ⟨f1, f2, f3, f5, hc, hlen, h0, hk1, hf1, hk2, hf2, hk3, hf3, h4, hk5, hf5, h6⟩ := fr_cls h
  refine h_in rfl rfl (Nat.le_of_ble_eq_true rfl) ?_
  refine h_st rfl rfl ?_
  refine h_st rfl rfl ?_
  refine h_cr2 rfl (Nat.le_of_ble_eq_true rfl) (e_rcv (h0)) rfl (c_37 h l) (fun σ' q hq => ?_)
  obtain ⟨rfl, rfl⟩ := hq
  refine h_st rfl rfl ?_
  refine h_st rfl rfl ?_
  refine h_st rfl rfl ?_
  refine h_st rfl rfl ?_
  exact h_rt rfl rfl (⟨_, _, rfl, rfl, rfl⟩)
theorem c_74 (h : Fr σ) (r : Int32) : hE ra (d + 1) 74 [.ref 0, .int r] σ (pI (fun σ' x => σ' = σ ∧ ((x = -1 ∧ ¬ (¬ r < 0 ∧ r < 12)) ∨ (x = 0 ∧ ¬ r < 0 ∧ r < 12)))) := by
  obtain ⟨f1, f2, f3, f5, hc, hlen, h0, hk1, hf1, hk2, hf2, hk3, hf3, h4, hk5, hf5, h6⟩ := fr_cls h
  refine h_in rfl rfl (Nat.le_of_ble_eq_true rfl) ?_
  refine h_st rfl rfl ?_
  refine h_st rfl rfl ?_
  refine h_br (fun h1 => ?_) (fun h1 => ?_)
  · refine h_st rfl rfl ?_
    refine h_st rfl rfl ?_
    exact h_rt rfl rfl (⟨_, _, rfl, rfl, Or.inl ⟨rfl, fun z => z.1 h1⟩⟩)
  · refine h_st rfl rfl ?_
    refine h_st rfl rfl ?_
    refine h_st rfl rfl ?_
    refine h_br (fun h2 => ?_) (fun h2 => ?_)
    · obtain ⟨j, j1, j2, j3, j4⟩ := ix_of 12 h1 (fun z => absurd h2 (Int32.not_lt.mpr z)) (by decide)
      have hj : f3 r.toNatClampNeg = 0 := by rw [j3]; exact hf3 j j1
      refine h_st rfl rfl ?_
      refine h_st rfl (e_get h0 rfl) ?_
      refine h_st rfl rfl ?_
      refine h_st rfl ((e_ia hk3 j4).trans (by rw [hj])) ?_
      exact h_rt rfl rfl (⟨_, _, rfl, rfl, Or.inr ⟨rfl, h1, h2⟩⟩)
    · refine h_st rfl rfl ?_
      refine h_st rfl rfl ?_
      exact h_rt rfl rfl (⟨_, _, rfl, rfl, Or.inl ⟨rfl, fun z => h2 z.2⟩⟩)
theorem c_70 (h : Fr σ) (n l k : Int32) : hE ra (d + 3) 70 [.ref 0, .int n, .int l, .int k] σ (pI (fun σ' x => σ' = σ ∧ x = -1)) := by
  obtain ⟨f1, f2, f3, f5, hc, hlen, h0, hk1, hf1, hk2, hf2, hk3, hf3, h4, hk5, hf5, h6⟩ := fr_cls h
  refine h_in rfl rfl (Nat.le_of_ble_eq_true rfl) ?_
  refine h_st rfl rfl ?_
  refine h_st rfl rfl ?_
  refine h_st rfl rfl ?_
  refine h_cr3 rfl (Nat.le_of_ble_eq_true rfl) (e_rcv (h0)) rfl (c_26 h n l) (fun σ' q hq => ?_)
  obtain ⟨rfl, hq⟩ := hq
  rcases hq with ⟨rfl, hq⟩ | ⟨hq, i, hi, rfl⟩
  · refine h_st rfl rfl ?_
    refine h_st rfl rfl ?_
    refine h_st rfl rfl ?_
    refine h_st rfl rfl ?_
    exact h_rt rfl rfl (⟨_, _, rfl, rfl, rfl⟩)
  · obtain ⟨fb, fp, fh, g1, g2, g3, g4, g5, g6, g7, g8, g9, g10⟩ := fr_line h hi
    refine h_st rfl rfl ?_
    refine h_st rfl rfl ?_
    refine h_st rfl rfl ?_
    refine h_st rfl rfl ?_
    refine h_st rfl (e_get g1 rfl) ?_
    refine h_st rfl rfl ?_
    refine h_pc (if_neg (by decide)) ?_
    refine h_st rfl rfl ?_
    exact h_rt rfl rfl (⟨_, _, rfl, rfl, rfl⟩)
theorem c_71 (h : Fr σ) (n l wh : Int32) : hE ra (d + 3) 71 [.ref 0, .int n, .int l, .int wh] σ (pI (fun σ' x => σ' = σ ∧ ((x = -1 ∧ ¬ (((¬ n < 0 ∧ ¬ 2 ≤ n) ∧ ¬ l < 0 ∧ ¬ 12 ≤ l) ∧ ¬ wh < 0 ∧ wh ≤ 1)) ∨ (x = 0 ∧ ((¬ n < 0 ∧ ¬ 2 ≤ n) ∧ ¬ l < 0 ∧ ¬ 12 ≤ l) ∧ ¬ wh < 0 ∧ wh ≤ 1)))) := by
  obtain ⟨f1, f2, f3, f5, hc, hlen, h0, hk1, hf1, hk2, hf2, hk3, hf3, h4, hk5, hf5, h6⟩ := fr_cls h
  refine h_in rfl rfl (Nat.le_of_ble_eq_true rfl) ?_
  refine h_st rfl rfl ?_
  refine h_st rfl rfl ?_
  refine h_st rfl rfl ?_
  refine h_cr3 rfl (Nat.le_of_ble_eq_true rfl) (e_rcv (h0)) rfl (c_26 h n l) (fun σ' q hq => ?_)
  obtain ⟨rfl, hq⟩ := hq
  rcases hq with ⟨rfl, hq⟩ | ⟨hq, i, hi, rfl⟩
  · refine h_st rfl rfl ?_
    refine h_st rfl rfl ?_
    refine h_st rfl rfl ?_
    refine h_st rfl rfl ?_
    exact h_rt rfl rfl (⟨_, _, rfl, rfl, Or.inl ⟨rfl, fun z => hq z.1⟩⟩)
  · obtain ⟨fb, fp, fh, g1, g2, g3, g4, g5, g6, g7, g8, g9, g10⟩ := fr_line h hi
    refine h_st rfl rfl ?_
    refine h_st rfl rfl ?_
    refine h_st rfl rfl ?_
    refine h_st rfl rfl ?_
    refine h_st rfl rfl ?_
    refine h_br (fun h1 => ?_) (fun h1 => ?_)
    · refine h_st rfl rfl ?_
      exact h_rt rfl rfl (⟨_, _, rfl, rfl, Or.inl ⟨rfl, fun z => z.2.1 h1⟩⟩)
    · refine h_st rfl rfl ?_
      refine h_st rfl rfl ?_
      refine h_st rfl rfl ?_
      refine h_br (fun h2 => ?_) (fun h2 => ?_)
      · refine h_st rfl rfl ?_
        refine h_st rfl rfl ?_
        refine h_st rfl rfl ?_
        refine h_br (fun h3 => ?_) (fun h3 => ?_)
        · refine h_st rfl rfl ?_
          refine h_st rfl (e_get g1 rfl) ?_
          refine h_st rfl (e_get g5 rfl) ?_
          exact h_rt rfl rfl (⟨_, _, rfl, rfl, Or.inr ⟨rfl, hq, h1, h2⟩⟩)
        · refine h_st rfl rfl ?_
          refine h_st rfl (e_get g1 rfl) ?_
          refine h_st rfl (e_get g8 rfl) ?_
          refine h_st rfl rfl ?_
          exact h_rt rfl rfl (⟨_, _, rfl, rfl, Or.inr ⟨rfl, hq, h1, h2⟩⟩)
      · refine h_st rfl rfl ?_
        exact h_rt rfl rfl (⟨_, _, rfl, rfl, Or.inl ⟨rfl, fun z => h2 z.2.2⟩⟩)
theorem c_87 (h : Fr σ) (l s e : Int32) : hE ra (d + 6) 87 [.ref 0, .int l, .int s, .int e] σ (pX 0 (fun σ' => σ'.1 = (σ.1.1 + 1, σ.1.2 + 6) ∧ σ'.2 = σ.2)) := by
  obtain ⟨f1, f2, f3, f5, hc, hlen, h0, hk1, hf1, hk2, hf2, hk3, hf3, h4, hk5, hf5, h6⟩ := fr_cls h
  refine h_in rfl rfl (Nat.le_of_ble_eq_true rfl) ?_
  refine h_st rfl rfl ?_
  refine h_st rfl rfl ?_
  refine h_cr2 rfl (Nat.le_of_ble_eq_true rfl) (e_rcv (h0)) rfl (c_37 h l) (fun σ' q hq => ?_)
  obtain ⟨rfl, rfl⟩ := hq
  refine h_st rfl rfl ?_
  refine h_st rfl rfl ?_
  refine h_st rfl rfl ?_
  exact h_th rfl (by omega) (Nat.le_of_ble_eq_true rfl) (⟨_, rfl, rfl, rfl⟩)
theorem c_92 (h : Fr σ) (e l : Int32) : hE ra (d + 6) 92 [.ref 0, .int e, .int l] σ (pX 0 (fun σ' => σ'.1 = (σ.1.1 + 1, σ.1.2 + 6) ∧ σ'.2 = σ.2)) := by
  obtain ⟨f1, f2, f3, f5, hc, hlen, h0, hk1, hf1, hk2, hf2, hk3, hf3, h4, hk5, hf5, h6⟩ := fr_cls h
  refine h_in rfl rfl (Nat.le_of_ble_eq_true rfl) ?_
  refine h_st rfl rfl ?_
  refine h_st rfl rfl ?_
  refine h_st rfl rfl ?_
  refine h_cr3 rfl (Nat.le_of_ble_eq_true rfl) (e_rcv (h0)) rfl (c_65 h e l) (fun σ' q hq => ?_)
  obtain ⟨rfl, rfl⟩ := hq
  refine h_st rfl rfl ?_
  refine h_st rfl rfl ?_
  refine h_st rfl rfl ?_
  exact h_th rfl (by omega) (Nat.le_of_ble_eq_true rfl) (⟨_, rfl, rfl, rfl⟩)
theorem c_86 (h : Fr σ) (l s e : Int32) (q : Nat) : hE ra (d + 7) 86 [.ref 0, .int l, .int s, .int e, .ref q] σ (pI (fun σ' x => x = 1 ∧ σ'.1 = (σ.1.1 + 1, σ.1.2 + 6) ∧ σ'.2 = σ.2)) := by
  obtain ⟨f1, f2, f3, f5, hc, hlen, h0, hk1, hf1, hk2, hf2, hk3, hf3, h4, hk5, hf5, h6⟩ := fr_cls h
  refine h_in rfl rfl (Nat.le_of_ble_eq_true rfl) ?_
  refine h_st rfl rfl ?_
  refine h_st rfl rfl ?_
  refine h_st rfl rfl ?_
  refine h_st rfl rfl ?_
  refine h_st rfl rfl ?_
  refine h_st rfl rfl ?_
  refine h_cx4 rfl (Nat.le_of_ble_eq_true rfl) (e_rcv (h0)) rfl (c_87 h l s e) rfl (fun σ' hq => ?_)
  refine h_st rfl rfl ?_
  exact h_rt rfl rfl (⟨_, _, rfl, rfl, hq⟩)
theorem c_91 (h : Fr σ) (e l : Int32) (q : Nat) : hE ra (d + 7) 91 [.ref 0, .int e, .int l, .ref q] σ (pI (fun σ' x => x = 1 ∧ σ'.1 = (σ.1.1 + 1, σ.1.2 + 6) ∧ σ'.2 = σ.2)) := by
  obtain ⟨f1, f2, f3, f5, hc, hlen, h0, hk1, hf1, hk2, hf2, hk3, hf3, h4, hk5, hf5, h6⟩ := fr_cls h
  refine h_in rfl rfl (Nat.le_of_ble_eq_true rfl) ?_
  refine h_st rfl rfl ?_
  refine h_st rfl rfl ?_
  refine h_st rfl rfl ?_
  refine h_st rfl rfl ?_
  refine h_st rfl rfl ?_
  refine h_cx3 rfl (Nat.le_of_ble_eq_true rfl) (e_rcv (h0)) rfl (c_92 h e l) rfl (fun σ' hq => ?_)
  refine h_st rfl rfl ?_
  exact h_rt rfl rfl (⟨_, _, rfl, rfl, hq⟩)
end SP2
