section SP3
variable {ra : ae_R} {d : Nat} {σ : ae_S}
theorem r_99 (h : RF σ) (l : Int32) : hE ra (d + 1) 99 [.ref 176, .int l] σ (pI (fun σ' x => σ' = σ ∧ x = 0)) := by
  have hm := rf_o h
  obtain ⟨f, a177, b177⟩ := rf_a h (p := 177) (t := 2) (n := 8) (m := 8) (v := 0) (by simp [rf_A])
  refine h_in rfl rfl (Nat.le_of_ble_eq_true rfl) ?_
  refine h_st rfl rfl ?_
  refine h_st rfl rfl ?_
  refine h_br (fun h1 => ?_) (fun h1 => ?_)
  · refine h_st rfl rfl ?_
    exact h_rt rfl rfl (⟨_, _, rfl, rfl, rfl⟩)
  · refine h_st rfl rfl ?_
    refine h_st rfl rfl ?_
    refine h_st rfl rfl ?_
    refine h_br (fun h2 => ?_) (fun h2 => ?_)
    · refine h_st rfl rfl ?_
      exact h_rt rfl rfl (⟨_, _, rfl, rfl, rfl⟩)
    · obtain ⟨j, j1, j2, j3, j4⟩ := ix_of 8 h1 h2 (by decide)
      have hj : f l.toNatClampNeg = 0 := by rw [j3]; exact b177 j j1
      refine h_st rfl rfl ?_
      refine h_st rfl (e_get hm rfl) ?_
      refine h_st rfl rfl ?_
      refine h_st rfl ((e_ba a177 (Or.inr rfl) j4).trans (by rw [hj])) ?_
      refine h_st rfl rfl ?_
      refine h_pc (if_pos (by decide)) ?_
      refine h_st rfl rfl ?_
      exact h_rt rfl rfl (⟨_, _, rfl, rfl, rfl⟩)
theorem r_119 (h : RF σ) (e l : Int32) : hE ra (d + 2) 119 [.ref 176, .int e, .int l] σ (pI (fun σ' x => σ' = σ ∧ x = 0)) := by
  have hm := rf_o h
  refine h_in rfl rfl (Nat.le_of_ble_eq_true rfl) ?_
  refine h_st rfl rfl ?_
  refine h_st rfl rfl ?_
  refine h_ci2 rfl (Nat.le_of_ble_eq_true rfl) (e_rcv (hm)) rfl (r_99 h l) (fun σ' b hb => ?_)
  obtain ⟨rfl, rfl⟩ := hb
  refine h_st rfl rfl ?_
  refine h_pc (if_pos (by decide)) ?_
  refine h_st rfl rfl ?_
  exact h_rt rfl rfl (⟨_, _, rfl, rfl, rfl⟩)
theorem r_131 (h : RF σ) (k : Int32) : hE ra (d + 1) 131 [.ref 176, .int k] σ (pI (fun σ' x => σ' = σ ∧ x = -1)) := by
  have hm := rf_o h
  refine h_in rfl rfl (Nat.le_of_ble_eq_true rfl) ?_
  refine h_st rfl rfl ?_
  refine h_st rfl rfl ?_
  refine h_st rfl (e_putS hm rfl (Nat.le_of_ble_eq_true rfl) rfl) ?_
  refine h_st rfl rfl ?_
  refine h_st rfl rfl ?_
  refine h_br (fun h1 => ?_) (fun h1 => ?_)
  · refine h_st rfl rfl ?_
    refine h_st rfl rfl ?_
    exact h_rt rfl rfl (⟨_, _, rfl, rfl, rfl⟩)
  · refine h_st rfl rfl ?_
    refine h_st rfl rfl ?_
    refine h_st rfl (e_get hm rfl) ?_
    refine h_st rfl rfl ?_
    refine h_pc (if_neg (fun z9 => (fun z => h1 z) (of_decide_eq_true z9))) ?_
    refine h_st rfl rfl ?_
    refine h_st rfl rfl ?_
    exact h_rt rfl rfl (⟨_, _, rfl, rfl, rfl⟩)
theorem r_132 (h : RF σ) (e l : Int32) : hE ra (d + 3) 132 [.ref 176, .int e, .int l] σ (pI (fun σ' x => σ' = σ ∧ x = -1)) := by
  have hm := rf_o h
  refine h_in rfl rfl (Nat.le_of_ble_eq_true rfl) ?_
  refine h_st rfl rfl ?_
  refine h_st rfl rfl ?_
  refine h_st rfl (e_putS hm rfl (Nat.le_of_ble_eq_true rfl) rfl) ?_
  refine h_st rfl rfl ?_
  refine h_st rfl rfl ?_
  refine h_st rfl rfl ?_
  refine h_ci3 rfl (Nat.le_of_ble_eq_true rfl) (e_rcv (hm)) rfl (r_119 h e l) (fun σ' b hb => ?_)
  obtain ⟨rfl, rfl⟩ := hb
  refine h_st rfl rfl ?_
  refine h_pc (if_neg (by decide)) ?_
  refine h_st rfl rfl ?_
  exact h_rt rfl rfl (⟨_, _, rfl, rfl, rfl⟩)
theorem r_138 (h : RF σ) (l : Int32) : hE ra (d + 2) 138 [.ref 176, .int l] σ (pI (fun σ' x => σ' = σ ∧ x = -1)) := by
  have hm := rf_o h
  refine h_in rfl rfl (Nat.le_of_ble_eq_true rfl) ?_
  refine h_st rfl rfl ?_
  refine h_st rfl rfl ?_
  refine h_st rfl (e_putS hm rfl (Nat.le_of_ble_eq_true rfl) rfl) ?_
  refine h_st rfl rfl ?_
  refine h_st rfl rfl ?_
  refine h_ci2 rfl (Nat.le_of_ble_eq_true rfl) (e_rcv (hm)) rfl (r_99 h l) (fun σ' b hb => ?_)
  obtain ⟨rfl, rfl⟩ := hb
  refine h_st rfl rfl ?_
  refine h_pc (if_pos (by decide)) ?_
  refine h_st rfl rfl ?_
  exact h_rt rfl rfl (⟨_, _, rfl, rfl, rfl⟩)
theorem r_139 (h : RF σ) (n l : Int32) : hE ra (d + 2) 139 [.ref 176, .int n, .int l] σ (pI (fun σ' x => σ' = σ ∧ x = -1)) := by
  have hm := rf_o h
  refine h_in rfl rfl (Nat.le_of_ble_eq_true rfl) ?_
  refine h_st rfl rfl ?_
  refine h_st rfl rfl ?_
  refine h_st rfl (e_putS hm rfl (Nat.le_of_ble_eq_true rfl) rfl) ?_
  refine h_st rfl rfl ?_
  refine h_st rfl rfl ?_
  refine h_br (fun h1 => ?_) (fun h1 => ?_)
  · refine h_st rfl rfl ?_
    refine h_st rfl rfl ?_
    exact h_rt rfl rfl (⟨_, _, rfl, rfl, rfl⟩)
  · refine h_st rfl rfl ?_
    refine h_st rfl rfl ?_
    refine h_st rfl rfl ?_
    refine h_br (fun h2 => ?_) (fun h2 => ?_)
    · refine h_st rfl rfl ?_
      refine h_st rfl rfl ?_
      exact h_rt rfl rfl (⟨_, _, rfl, rfl, rfl⟩)
    · refine h_st rfl rfl ?_
      refine h_st rfl rfl ?_
      refine h_ci2 rfl (Nat.le_of_ble_eq_true rfl) (e_rcv (hm)) rfl (r_99 h l) (fun σ' b hb => ?_)
      obtain ⟨rfl, rfl⟩ := hb
      refine h_st rfl rfl ?_
      refine h_pc (if_neg (by decide)) ?_
      refine h_st rfl rfl ?_
      refine h_st rfl rfl ?_
      exact h_rt rfl rfl (⟨_, _, rfl, rfl, rfl⟩)
theorem r_141 (h : RF σ) (l e : Int32) : hE ra (d + 3) 141 [.ref 176, .int l, .int e] σ (pI (fun σ' x => σ' = σ ∧ x = -1)) := by
  have hm := rf_o h
  refine h_in rfl rfl (Nat.le_of_ble_eq_true rfl) ?_
  refine h_st rfl rfl ?_
  refine h_st rfl rfl ?_
  refine h_st rfl (e_putS hm rfl (Nat.le_of_ble_eq_true rfl) rfl) ?_
  refine h_st rfl rfl ?_
  refine h_st rfl rfl ?_
  refine h_st rfl rfl ?_
  refine h_ci3 rfl (Nat.le_of_ble_eq_true rfl) (e_rcv (hm)) rfl (r_119 h e l) (fun σ' b hb => ?_)
  obtain ⟨rfl, rfl⟩ := hb
  refine h_st rfl rfl ?_
  refine h_pc (if_neg (by decide)) ?_
  refine h_st rfl rfl ?_
  exact h_rt rfl rfl (⟨_, _, rfl, rfl, rfl⟩)
theorem le11 {r : Int32} : r ≤ 11 ↔ r < 12 := by
  rw [Int32.le_iff_toInt_le, Int32.lt_iff_toInt_lt]
  have h1 : (11 : Int32).toInt = 11 := by decide
  have h2 : (12 : Int32).toInt = 12 := by decide
  omega
theorem r_140 (h : RF σ) (r : Int32) : hE ra (d + 1) 140 [.ref 176, .int r] σ (pI (fun σ' x => σ' = σ ∧ ((x = -1 ∧ ¬ (¬ r < 0 ∧ r ≤ 11)) ∨ (x = 0 ∧ ¬ r < 0 ∧ r ≤ 11)))) := by
  have hm := rf_o h
  obtain ⟨f, a213, b213⟩ := rf_a h (p := 213) (t := 0) (n := 12) (m := 12) (v := 0) (by simp [rf_A])
  refine h_in rfl rfl (Nat.le_of_ble_eq_true rfl) ?_
  refine h_st rfl rfl ?_
  refine h_st rfl rfl ?_
  refine h_st rfl (e_putS hm rfl (Nat.le_of_ble_eq_true rfl) rfl) ?_
  refine h_st rfl rfl ?_
  refine h_st rfl rfl ?_
  refine h_br (fun h1 => ?_) (fun h1 => ?_)
  · refine h_st rfl rfl ?_
    refine h_st rfl rfl ?_
    exact h_rt rfl rfl (⟨_, _, rfl, rfl, Or.inl ⟨rfl, fun z => z.1 h1⟩⟩)
  · refine h_st rfl rfl ?_
    refine h_st rfl rfl ?_
    refine h_st rfl rfl ?_
    refine h_br (fun h2 => ?_) (fun h2 => ?_)
    · obtain ⟨j, j1, j2, j3, j4⟩ := ix_of 12 h1 (fun z => absurd (le11.mp h2) (Int32.not_lt.mpr z)) (by decide)
      have hj : f r.toNatClampNeg = 0 := by rw [j3]; exact b213 j j1
      refine h_st rfl rfl ?_
      refine h_st rfl (e_get hm rfl) ?_
      refine h_st rfl rfl ?_
      refine h_st rfl ((e_ia a213 j4).trans (by rw [hj])) ?_
      exact h_rt rfl rfl (⟨_, _, rfl, rfl, Or.inr ⟨rfl, h1, h2⟩⟩)
    · refine h_st rfl rfl ?_
      refine h_st rfl rfl ?_
      exact h_rt rfl rfl (⟨_, _, rfl, rfl, Or.inl ⟨rfl, fun z => h2 z.2⟩⟩)
theorem r_134 (n l : Int32) : hE ra (d + 1) 134 [.int n, .int l] σ (pI (fun σ' x => σ' = σ ∧ ((x = 1 ∧ ((¬ n < 0 ∧ ¬ 2 ≤ n) ∧ ¬ l < 0 ∧ ¬ 12 ≤ l)) ∨ (x = 0 ∧ ¬ ((¬ n < 0 ∧ ¬ 2 ≤ n) ∧ ¬ l < 0 ∧ ¬ 12 ≤ l))))) := by
  refine h_in rfl rfl (Nat.le_of_ble_eq_true rfl) ?_
  refine h_st rfl rfl ?_
  refine h_st rfl rfl ?_
  refine h_br (fun h1 => ?_) (fun h1 => ?_)
  · refine h_st rfl rfl ?_
    exact h_rt rfl rfl (⟨_, _, rfl, rfl, Or.inr ⟨rfl, fun z => z.1.1 h1⟩⟩)
  · refine h_st rfl rfl ?_
    refine h_st rfl rfl ?_
    refine h_st rfl rfl ?_
    refine h_br (fun h2 => ?_) (fun h2 => ?_)
    · refine h_st rfl rfl ?_
      exact h_rt rfl rfl (⟨_, _, rfl, rfl, Or.inr ⟨rfl, fun z => z.1.2 h2⟩⟩)
    · refine h_st rfl rfl ?_
      refine h_st rfl rfl ?_
      refine h_br (fun h3 => ?_) (fun h3 => ?_)
      · refine h_st rfl rfl ?_
        exact h_rt rfl rfl (⟨_, _, rfl, rfl, Or.inr ⟨rfl, fun z => z.2.1 h3⟩⟩)
      · refine h_st rfl rfl ?_
        refine h_st rfl rfl ?_
        refine h_st rfl rfl ?_
        refine h_br (fun h4 => ?_) (fun h4 => ?_)
        · refine h_st rfl rfl ?_
          exact h_rt rfl rfl (⟨_, _, rfl, rfl, Or.inr ⟨rfl, fun z => z.2.2 h4⟩⟩)
        · refine h_st rfl rfl ?_
          refine h_st rfl rfl ?_
          exact h_rt rfl rfl (⟨_, _, rfl, rfl, Or.inl ⟨rfl, ⟨h1, h2⟩, h3, h4⟩⟩)
theorem r_136 (h : RF σ) (n l k : Int32) : hE ra (d + 2) 136 [.ref 176, .int n, .int l, .int k] σ (pI (fun σ' x => σ' = σ ∧ x = -1)) := by
  have hm := rf_o h
  obtain ⟨f, a199, b199⟩ := rf_a h (p := 199) (t := 0) (n := 24) (m := 24) (v := -1) (by simp [rf_A])
  refine h_in rfl rfl (Nat.le_of_ble_eq_true rfl) ?_
  refine h_st rfl rfl ?_
  refine h_st rfl rfl ?_
  refine h_st rfl (e_putS hm rfl (Nat.le_of_ble_eq_true rfl) rfl) ?_
  refine h_st rfl rfl ?_
  refine h_st rfl rfl ?_
  refine h_ci2 rfl (Nat.le_of_ble_eq_true rfl) rfl rfl (r_134 n l) (fun σ' b hb => ?_)
  obtain ⟨rfl, hb⟩ := hb
  refine h_st rfl rfl ?_
  refine h_br (fun hz => ?_) (fun hz => ?_)
  · have hg : (¬ n < 0 ∧ ¬ 2 ≤ n) ∧ ¬ l < 0 ∧ ¬ 12 ≤ l := by
      rcases hb with ⟨_, q1⟩ | ⟨q0, _⟩
      · exact q1
      · exact absurd q0 hz
    obtain ⟨a, a1, a2, a3, a4⟩ := ix_of 2 hg.1.1 hg.1.2 (by decide)
    obtain ⟨c, c1, c2, c3, c4⟩ := ix_of 12 hg.2.1 hg.2.2 (by decide)
    have hx : 12 * n + l = nI (12 * a + c) := by rw [a2, c2, show (12 : Int32) = nI 12 from rfl, pk_mul, nI_add]
    have hin : ¬ (12 * n + l < 0 ∨ 24 ≤ (12 * n + l).toNatClampNeg) := by rw [hx]; exact nI_in (by omega) (by decide)
    have hv : f (12 * n + l).toNatClampNeg = -1 := by rw [hx, nI_clamp (by omega)]; exact b199 _ (by omega)
    refine h_st rfl rfl ?_
    refine h_st rfl (e_get hm rfl) ?_
    refine h_st rfl rfl ?_
    refine h_st rfl rfl ?_
    refine h_st rfl rfl ?_
    refine h_st rfl rfl ?_
    refine h_st rfl rfl ?_
    refine h_st rfl ((e_ia a199 hin).trans (by rw [hv])) ?_
    refine h_st rfl rfl ?_
    refine h_st rfl rfl ?_
    refine h_st rfl rfl ?_
    refine h_st rfl rfl ?_
    refine h_pc (if_pos (by decide)) ?_
    refine h_st rfl rfl ?_
    exact h_rt rfl rfl (⟨_, _, rfl, rfl, rfl⟩)
  · refine h_st rfl rfl ?_
    exact h_rt rfl rfl (⟨_, _, rfl, rfl, rfl⟩)
theorem le1 {r : Int32} (h : r ≤ 1) : ¬ 2 ≤ r := by
  rw [Int32.le_iff_toInt_le] at h ⊢
  have h1 : (1 : Int32).toInt = 1 := by decide
  have h2 : (2 : Int32).toInt = 2 := by decide
  omega
theorem r_137 (h : RF σ) (n l wh : Int32) : hE ra (d + 2) 137 [.ref 176, .int n, .int l, .int wh] σ (pI (fun σ' x => σ' = σ ∧ ((x = -1 ∧ ¬ (((¬ n < 0 ∧ ¬ 2 ≤ n) ∧ ¬ l < 0 ∧ ¬ 12 ≤ l) ∧ ¬ wh < 0 ∧ wh ≤ 1)) ∨ (x = 0 ∧ ((¬ n < 0 ∧ ¬ 2 ≤ n) ∧ ¬ l < 0 ∧ ¬ 12 ≤ l) ∧ ¬ wh < 0 ∧ wh ≤ 1)))) := by
  have hm := rf_o h
  obtain ⟨f, a198, b198⟩ := rf_a h (p := 198) (t := 0) (n := 48) (m := 48) (v := 0) (by simp [rf_A])
  refine h_in rfl rfl (Nat.le_of_ble_eq_true rfl) ?_
  refine h_st rfl rfl ?_
  refine h_st rfl rfl ?_
  refine h_st rfl (e_putS hm rfl (Nat.le_of_ble_eq_true rfl) rfl) ?_
  refine h_st rfl rfl ?_
  refine h_st rfl rfl ?_
  refine h_ci2 rfl (Nat.le_of_ble_eq_true rfl) rfl rfl (r_134 n l) (fun σ' b hb => ?_)
  obtain ⟨rfl, hb⟩ := hb
  refine h_st rfl rfl ?_
  refine h_br (fun hz => ?_) (fun hz => ?_)
  · refine h_st rfl rfl ?_
    refine h_st rfl rfl ?_
    exact h_rt rfl rfl (⟨_, _, rfl, rfl, Or.inl ⟨rfl, fun z => by rcases hb with ⟨q0, _⟩ | ⟨_, q1⟩; exact absurd (q0.symm.trans hz) (by decide); exact q1 z.1⟩⟩)
  · refine h_st rfl rfl ?_
    refine h_st rfl rfl ?_
    refine h_br (fun h1 => ?_) (fun h1 => ?_)
    · refine h_st rfl rfl ?_
      refine h_st rfl rfl ?_
      exact h_rt rfl rfl (⟨_, _, rfl, rfl, Or.inl ⟨rfl, fun z => z.2.1 h1⟩⟩)
    · refine h_st rfl rfl ?_
      refine h_st rfl rfl ?_
      refine h_st rfl rfl ?_
      refine h_br (fun h2 => ?_) (fun h2 => ?_)
      · have hg : (¬ n < 0 ∧ ¬ 2 ≤ n) ∧ ¬ l < 0 ∧ ¬ 12 ≤ l := by
          rcases hb with ⟨_, q1⟩ | ⟨q0, _⟩
          · exact q1
          · exact absurd q0 hz
        obtain ⟨a, a1, a2, a3, a4⟩ := ix_of 2 hg.1.1 hg.1.2 (by decide)
        obtain ⟨c, c1, c2, c3, c4⟩ := ix_of 12 hg.2.1 hg.2.2 (by decide)
        have hx : 12 * n + l = nI (12 * a + c) := by rw [a2, c2, show (12 : Int32) = nI 12 from rfl, pk_mul, nI_add]
        obtain ⟨e, e1, e2, e3, e4⟩ := ix_of 2 h1 (le1 h2) (by decide)
        have hy : 2 * (12 * n + l) + wh = nI (2 * (12 * a + c) + e) := by rw [hx, e2, show (2 : Int32) = nI 2 from rfl, pk_mul, nI_add]
        have hin : ¬ (2 * (12 * n + l) + wh < 0 ∨ 48 ≤ (2 * (12 * n + l) + wh).toNatClampNeg) := by rw [hy]; exact nI_in (by omega) (by decide)
        have hv : f (2 * (12 * n + l) + wh).toNatClampNeg = 0 := by rw [hy, nI_clamp (by omega)]; exact b198 _ (by omega)
        refine h_st rfl rfl ?_
        refine h_st rfl (e_get hm rfl) ?_
        refine h_st rfl rfl ?_
        refine h_st rfl rfl ?_
        refine h_st rfl rfl ?_
        refine h_st rfl rfl ?_
        refine h_st rfl rfl ?_
        refine h_st rfl rfl ?_
        refine h_st rfl rfl ?_
        refine h_st rfl rfl ?_
        refine h_st rfl rfl ?_
        refine h_st rfl ((e_ia a198 hin).trans (by rw [hv])) ?_
        exact h_rt rfl rfl (⟨_, _, rfl, rfl, Or.inr ⟨rfl, hg, h1, h2⟩⟩)
      · refine h_st rfl rfl ?_
        refine h_st rfl rfl ?_
        exact h_rt rfl rfl (⟨_, _, rfl, rfl, Or.inl ⟨rfl, fun z => h2 z.2.2⟩⟩)
theorem st_get {p : Nat} {x y : ae_C} (h : σ.2[p]? = some y) : (σ.2.set p x)[p]? = some x := by
  have := (List.getElem?_eq_some_iff.mp h).1
  simp [this]
theorem st_ne {p q : Nat} {x : ae_C} (h : p ≠ q) : (σ.2.set p x)[q]? = σ.2[q]? := List.getElem?_set_ne h
theorem r_130 (h : RF σ) (e l : Int32) : hE ra (d + 3) 130 [.ref 176, .int e, .int l] σ (pI (fun σ' x => σ'.2[176]? = some (.inr (8, rf_M 1 0 0)) ∧ σ'.1 = σ.1)) := by
  have hm := rf_o h
  have hm1 : (σ.2.set 176 (.inr (8, rf_M 1 0 0)))[176]? = some (.inr (8, rf_M 1 0 0)) := st_get hm
  refine h_in rfl rfl (Nat.le_of_ble_eq_true rfl) ?_
  refine h_st rfl rfl ?_
  refine h_st rfl rfl ?_
  refine h_st rfl rfl ?_
  refine h_st rfl rfl ?_
  refine h_ci3 rfl (Nat.le_of_ble_eq_true rfl) (e_rcv (hm)) rfl (r_119 h e l) (fun σ' b hb => ?_)
  obtain ⟨rfl, rfl⟩ := hb
  refine h_st rfl rfl ?_
  refine h_pc (if_pos (by decide)) ?_
  refine h_st rfl rfl ?_
  refine h_st rfl (e_put hm rfl (Nat.le_of_ble_eq_true rfl)) ?_
  refine h_st rfl rfl ?_
  refine h_st rfl (e_get hm1 rfl) ?_
  refine h_st rfl rfl ?_
  refine h_pc (if_neg (by decide)) ?_
  refine h_st rfl rfl ?_
  exact h_rt rfl rfl (⟨_, _, rfl, hm1, rfl⟩)
theorem r_98 (h : RF σ) (l s e : Int32) : hE ra (d + 2) 98 [.ref 176, .int l, .int s, .int e] σ (pI (fun σ' x => σ'.2[176]? = some (.inr (8, rf_M 1 0 0)) ∧ σ'.1 = σ.1)) := by
  have hm := rf_o h
  have hm1 : (σ.2.set 176 (.inr (8, rf_M 1 0 0)))[176]? = some (.inr (8, rf_M 1 0 0)) := st_get hm
  refine h_in rfl rfl (Nat.le_of_ble_eq_true rfl) ?_
  refine h_st rfl rfl ?_
  refine h_st rfl rfl ?_
  refine h_ci2 rfl (Nat.le_of_ble_eq_true rfl) (e_rcv (hm)) rfl (r_99 h l) (fun σ' b hb => ?_)
  obtain ⟨rfl, rfl⟩ := hb
  refine h_st rfl rfl ?_
  refine h_pc (if_pos (by decide)) ?_
  refine h_st rfl rfl ?_
  refine h_st rfl rfl ?_
  refine h_st rfl rfl ?_
  refine h_st rfl rfl ?_
  refine h_st rfl rfl ?_
  refine h_st rfl rfl ?_
  refine h_st rfl rfl ?_
  refine h_st rfl rfl ?_
  refine h_pc (if_pos (by decide)) ?_
  refine h_st rfl rfl ?_
  refine h_st rfl rfl ?_
  refine h_st rfl rfl ?_
  refine h_pc (if_pos (by decide)) ?_
  refine h_st rfl rfl ?_
  refine h_st rfl rfl ?_
  refine h_st rfl (e_put hm rfl (Nat.le_of_ble_eq_true rfl)) ?_
  refine h_st rfl rfl ?_
  refine h_st rfl (e_get hm1 rfl) ?_
  refine h_st rfl rfl ?_
  refine h_pc (if_neg (by decide)) ?_
  refine h_st rfl rfl ?_
  exact h_rt rfl rfl (⟨_, _, rfl, hm1, rfl⟩)
theorem r_133 (h : RF σ) (n l pl mk : Int32) : hE ra (d + 2) 133 [.ref 176, .int n, .int l, .int pl, .int mk] σ (pI (fun σ' x => σ'.1 = σ.1 ∧ ((x = 1 ∧ ((¬ n < 0 ∧ ¬ 2 ≤ n) ∧ ¬ l < 0 ∧ ¬ 12 ≤ l) ∧ ¬ mk < 0 ∧ mk ≤ 255) ∨ (x = 0 ∧ ¬ (((¬ n < 0 ∧ ¬ 2 ≤ n) ∧ ¬ l < 0 ∧ ¬ 12 ≤ l) ∧ ¬ mk < 0 ∧ mk ≤ 255))))) := by
  have hm := rf_o h
  obtain ⟨f, a201, b201⟩ := rf_a h (p := 201) (t := 0) (n := 24) (m := 24) (v := 0) (by simp [rf_A])
  obtain ⟨g, a202, b202⟩ := rf_a h (p := 202) (t := 0) (n := 24) (m := 24) (v := -1) (by simp [rf_A])
  refine h_in rfl rfl (Nat.le_of_ble_eq_true rfl) ?_
  refine h_st rfl rfl ?_
  refine h_st rfl rfl ?_
  refine h_st rfl (e_putS hm rfl (Nat.le_of_ble_eq_true rfl) rfl) ?_
  refine h_st rfl rfl ?_
  refine h_st rfl rfl ?_
  refine h_ci2 rfl (Nat.le_of_ble_eq_true rfl) rfl rfl (r_134 n l) (fun σ' b hb => ?_)
  obtain ⟨rfl, hb⟩ := hb
  refine h_st rfl rfl ?_
  refine h_br (fun hz => ?_) (fun hz => ?_)
  · refine h_st rfl rfl ?_
    exact h_rt rfl rfl (⟨_, _, rfl, rfl, Or.inr ⟨rfl, fun z => by rcases hb with ⟨q0, _⟩ | ⟨_, q1⟩; exact absurd (q0.symm.trans hz) (by decide); exact q1 z.1⟩⟩)
  · refine h_st rfl rfl ?_
    refine h_st rfl rfl ?_
    refine h_br (fun h1 => ?_) (fun h1 => ?_)
    · refine h_st rfl rfl ?_
      exact h_rt rfl rfl (⟨_, _, rfl, rfl, Or.inr ⟨rfl, fun z => z.2.1 h1⟩⟩)
    · refine h_st rfl rfl ?_
      refine h_st rfl rfl ?_
      refine h_st rfl rfl ?_
      refine h_br (fun h2 => ?_) (fun h2 => ?_)
      · have hg : (¬ n < 0 ∧ ¬ 2 ≤ n) ∧ ¬ l < 0 ∧ ¬ 12 ≤ l := by
          rcases hb with ⟨_, q1⟩ | ⟨q0, _⟩
          · exact q1
          · exact absurd q0 hz
        obtain ⟨a, a1, a2, a3, a4⟩ := ix_of 2 hg.1.1 hg.1.2 (by decide)
        obtain ⟨c, c1, c2, c3, c4⟩ := ix_of 12 hg.2.1 hg.2.2 (by decide)
        have hx : 12 * n + l = nI (12 * a + c) := by rw [a2, c2, show (12 : Int32) = nI 12 from rfl, pk_mul, nI_add]
        have hin : ¬ (12 * n + l < 0 ∨ 24 ≤ (12 * n + l).toNatClampNeg) := by rw [hx]; exact nI_in (by omega) (by decide)
        refine h_st rfl rfl ?_
        refine h_st rfl (e_get hm rfl) ?_
        refine h_st rfl rfl ?_
        refine h_st rfl rfl ?_
        refine h_st rfl rfl ?_
        refine h_st rfl rfl ?_
        refine h_st rfl rfl ?_
        refine h_st rfl rfl ?_
        refine h_st rfl rfl ?_
        refine h_st rfl rfl ?_
        refine h_st rfl (e_ias a201 hin) ?_
        refine h_st rfl rfl ?_
        refine h_st rfl (e_get ((st_ne (by decide)).trans hm) rfl) ?_
        refine h_st rfl rfl ?_
        refine h_st rfl rfl ?_
        refine h_st rfl rfl ?_
        refine h_st rfl rfl ?_
        refine h_st rfl rfl ?_
        refine h_st rfl rfl ?_
        refine h_st rfl (e_ias ((st_ne (by decide)).trans a202) hin) ?_
        refine h_st rfl rfl ?_
        exact h_rt rfl rfl (⟨_, _, rfl, rfl, Or.inl ⟨rfl, hg, h1, h2⟩⟩)
      · refine h_st rfl rfl ?_
        exact h_rt rfl rfl (⟨_, _, rfl, rfl, Or.inr ⟨rfl, fun z => h2 z.2.2⟩⟩)
theorem c_68 {p : Nat} {fs : List Value} (hp : σ.2[p]? = some (.inr (3, fs))) (hl : fs.length = 9) (hlt : p < 176) (pl mk : Int32) : hE ra (d + 1) 68 [.ref p, .int pl, .int mk] σ (pV (fun σ' => σ'.1 = σ.1 ∧ Sm σ σ')) := by
  have q1 := st_get (x := .inr (3, fs.set 6 (.int 1))) hp
  refine h_in rfl rfl (Nat.le_of_ble_eq_true rfl) ?_
  refine h_st rfl rfl ?_
  refine h_st rfl rfl ?_
  refine h_st rfl (e_put hp rfl (by omega)) ?_
  refine h_st rfl rfl ?_
  refine h_st rfl rfl ?_
  refine h_st rfl (e_put q1 rfl (by simp [hl])) ?_
  refine h_st rfl rfl ?_
  refine h_st rfl rfl ?_
  refine h_st rfl (e_put (st_get (σ := (σ.1, σ.2.set p (.inr (3, fs.set 6 (.int 1))))) q1) rfl (by simp [hl])) ?_
  exact h_rv rfl (⟨_, rfl, rfl, fun q hq1 hq2 => by simp only [List.getElem?_set_ne (show p ≠ q by omega)]⟩)
theorem c_67 (h : Fr σ) (n l pl mk : Int32) : hE ra (d + 3) 67 [.ref 0, .int n, .int l, .int pl, .int mk] σ (pI (fun σ' x => σ'.1 = σ.1 ∧ Sm σ σ' ∧ ((x = 1 ∧ ((¬ n < 0 ∧ ¬ 2 ≤ n) ∧ ¬ l < 0 ∧ ¬ 12 ≤ l) ∧ ¬ mk < 0 ∧ mk ≤ 255) ∨ (x = 0 ∧ ¬ (((¬ n < 0 ∧ ¬ 2 ≤ n) ∧ ¬ l < 0 ∧ ¬ 12 ≤ l) ∧ ¬ mk < 0 ∧ mk ≤ 255))))) := by
  obtain ⟨f1, f2, f3, f5, hc, hlen, h0, hk1, hf1, hk2, hf2, hk3, hf3, h4, hk5, hf5, h6⟩ := fr_cls h
  refine h_in rfl rfl (Nat.le_of_ble_eq_true rfl) ?_
  refine h_st rfl rfl ?_
  refine h_st rfl rfl ?_
  refine h_st rfl rfl ?_
  refine h_cr3 rfl (Nat.le_of_ble_eq_true rfl) (e_rcv (h0)) rfl (c_26 h n l) (fun σ' q hq => ?_)
  obtain ⟨rfl, hq⟩ := hq
  rcases hq with ⟨rfl, hq⟩ | ⟨hq, i, hi, rfl⟩
  · refine h_st rfl rfl ?_
    refine h_st rfl rfl ?_
    refine h_st rfl rfl ?_
    refine h_st rfl rfl ?_
    exact h_rt rfl rfl (⟨_, _, rfl, rfl, fun _ _ _ => rfl, Or.inr ⟨rfl, fun z => hq z.1⟩⟩)
  · obtain ⟨fb, fp, fh, g1, g2, g3, g4, g5, g6, g7, g8, g9, g10⟩ := fr_line h hi
    refine h_st rfl rfl ?_
    refine h_st rfl rfl ?_
    refine h_st rfl rfl ?_
    refine h_st rfl rfl ?_
    refine h_st rfl rfl ?_
    refine h_br (fun h1 => ?_) (fun h1 => ?_)
    · refine h_st rfl rfl ?_
      exact h_rt rfl rfl (⟨_, _, rfl, rfl, fun _ _ _ => rfl, Or.inr ⟨rfl, fun z => z.2.1 h1⟩⟩)
    · refine h_st rfl rfl ?_
      refine h_st rfl rfl ?_
      refine h_st rfl rfl ?_
      refine h_br (fun h2 => ?_) (fun h2 => ?_)
      · refine h_st rfl rfl ?_
        refine h_st rfl rfl ?_
        refine h_st rfl rfl ?_
        refine h_st rfl rfl ?_
        refine h_st rfl rfl ?_
        refine h_cv3 rfl (Nat.le_of_ble_eq_true rfl) (e_rcv (g1)) rfl (c_68 g1 rfl (by omega) _ _) (fun σ2 hs => ?_)
        refine h_st rfl rfl ?_
        exact h_rt rfl rfl (⟨_, _, rfl, hs.1, hs.2, Or.inl ⟨rfl, hq, h1, h2⟩⟩)
      · refine h_st rfl rfl ?_
        exact h_rt rfl rfl (⟨_, _, rfl, rfl, fun _ _ _ => rfl, Or.inr ⟨rfl, fun z => h2 z.2.2⟩⟩)
end SP3
