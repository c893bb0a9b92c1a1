section SP4
variable {ra : ae_R} {d : Nat} {σ : ae_S}
theorem hG_mono {mid : Nat} {L : ae_Ls} {k : List Value} {pc : Nat} {P P' : ae_S × ae_O → Prop} (h : hG ra d mid σ L k pc P) (hp : ∀ r, P r → P' r) : hG ra d mid σ L k pc P' := by
  obtain ⟨r, h1, h2⟩ := h
  exact ⟨r, h1, hp r h2⟩
theorem c_8 {p q : Nat} {x : Int32} (hp : σ.2[p]? = some (.inr (6, [.ref q, .int x, .int 0]))) : hE ra (d + 1) 8 [.ref p] σ (pI (fun σ' b => σ' = σ ∧ b = 1)) := by
  refine h_in rfl rfl (Nat.le_of_ble_eq_true rfl) ?_
  refine h_st rfl rfl ?_
  refine h_st rfl (e_get hp rfl) ?_
  refine h_st rfl rfl ?_
  refine h_pc (if_neg (by decide)) ?_
  refine h_st rfl rfl ?_
  refine h_st rfl rfl ?_
  exact h_rt rfl rfl (⟨_, _, rfl, rfl, rfl⟩)
theorem c_7a (h : Fr σ) {P : ae_S × ae_O → Prop} (hx : ∀ (x4 : Option Value), hG ra (d + 1) 7 σ [some (.ref 0), some (.ref 2), some (.int (nI 24)), some (.int (nI 24)), x4] [] 58 P) : ∀ (m j : Nat) (x4 : Option Value), j + m = 24 → hG ra (d + 1) 7 σ [some (.ref 0), some (.ref 2), some (.int (nI 24)), some (.int (nI j)), x4] [] 10 P := by
  obtain ⟨f1, f2, f3, f5, hc, hlen, h0, hk1, hf1, hk2, hf2, hk3, hf3, h4, hk5, hf5, h6⟩ := fr_cls h
  intro m
  induction m with
  | zero =>
    intro j x4 hj
    have hj : j = 24 := by omega
    subst hj
    refine h_st rfl rfl ?_
    refine h_st rfl rfl ?_
    refine h_st rfl rfl ?_
    refine h_pc (if_pos (decide_eq_true (nI_le (Nat.le_refl 24) (by decide)))) ?_
    exact hx x4
  | succ m ih =>
    intro j x4 hjm
    have hj : j < 24 := by omega
    obtain ⟨fb, fp, fh, g1, g2, g3, g4, g5, g6, g7, g8, g9, g10⟩ := fr_line h hj
    have hv : f2 (nI j).toNatClampNeg = some (8 + 7 * j) := by rw [nI_clamp (by omega)]; exact hf2 j hj
    have ih1 := fun (x4 : Option Value) => ih (j + 1) x4 (by omega)
    simp only [← nI_1] at ih1
    refine h_st rfl rfl ?_
    refine h_st rfl rfl ?_
    refine h_st rfl rfl ?_
    refine h_pc (if_neg (fun z => (nI_ge hj (by decide)) (of_decide_eq_true z))) ?_
    refine h_st rfl rfl ?_
    refine h_st rfl rfl ?_
    refine h_st rfl ((e_aa hk2 (by decide) (nI_in hj (by decide))).trans (by rw [hv])) ?_
    refine h_st rfl rfl ?_
    refine h_st rfl rfl ?_
    refine h_st rfl (e_get g1 rfl) ?_
    refine h_st rfl rfl ?_
    refine h_pc (if_neg (by decide)) ?_
    refine h_st rfl rfl ?_
    refine h_st rfl (e_get g1 rfl) ?_
    refine h_ci1 rfl (Nat.le_of_ble_eq_true rfl) (e_rcv (g5)) rfl (c_8 g5) (fun σ' b hb => ?_)
    obtain ⟨rfl, rfl⟩ := hb
    refine h_st rfl rfl ?_
    refine h_pc (if_neg (by decide)) ?_
    refine h_st rfl rfl ?_
    refine h_st rfl (e_get g1 rfl) ?_
    refine h_ci1 rfl (Nat.le_of_ble_eq_true rfl) (e_rcv (g8)) rfl (c_8 g8) (fun σ' b hb => ?_)
    obtain ⟨rfl, rfl⟩ := hb
    refine h_st rfl rfl ?_
    refine h_pc (if_pos (by decide)) ?_
    refine h_st rfl rfl ?_
    refine h_st rfl rfl ?_
    exact ih1 _
theorem c_7b (h : Fr σ) {P : ae_S × ae_O → Prop} (hx : ∀ (x4 : Option Value), hG ra (d + 1) 7 σ [some (.ref 0), some (.ref 1), some (.int (nI 8)), some (.int (nI 8)), x4] [] 99 P) : ∀ (m j : Nat) (x4 : Option Value), j + m = 8 → hG ra (d + 1) 7 σ [some (.ref 0), some (.ref 1), some (.int (nI 8)), some (.int (nI j)), x4] [] 68 P := by
  obtain ⟨f1, f2, f3, f5, hc, hlen, h0, hk1, hf1, hk2, hf2, hk3, hf3, h4, hk5, hf5, h6⟩ := fr_cls h
  intro m
  induction m with
  | zero =>
    intro j x4 hj
    have hj : j = 8 := by omega
    subst hj
    refine h_st rfl rfl ?_
    refine h_st rfl rfl ?_
    refine h_st rfl rfl ?_
    refine h_pc (if_pos (decide_eq_true (nI_le (Nat.le_refl 8) (by decide)))) ?_
    exact hx x4
  | succ m ih =>
    intro j x4 hjm
    have hj : j < 8 := by omega
    have hv : f1 (nI j).toNatClampNeg = none := by rw [nI_clamp (by omega)]; exact hf1 j hj
    have ih1 := fun (x4 : Option Value) => ih (j + 1) x4 (by omega)
    simp only [← nI_1] at ih1
    refine h_st rfl rfl ?_
    refine h_st rfl rfl ?_
    refine h_st rfl rfl ?_
    refine h_pc (if_neg (fun z => (nI_ge hj (by decide)) (of_decide_eq_true z))) ?_
    refine h_st rfl rfl ?_
    refine h_st rfl rfl ?_
    refine h_st rfl ((e_aa hk1 (by decide) (nI_in hj (by decide))).trans (by rw [hv])) ?_
    refine h_st rfl rfl ?_
    refine h_st rfl rfl ?_
    refine h_st rfl rfl ?_
    refine h_st rfl rfl ?_
    refine h_st rfl rfl ?_
    exact ih1 _
theorem c_7 (h : Fr σ) : hE ra (d + 2) 7 [.ref 0] σ (pI (fun σ' x => σ' = σ ∧ x = 1)) := by
  obtain ⟨f1, f2, f3, f5, hc, hlen, h0, hk1, hf1, hk2, hf2, hk3, hf3, h4, hk5, hf5, h6⟩ := fr_cls h
  refine h_in rfl rfl (Nat.le_of_ble_eq_true rfl) ?_
  refine h_st rfl rfl ?_
  refine h_st rfl (e_get h0 rfl) ?_
  refine h_st rfl rfl ?_
  refine h_st rfl rfl ?_
  refine h_st rfl (e_len hk2 (by decide)) ?_
  refine h_st rfl rfl ?_
  refine h_st rfl rfl ?_
  refine h_st rfl rfl ?_
  refine c_7a h (fun x4 => ?_) 24 0 _ rfl
  refine h_st rfl rfl ?_
  refine h_st rfl (e_get h0 rfl) ?_
  refine h_st rfl rfl ?_
  refine h_st rfl rfl ?_
  refine h_st rfl (e_len hk1 (by decide)) ?_
  refine h_st rfl rfl ?_
  refine h_st rfl rfl ?_
  refine h_st rfl rfl ?_
  refine c_7b h (fun x4 => ?_) 8 0 _ rfl
  refine h_st rfl rfl ?_
  exact h_rt rfl rfl (⟨_, _, rfl, rfl, rfl⟩)
theorem c_9a (h : Fr σ) {n : Int32} {P : ae_S × ae_O → Prop} (hx : ∀ (x5 : Option Value), hG ra d 9 σ [some (.ref 0), some (.int n), some (.ref 1), some (.int (nI 8)), some (.int (nI 8)), x5] [] 40 P) : ∀ (m j : Nat) (x5 : Option Value), j + m = 8 → hG ra d 9 σ [some (.ref 0), some (.int n), some (.ref 1), some (.int (nI 8)), some (.int (nI j)), x5] [] 11 P := by
  obtain ⟨f1, f2, f3, f5, hc, hlen, h0, hk1, hf1, hk2, hf2, hk3, hf3, h4, hk5, hf5, h6⟩ := fr_cls h
  intro m
  induction m with
  | zero =>
    intro j x5 hj
    have hj : j = 8 := by omega
    subst hj
    refine h_st rfl rfl ?_
    refine h_st rfl rfl ?_
    refine h_st rfl rfl ?_
    refine h_pc (if_pos (decide_eq_true (nI_le (Nat.le_refl 8) (by decide)))) ?_
    exact hx x5
  | succ m ih =>
    intro j x5 hjm
    have hj : j < 8 := by omega
    have hv : f1 (nI j).toNatClampNeg = none := by rw [nI_clamp (by omega)]; exact hf1 j hj
    have ih1 := fun (x5 : Option Value) => ih (j + 1) x5 (by omega)
    simp only [← nI_1] at ih1
    refine h_st rfl rfl ?_
    refine h_st rfl rfl ?_
    refine h_st rfl rfl ?_
    refine h_pc (if_neg (fun z => (nI_ge hj (by decide)) (of_decide_eq_true z))) ?_
    refine h_st rfl rfl ?_
    refine h_st rfl rfl ?_
    refine h_st rfl ((e_aa hk1 (by decide) (nI_in hj (by decide))).trans (by rw [hv])) ?_
    refine h_st rfl rfl ?_
    refine h_st rfl rfl ?_
    refine h_st rfl rfl ?_
    refine h_st rfl rfl ?_
    refine h_st rfl rfl ?_
    exact ih1 _
theorem c_9 (h : Fr σ) (n : Int32) : hE ra (d + 1) 9 [.ref 0, .int n] σ (pV (fun σ' => σ'.1 = σ.1 ∧ Sm σ σ' ∧ σ'.2[0]? = some (.inr (7, [.ref 1, .ref 2, .ref 3, .ref 4, .ref 6, .int (0 + n)])))) := by
  obtain ⟨f1, f2, f3, f5, hc, hlen, h0, hk1, hf1, hk2, hf2, hk3, hf3, h4, hk5, hf5, h6⟩ := fr_cls h
  refine h_in rfl rfl (Nat.le_of_ble_eq_true rfl) ?_
  refine h_st rfl rfl ?_
  refine h_st rfl (e_get h0 rfl) ?_
  refine h_st rfl rfl ?_
  refine h_st rfl rfl ?_
  refine h_st rfl (e_len hk1 (by decide)) ?_
  refine h_st rfl rfl ?_
  refine h_st rfl rfl ?_
  refine h_st rfl rfl ?_
  refine c_9a h (fun x5 => ?_) 8 0 _ rfl
  refine h_st rfl rfl ?_
  refine h_st rfl rfl ?_
  refine h_st rfl (e_get h0 rfl) ?_
  refine h_st rfl rfl ?_
  refine h_st rfl rfl ?_
  refine h_st rfl (e_put h0 rfl (Nat.le_of_ble_eq_true rfl)) ?_
  exact h_rv rfl (⟨_, rfl, rfl, fun q hq1 hq2 => st_ne (by omega), st_get h0⟩)
theorem c_6 (h : Fr σ) (n : Int32) : hE ra (d + 3) 6 [.ref 0, .int n] σ (pI (fun σ' x => σ'.1 = σ.1 ∧ Sm σ σ' ∧ x = (if ¬ n < 0 ∧ n ≤ 2000 then n else 0))) := by
  obtain ⟨f1, f2, f3, f5, hc, hlen, h0, hk1, hf1, hk2, hf2, hk3, hf3, h4, hk5, hf5, h6⟩ := fr_cls h
  refine h_in rfl rfl (Nat.le_of_ble_eq_true rfl) ?_
  refine h_st rfl rfl ?_
  refine h_st rfl rfl ?_
  refine h_br (fun h1 => ?_) (fun h1 => ?_)
  · refine h_st rfl rfl ?_
    refine h_st rfl rfl ?_
    refine h_st rfl rfl ?_
    refine h_st rfl rfl ?_
    refine h_st rfl rfl ?_
    refine h_st rfl rfl ?_
    refine h_st rfl rfl ?_
    refine h_st rfl rfl ?_
    refine h_pc (if_pos (by decide)) ?_
    refine h_st rfl rfl ?_
    refine h_st rfl (e_get h0 rfl) ?_
    exact h_rt rfl rfl (⟨_, _, rfl, rfl, fun _ _ _ => rfl, (if_neg (fun z => z.1 h1)).symm⟩)
  · refine h_st rfl rfl ?_
    refine h_st rfl rfl ?_
    refine h_st rfl rfl ?_
    refine h_br (fun h2 => ?_) (fun h2 => ?_)
    · refine h_st rfl rfl ?_
      refine h_st rfl rfl ?_
      refine h_st rfl rfl ?_
      refine h_st rfl rfl ?_
      refine h_st rfl rfl ?_
      refine h_st rfl rfl ?_
      refine h_st rfl rfl ?_
      refine h_br (fun h3 => ?_) (fun h3 => ?_)
      · refine h_st rfl rfl ?_
        refine h_st rfl (e_get h0 rfl) ?_
        exact h_rt rfl rfl (⟨_, _, rfl, rfl, fun _ _ _ => rfl, by rw [if_pos ⟨h1, h2⟩]; exact (Int32.le_antisymm h3 (Int32.not_lt.mp h1)).symm⟩)
      · refine h_st rfl rfl ?_
        refine h_ci1 rfl (Nat.le_of_ble_eq_true rfl) (e_rcv (h0)) rfl (c_7 h) (fun σ' b hb => ?_)
        obtain ⟨rfl, rfl⟩ := hb
        refine h_st rfl rfl ?_
        refine h_pc (if_neg (by decide)) ?_
        refine h_st rfl rfl ?_
        refine h_st rfl rfl ?_
        refine h_st rfl rfl ?_
        refine h_st rfl rfl ?_
        refine h_cv2 rfl (Nat.le_of_ble_eq_true rfl) (e_rcv (h0)) rfl (c_9 h (n - 0)) (fun σ2 hs => ?_)
        obtain ⟨s1, s2, s3⟩ := hs
        refine h_st rfl rfl ?_
        refine h_st rfl rfl ?_
        refine h_st rfl (e_get s3 rfl) ?_
        exact h_rt rfl rfl (⟨_, _, rfl, s1, s2, by rw [if_pos ⟨h1, h2⟩]; simp⟩)
    · refine h_st rfl rfl ?_
      refine h_st rfl rfl ?_
      refine h_st rfl rfl ?_
      refine h_st rfl rfl ?_
      refine h_st rfl rfl ?_
      refine h_st rfl rfl ?_
      refine h_st rfl rfl ?_
      refine h_st rfl rfl ?_
      refine h_pc (if_pos (by decide)) ?_
      refine h_st rfl rfl ?_
      refine h_st rfl (e_get h0 rfl) ?_
      exact h_rt rfl rfl (⟨_, _, rfl, rfl, fun _ _ _ => rfl, (if_neg (fun z => h2 z.2)).symm⟩)
def RT (σ : ae_S) (t : Int32) : Prop := σ.2[176]? = some (.inr (8, rf_M 0 t 0)) ∧ rf_A.all (fun q => vi σ q.1 q.2.1 q.2.2.1 q.2.2.2.1 (fun _ => q.2.2.2.2)) = true
theorem rt_a {u : Int32} (h : RT σ u) {p t n m : Nat} {v : Int32} (hq : (p, t, n, m, v) ∈ rf_A) : ∃ f, σ.2[p]? = some (.inl (t, n, .inl f)) ∧ ∀ j, j < m → f j = v := vi_eq (List.all_eq_true.mp h.2 _ hq)
theorem RT.step {t u : Int32} (h : RT σ t) : RT (σ.1, σ.2.set 176 (.inr (8, rf_M 0 u 0))) u := by
  refine ⟨st_get h.1, List.all_eq_true.mpr fun q hq => ?_⟩
  have h1 := List.all_eq_true.mp h.2 q hq
  have h2 : 177 ≤ q.1 := of_decide_eq_true (List.all_eq_true.mp (show rf_A.all (fun q => decide (177 ≤ q.1)) = true by decide +kernel) q hq)
  unfold vi at h1 ⊢
  simp only [List.getElem?_set_ne (show 176 ≠ q.1 by omega)]
  exact h1
theorem r_129 {t : Int32} (h : RT σ t) {j : Nat} (hj : j < 48) : hE ra (d + 1) 129 [.ref 176, .int (nI j)] σ (pI (fun σ' x => σ' = σ ∧ x = -1)) := by
  obtain ⟨f, a198, b198⟩ := rt_a h (p := 198) (t := 0) (n := 48) (m := 48) (v := 0) (by simp [rf_A])
  have hv : f (nI j).toNatClampNeg = 0 := by rw [nI_clamp (by omega)]; exact b198 j hj
  refine h_in rfl rfl (Nat.le_of_ble_eq_true rfl) ?_
  refine h_st rfl rfl ?_
  refine h_st rfl (e_get h.1 rfl) ?_
  refine h_st rfl rfl ?_
  refine h_st rfl ((e_ia a198 (nI_in hj (by decide))).trans (by rw [hv])) ?_
  refine h_st rfl rfl ?_
  refine h_pc (if_neg (by decide)) ?_
  refine h_st rfl rfl ?_
  exact h_rt rfl rfl (⟨_, _, rfl, rfl, rfl⟩)
theorem r_102 {t : Int32} (h : RT σ t) {j : Nat} (hj : j < 8) : hE ra (d + 1) 102 [.ref 176, .int (nI j)] σ (pV (fun σ' => σ' = σ)) := by
  obtain ⟨f, a177, b177⟩ := rt_a h (p := 177) (t := 2) (n := 8) (m := 8) (v := 0) (by simp [rf_A])
  have hv : f (nI j).toNatClampNeg = 0 := by rw [nI_clamp (by omega)]; exact b177 j hj
  refine h_in rfl rfl (Nat.le_of_ble_eq_true rfl) ?_
  refine h_st rfl rfl ?_
  refine h_st rfl (e_get h.1 rfl) ?_
  refine h_st rfl rfl ?_
  refine h_st rfl ((e_ba a177 (Or.inr rfl) (nI_in hj (by decide))).trans (by rw [hv])) ?_
  refine h_st rfl rfl ?_
  refine h_pc (if_pos (by decide)) ?_
  exact h_rv rfl (⟨_, rfl, rfl⟩)
theorem r_114 {t : Int32} (h : RT σ t) {j : Nat} (hj : j < 24) : hE ra (d + 1) 114 [.ref 176, .int (nI j)] σ (pV (fun σ' => σ' = σ)) := by
  obtain ⟨f, a199, b199⟩ := rt_a h (p := 199) (t := 0) (n := 24) (m := 24) (v := -1) (by simp [rf_A])
  have hv : f (nI j).toNatClampNeg = -1 := by rw [nI_clamp (by omega)]; exact b199 j hj
  refine h_in rfl rfl (Nat.le_of_ble_eq_true rfl) ?_
  refine h_st rfl rfl ?_
  refine h_st rfl (e_get h.1 rfl) ?_
  refine h_st rfl rfl ?_
  refine h_st rfl ((e_ia a199 (nI_in hj (by decide))).trans (by rw [hv])) ?_
  refine h_st rfl rfl ?_
  refine h_st rfl rfl ?_
  refine h_pc (if_neg (by decide)) ?_
  exact h_rv rfl (⟨_, rfl, rfl⟩)
theorem r_128 {t : Int32} (h : RT σ t) {j : Nat} (hj : j < 24) : hE ra (d + 2) 128 [.ref 176, .int (nI j)] σ (pV (fun σ' => σ' = σ)) := by
  obtain ⟨f, a199, b199⟩ := rt_a h (p := 199) (t := 0) (n := 24) (m := 24) (v := -1) (by simp [rf_A])
  have hv : f (nI j).toNatClampNeg = -1 := by rw [nI_clamp (by omega)]; exact b199 j hj
  have e2 : nI (2 * j) = 2 * nI j := by rw [show (2 : Int32) = nI 2 from rfl, pk_mul]
  have e1 : nI (2 * j + 1) = 2 * nI j + 1 := by rw [← nI_1, e2]
  refine h_in rfl rfl (Nat.le_of_ble_eq_true rfl) ?_
  refine h_st rfl rfl ?_
  refine h_st rfl (e_get h.1 rfl) ?_
  refine h_st rfl rfl ?_
  refine h_st rfl ((e_ia a199 (nI_in hj (by decide))).trans (by rw [hv])) ?_
  refine h_st rfl rfl ?_
  refine h_st rfl rfl ?_
  refine h_pc (if_pos (by decide)) ?_
  refine h_st rfl rfl ?_
  refine h_st rfl rfl ?_
  refine h_st rfl rfl ?_
  refine h_st rfl rfl ?_
  refine h_st rfl rfl ?_
  refine h_st rfl rfl ?_
  refine h_ci2 rfl (Nat.le_of_ble_eq_true rfl) (e_rcv (h.1)) rfl (e1 ▸ r_129 h (j := 2 * j + 1) (by omega)) (fun σ' b hb => ?_)
  obtain ⟨rfl, rfl⟩ := hb
  refine h_st rfl rfl ?_
  refine h_st rfl rfl ?_
  refine h_st rfl rfl ?_
  refine h_st rfl rfl ?_
  refine h_pc (if_neg (by decide)) ?_
  refine h_st rfl rfl ?_
  refine h_st rfl rfl ?_
  refine h_st rfl rfl ?_
  refine h_st rfl rfl ?_
  refine h_ci2 rfl (Nat.le_of_ble_eq_true rfl) (e_rcv (h.1)) rfl (e2 ▸ r_129 h (j := 2 * j) (by omega)) (fun σ' b hb => ?_)
  obtain ⟨rfl, rfl⟩ := hb
  refine h_st rfl rfl ?_
  refine h_st rfl rfl ?_
  refine h_st rfl rfl ?_
  refine h_st rfl rfl ?_
  refine h_pc (if_pos (by decide)) ?_
  refine h_st rfl rfl ?_
  refine h_st rfl rfl ?_
  refine h_st rfl rfl ?_
  refine h_pc (if_neg (by decide)) ?_
  exact h_rv rfl (⟨_, rfl, rfl⟩)
theorem r_101a {t : Int32} (h : RT σ t) {n k : Int32} {P : ae_S × ae_O → Prop} (hx : ∀ (x4 : Option Value), hG ra (d + 2) 101 σ [some (.ref 176), some (.int n), some (.int k), some (.int (nI 8)), x4] [] 38 P) : ∀ (m j : Nat) (x4 : Option Value), j + m = 8 → hG ra (d + 2) 101 σ [some (.ref 176), some (.int n), some (.int k), some (.int (nI j)), x4] [] 21 P := by
  intro m
  induction m with
  | zero =>
    intro j x4 hj
    have hj : j = 8 := by omega
    subst hj
    refine h_st rfl rfl ?_
    refine h_st rfl rfl ?_
    refine h_st rfl rfl ?_
    refine h_pc (if_pos (decide_eq_true (nI_le (Nat.le_refl 8) (by decide)))) ?_
    exact hx x4
  | succ m ih =>
    intro j x4 hjm
    have hj : j < 8 := by omega
    have ih1 := fun (x4 : Option Value) => ih (j + 1) x4 (by omega)
    simp only [← nI_1] at ih1
    refine h_st rfl rfl ?_
    refine h_st rfl rfl ?_
    refine h_st rfl rfl ?_
    refine h_pc (if_neg (fun z => (nI_ge hj (by decide)) (of_decide_eq_true z))) ?_
    refine h_st rfl rfl ?_
    refine h_st rfl rfl ?_
    refine h_cv2 rfl (Nat.le_of_ble_eq_true rfl) (e_rcv (h.1)) rfl (r_102 h hj) (fun σ' hb => ?_)
    subst hb
    refine h_st rfl rfl ?_
    refine h_st rfl rfl ?_
    exact ih1 _
theorem r_101b {t : Int32} (h : RT σ t) {n k : Int32} {P : ae_S × ae_O → Prop} (hx : ∀ (x4 : Option Value), hG ra (d + 2) 101 σ [some (.ref 176), some (.int n), some (.int k), some (.int (nI 24)), x4] [] 57 P) : ∀ (m j : Nat) (x4 : Option Value), j + m = 24 → hG ra (d + 2) 101 σ [some (.ref 176), some (.int n), some (.int k), some (.int (nI j)), x4] [] 40 P := by
  intro m
  induction m with
  | zero =>
    intro j x4 hj
    have hj : j = 24 := by omega
    subst hj
    refine h_st rfl rfl ?_
    refine h_st rfl rfl ?_
    refine h_st rfl rfl ?_
    refine h_pc (if_pos (decide_eq_true (nI_le (Nat.le_refl 24) (by decide)))) ?_
    exact hx x4
  | succ m ih =>
    intro j x4 hjm
    have hj : j < 24 := by omega
    have ih1 := fun (x4 : Option Value) => ih (j + 1) x4 (by omega)
    simp only [← nI_1] at ih1
    refine h_st rfl rfl ?_
    refine h_st rfl rfl ?_
    refine h_st rfl rfl ?_
    refine h_pc (if_neg (fun z => (nI_ge hj (by decide)) (of_decide_eq_true z))) ?_
    refine h_st rfl rfl ?_
    refine h_st rfl rfl ?_
    refine h_cv2 rfl (Nat.le_of_ble_eq_true rfl) (e_rcv (h.1)) rfl (r_114 h hj) (fun σ' hb => ?_)
    subst hb
    refine h_st rfl rfl ?_
    refine h_st rfl rfl ?_
    exact ih1 _
theorem r_101c {t : Int32} (h : RT σ t) {n k : Int32} {P : ae_S × ae_O → Prop} (hx : ∀ (x4 : Option Value), hG ra (d + 2) 101 σ [some (.ref 176), some (.int n), some (.int k), some (.int (nI 24)), x4] [] 76 P) : ∀ (m j : Nat) (x4 : Option Value), j + m = 24 → hG ra (d + 2) 101 σ [some (.ref 176), some (.int n), some (.int k), some (.int (nI j)), x4] [] 59 P := by
  intro m
  induction m with
  | zero =>
    intro j x4 hj
    have hj : j = 24 := by omega
    subst hj
    refine h_st rfl rfl ?_
    refine h_st rfl rfl ?_
    refine h_st rfl rfl ?_
    refine h_pc (if_pos (decide_eq_true (nI_le (Nat.le_refl 24) (by decide)))) ?_
    exact hx x4
  | succ m ih =>
    intro j x4 hjm
    have hj : j < 24 := by omega
    have ih1 := fun (x4 : Option Value) => ih (j + 1) x4 (by omega)
    simp only [← nI_1] at ih1
    refine h_st rfl rfl ?_
    refine h_st rfl rfl ?_
    refine h_st rfl rfl ?_
    refine h_pc (if_neg (fun z => (nI_ge hj (by decide)) (of_decide_eq_true z))) ?_
    refine h_st rfl rfl ?_
    refine h_st rfl rfl ?_
    refine h_cv2 rfl (Nat.le_of_ble_eq_true rfl) (e_rcv (h.1)) rfl (r_128 h hj) (fun σ' hb => ?_)
    subst hb
    refine h_st rfl rfl ?_
    refine h_st rfl rfl ?_
    exact ih1 _
theorem r_101d {t : Int32} (h : RT σ t) {n k : Int32} {P : ae_S × ae_O → Prop} (hx : ∀ (x4 : Option Value), hG ra (d + 2) 101 σ [some (.ref 176), some (.int n), some (.int k), some (.int (nI 16)), x4] [] 174 P) : ∀ (m j : Nat) (x4 : Option Value), j + m = 16 → hG ra (d + 2) 101 σ [some (.ref 176), some (.int n), some (.int k), some (.int (nI j)), x4] [] 78 P := by
  obtain ⟨fm, a182, b182⟩ := rt_a h (p := 182) (t := 0) (n := 8) (m := 8) (v := 0) (by simp [rf_A])
  obtain ⟨fg, a181, b181⟩ := rt_a h (p := 181) (t := 0) (n := 8) (m := 8) (v := 0) (by simp [rf_A])
  obtain ⟨fi, a177, b177⟩ := rt_a h (p := 177) (t := 2) (n := 8) (m := 8) (v := 0) (by simp [rf_A])
  intro m
  induction m with
  | zero =>
    intro j x4 hj
    have hj : j = 16 := by omega
    subst hj
    refine h_st rfl rfl ?_
    refine h_st rfl rfl ?_
    refine h_st rfl rfl ?_
    refine h_pc (if_pos (decide_eq_true (nI_le (Nat.le_refl 16) (by decide)))) ?_
    exact hx x4
  | succ m ih =>
    intro j x4 hjm
    have hj : j < 16 := by omega
    have hr : nI j - nI j / 8 * 8 = nI (j % 8) := pk_rem (a := j) (d := 8) (by omega) (by decide) (by decide)
    have hin : ¬ (nI j - nI j / 8 * 8 < 0 ∨ 8 ≤ (nI j - nI j / 8 * 8).toNatClampNeg) := by rw [hr]; exact nI_in (Nat.mod_lt _ (by decide)) (by decide)
    have hv : fi (nI j - nI j / 8 * 8).toNatClampNeg = 0 := by rw [hr, nI_clamp (by omega)]; exact b177 _ (Nat.mod_lt _ (by decide))
    have ih1 := fun (x4 : Option Value) => ih (j + 1) x4 (by omega)
    simp only [← nI_1] at ih1
    refine h_st rfl rfl ?_
    refine h_st rfl rfl ?_
    refine h_st rfl rfl ?_
    refine h_pc (if_neg (fun z => (nI_ge hj (by decide)) (of_decide_eq_true z))) ?_
    refine h_st rfl rfl ?_
    refine h_st rfl (e_get h.1 rfl) ?_
    refine h_st rfl rfl ?_
    refine h_st rfl rfl ?_
    refine h_st rfl (e_dv (by decide)) ?_
    refine h_st rfl (e_ia a182 hin) ?_
    refine h_st rfl rfl ?_
    refine h_st rfl (e_get h.1 rfl) ?_
    refine h_st rfl rfl ?_
    refine h_st rfl rfl ?_
    refine h_st rfl (e_dv (by decide)) ?_
    refine h_st rfl (e_ia a181 hin) ?_
    refine h_st rfl rfl ?_
    refine h_st rfl rfl ?_
    refine h_st rfl rfl ?_
    refine h_st rfl rfl ?_
    refine h_st rfl rfl ?_
    refine h_st rfl (e_get h.1 rfl) ?_
    refine h_st rfl rfl ?_
    refine h_st rfl rfl ?_
    refine h_st rfl (e_dv (by decide)) ?_
    refine h_st rfl ((e_ba a177 (Or.inr rfl) hin).trans (by rw [hv])) ?_
    refine h_st rfl rfl ?_
    refine h_pc (if_pos (by decide)) ?_
    refine h_st rfl rfl ?_
    refine h_st rfl rfl ?_
    exact ih1 _
theorem r_101t {N : Nat} (hN : N ≤ 2000) {c0 : Nat × Nat} : ∀ (m k : Nat) (σ : ae_S) (x3 x4 : Option Value), k + m = N → RT σ (nI k) → σ.1 = c0 → hG ra (d + 2) 101 σ [some (.ref 176), some (.int (nI N)), some (.int (nI k)), x3, x4] [] 7 (pI (fun σ' x => σ'.1 = c0 ∧ x = nI N)) := by
  intro m
  induction m with
  | zero =>
    intro k σ x3 x4 hk h hc
    have hk : k = N := by omega
    subst hk
    refine h_st rfl rfl ?_
    refine h_st rfl rfl ?_
    refine h_st rfl rfl ?_
    refine h_pc (if_pos (decide_eq_true (nI_le (Nat.le_refl _) (by omega)))) ?_
    refine h_st rfl rfl ?_
    refine h_st rfl (e_get h.1 rfl) ?_
    exact h_rt rfl rfl (⟨_, _, rfl, hc, rfl⟩)
  | succ m ih =>
    intro k σ x3 x4 hk h hc
    refine h_st rfl rfl ?_
    refine h_st rfl rfl ?_
    refine h_st rfl rfl ?_
    refine h_pc (if_neg (fun z9 => (nI_ge (show k < N by omega) (by omega)) (of_decide_eq_true z9))) ?_
    refine h_st rfl rfl ?_
    refine h_st rfl rfl ?_
    refine h_st rfl rfl ?_
    refine h_pc (if_neg (fun z9 => (fun z => absurd (nI_le hN (by decide)) (Int32.not_le.mpr z)) (of_decide_eq_true z9))) ?_
    refine h_st rfl rfl ?_
    refine h_st rfl rfl ?_
    refine r_101a h (fun x4 => ?_) 8 0 _ rfl
    refine h_st rfl rfl ?_
    refine h_st rfl rfl ?_
    refine r_101b h (fun x4 => ?_) 24 0 _ rfl
    refine h_st rfl rfl ?_
    refine h_st rfl rfl ?_
    refine r_101c h (fun x4 => ?_) 24 0 _ rfl
    refine h_st rfl rfl ?_
    refine h_st rfl rfl ?_
    refine r_101d h (fun x4 => ?_) 16 0 _ rfl
    refine h_st rfl rfl ?_
    refine h_st rfl rfl ?_
    refine h_st rfl (e_get h.1 rfl) ?_
    refine h_st rfl rfl ?_
    refine h_st rfl rfl ?_
    refine h_st rfl (e_put h.1 rfl (Nat.le_of_ble_eq_true rfl)) ?_
    refine h_st rfl rfl ?_
    refine h_st rfl rfl ?_
    have ih1 := ih (k + 1) (σ.1, σ.2.set 176 (.inr (8, rf_M 0 (nI (k + 1)) 0))) (some (.int (nI 16))) x4 (by omega) h.step hc
    simp only [← nI_1] at ih1
    exact ih1
theorem RF.rt (h : RF σ) : RT σ (nI 0) := ⟨rf_o h, h.2⟩
theorem r_101 (h : RF σ) (n : Int32) : hE ra (d + 3) 101 [.ref 176, .int n] σ (pI (fun σ' x => σ'.1 = σ.1 ∧ x = (if ¬ n < 0 ∧ n ≤ 2000 then n else 0))) := by
  have hm := rf_o h
  by_cases h1 : n < 0
  · refine h_in rfl rfl (Nat.le_of_ble_eq_true rfl) ?_
    refine h_st rfl rfl ?_
    refine h_st rfl rfl ?_
    refine h_st rfl (e_putS hm rfl (Nat.le_of_ble_eq_true rfl) rfl) ?_
    refine h_st rfl rfl ?_
    refine h_st rfl rfl ?_
    refine h_st rfl rfl ?_
    refine h_st rfl rfl ?_
    refine h_st rfl rfl ?_
    refine h_pc (if_pos (decide_eq_true (Int32.le_of_lt h1))) ?_
    refine h_st rfl rfl ?_
    refine h_st rfl (e_get hm rfl) ?_
    exact h_rt rfl rfl (⟨_, _, rfl, rfl, (if_neg (fun z => z.1 h1)).symm⟩)
  · by_cases h2 : n ≤ 2000
    · obtain ⟨N, hN, rfl⟩ := nI_of2 (M := 2000) (n := 2000) (by decide) h1 h2
      refine h_in rfl rfl (Nat.le_of_ble_eq_true rfl) ?_
      refine h_st rfl rfl ?_
      refine h_st rfl rfl ?_
      refine h_st rfl (e_putS hm rfl (Nat.le_of_ble_eq_true rfl) rfl) ?_
      refine h_st rfl rfl ?_
      refine h_st rfl rfl ?_
      refine hG_mono (r_101t hN N 0 σ _ _ (by omega) h.rt rfl) ?_
      intro r hr
      obtain ⟨σ', x, e1, e2, e3⟩ := hr
      exact ⟨σ', x, e1, e2, by rw [if_pos ⟨h1, h2⟩]; exact e3⟩
    · refine h_in rfl rfl (Nat.le_of_ble_eq_true rfl) ?_
      refine h_st rfl rfl ?_
      refine h_st rfl rfl ?_
      refine h_st rfl (e_putS hm rfl (Nat.le_of_ble_eq_true rfl) rfl) ?_
      refine h_st rfl rfl ?_
      refine h_st rfl rfl ?_
      refine h_st rfl rfl ?_
      refine h_st rfl rfl ?_
      refine h_st rfl rfl ?_
      refine h_pc (if_neg (fun z9 => (fun z => h1 (Int32.lt_of_le_of_ne z (fun q => h2 (by rw [q]; decide)))) (of_decide_eq_true z9))) ?_
      refine h_st rfl rfl ?_
      refine h_st rfl rfl ?_
      refine h_st rfl rfl ?_
      refine h_pc (if_pos (decide_eq_true (Int32.not_le.mp h2))) ?_
      refine h_st rfl rfl ?_
      refine h_st rfl (e_get hm rfl) ?_
      exact h_rt rfl rfl (⟨_, _, rfl, rfl, (if_neg (fun z => h2 z.2)).symm⟩)
end SP4
