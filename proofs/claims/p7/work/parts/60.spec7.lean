section SP7
variable {ra : ae_R} {d : Nat} {σ : ae_S}
/-- the shape of the reference -/
def RSh (σ : ae_S) (cc : Nat × Nat) (c u g : Int32) : Prop := σ.1 = cc ∧ σ.2[176]? = some (.inr (8, rf_M c u g)) ∧ ∀ q ∈ rf_A, ∃ f, σ.2[q.1]? = some (.inl (q.2.1, q.2.2.1, .inl f))
theorem RSh.a {cc : Nat × Nat} {c u g : Int32} (h : RSh σ cc c u g) {p t n m : Nat} {v : Int32} (hq : (p, t, n, m, v) ∈ rf_A) : ∃ f, σ.2[p]? = some (.inl (t, n, .inl f)) := h.2.2 _ hq
theorem RF.sh (h : RF σ) : RSh σ σ.1 0 0 0 := ⟨rfl, rf_o h, fun q hq => by
  obtain ⟨f, h1, _⟩ := rf_a h (p := q.1) (t := q.2.1) (n := q.2.2.1) (m := q.2.2.2.1) (v := q.2.2.2.2) hq
  exact ⟨f, h1⟩⟩
theorem rf_A_gt {p t n m : Nat} {v : Int32} (hq : (p, t, n, m, v) ∈ rf_A) : 176 ≠ p := by
  have h2 : 177 ≤ p := of_decide_eq_true (List.all_eq_true.mp (show rf_A.all (fun q => decide (177 ≤ q.1)) = true by decide +kernel) _ hq)
  omega
theorem RSh.w {cc : Nat × Nat} {c u g : Int32} (h : RSh σ cc c u g) {p t n m : Nat} {v : Int32} (hq : (p, t, n, m, v) ∈ rf_A) (f' : Nat → Int32) : RSh (σ.1, σ.2.set p (.inl (t, n, .inl f'))) cc c u g := by
  obtain ⟨f, hf⟩ := h.a hq
  have hne := rf_A_gt hq
  refine ⟨h.1, (st_ne (Ne.symm hne)).trans h.2.1, fun q hq2 => ?_⟩
  obtain ⟨f2, hf2⟩ := h.2.2 q hq2
  by_cases e : q.1 = p
  · rw [e, hf] at hf2
    injection hf2 with z
    injection z with z
    injection z with z1 z2
    injection z2 with z2 z3
    rw [e, ← z1, ← z2]
    exact ⟨f', st_get hf⟩
  · exact ⟨f2, (st_ne (Ne.symm e)).trans hf2⟩
theorem RSh.p {cc : Nat × Nat} {c u g c' u' g' : Int32} (h : RSh σ cc c u g) : RSh (σ.1, σ.2.set 176 (.inr (8, rf_M c' u' g'))) cc c' u' g' := by
  refine ⟨h.1, st_get h.2.1, fun q hq => ?_⟩
  obtain ⟨f, hf⟩ := h.2.2 q hq
  exact ⟨f, (st_ne (rf_A_gt (p := q.1) (t := q.2.1) (n := q.2.2.1) (m := q.2.2.2.1) (v := q.2.2.2.2) hq)).trans hf⟩
section SS
variable {cc : Nat × Nat} {c u g : Int32} {p n m np mid pc : Nat} {v j x : Int32} {L : ae_Ls} {k : List Value} {P : ae_S × ae_O → Prop}
theorem s_ias (ht : ae_tab (at0 mid) pc = some (.inl (o_ias np))) (h : RSh σ cc c u g) (hq : (p, 0, n, m, v) ∈ rf_A) (hj : ¬ (j < 0 ∨ n ≤ j.toNatClampNeg)) (hc : ∀ σ' f, RSh σ' cc c u g → (∀ q, q ≠ p → σ'.2[q]? = σ.2[q]?) → σ'.2[p]? = some (.inl (0, n, .inl (upd f j.toNatClampNeg x))) ∧ σ.2[p]? = some (.inl (0, n, .inl f)) → hG ra d mid σ' L k np P) : hG ra d mid σ L (.int x :: .int j :: .ref p :: k) pc P := by
  obtain ⟨f, hf⟩ := h.a hq
  exact h_st ht (e_ias hf hj) (hc _ f (h.w hq _) (fun q hq => st_ne (Ne.symm hq)) ⟨st_get hf, hf⟩)
theorem s_bas (ht : ae_tab (at0 mid) pc = some (.inl (o_bas np))) (h : RSh σ cc c u g) (hq : (p, 2, n, m, v) ∈ rf_A) (hj : ¬ (j < 0 ∨ n ≤ j.toNatClampNeg)) (hc : ∀ σ' f, RSh σ' cc c u g → (∀ q, q ≠ p → σ'.2[q]? = σ.2[q]?) → σ'.2[p]? = some (.inl (2, n, .inl (upd f j.toNatClampNeg (vp_nar .boolean x)))) ∧ σ.2[p]? = some (.inl (2, n, .inl f)) → hG ra d mid σ' L k np P) : hG ra d mid σ L (.int x :: .int j :: .ref p :: k) pc P := by
  obtain ⟨f, hf⟩ := h.a hq
  exact h_st ht (e_bas2 hf hj) (hc _ f (h.w hq _) (fun q hq => st_ne (Ne.symm hq)) ⟨st_get hf, hf⟩)
theorem s_ia (ht : ae_tab (at0 mid) pc = some (.inl (o_ia np))) (h : RSh σ cc c u g) (hq : (p, 0, n, m, v) ∈ rf_A) (hj : ¬ (j < 0 ∨ n ≤ j.toNatClampNeg)) (hc : ∀ x, hG ra d mid σ L (.int x :: k) np P) : hG ra d mid σ L (.int j :: .ref p :: k) pc P := by
  obtain ⟨f, hf⟩ := h.a hq
  exact h_st ht (e_ia hf hj) (hc _)
end SS
def okL (l s g m t f : Int32) : Prop := ¬ l < 0 ∧ ¬ 8 ≤ l ∧ ¬ s < 0 ∧ ¬ 4 ≤ s ∧ ¬ g < 4 ∧ ¬ 9 < g ∧ ¬ m < 64 ∧ ¬ 128 < m ∧ (¬ t ≤ 0 ∧ ¬ 16 ≤ t ∧ ¬ ¬ (t >>> (s &&& 31)) &&& 1 = 0) ∧ (¬ f >>> ((2 : Int32) &&& 31) < 1 ∧ ¬ 1000 < f >>> ((2 : Int32) &&& 31))
theorem i_ix {x : Int32} {n : Nat} (hn : n < 2 ^ 31) (h1 : ¬ x < 0) (h2 : ¬ nI n ≤ x) : ∃ j, j < n ∧ x = nI j := (pk_ix x hn).elim (fun z => absurd z h1) (fun z => z.elim (fun z => absurd z h2) id)
theorem b_1 {b : Int32} {A : Prop} (h : (b = 1 ∧ A) ∨ (b = 0 ∧ ¬ A)) (ha : A) : ¬ b = 0 := fun z => h.elim (fun q => absurd (q.1.symm.trans z) (by decide)) (fun q => q.2 ha)
theorem b_2 {b : Int32} {A : Prop} (h : (b = 1 ∧ A) ∨ (b = 0 ∧ ¬ A)) (hb : ¬ b = 0) : A := h.elim (fun q => q.2) (fun q => absurd q.1 hb)
theorem b_3 {b : Int32} {A : Prop} (h : (b = 1 ∧ A) ∨ (b = 0 ∧ ¬ A)) (ha : ¬ A) : b = 0 := h.elim (fun q => absurd q.2 ha) (fun q => q.1)
theorem i_15 {t : Int32} : 15 < t ↔ 16 ≤ t := by
  rw [Int32.lt_iff_toInt_lt, Int32.le_iff_toInt_le]
  have e1 : (15 : Int32).toInt = 15 := by decide
  have e2 : (16 : Int32).toInt = 16 := by decide
  rw [e1, e2]
  omega
theorem i_01 {t : Int32} : t < 1 ↔ t ≤ 0 := by
  rw [Int32.lt_iff_toInt_lt, Int32.le_iff_toInt_le]
  have e1 : (1 : Int32).toInt = 1 := by decide
  have e2 : (0 : Int32).toInt = 0 := by decide
  rw [e1, e2]
  omega
theorem c_80n (h : Fr σ) {l s g m t f : Int32} (hn : ¬ okL l s g m t f) : hE ra (d + 6) 80 [.ref 0, .int l, .int s, .int g, .int m, .int t, .int f] σ (pX 0 (fun σ' => σ'.1 = (σ.1.1 + 1, σ.1.2 + 6) ∧ σ'.2 = σ.2)) := by
  refine h_in rfl rfl (Nat.le_of_ble_eq_true rfl) ?_
  refine h_st rfl rfl ?_
  refine h_ci1 rfl (Nat.le_of_ble_eq_true rfl) rfl rfl (s_38 l) (fun σ' b1 hb => ?_)
  obtain ⟨rfl, hb1⟩ := hb
  refine h_st rfl rfl ?_
  refine h_br (fun q1 => ?_) (fun q1 => ?_)
  · exact h_th rfl (by omega) (Nat.le_of_ble_eq_true rfl) (⟨_, rfl, rfl, rfl⟩)
  · refine h_st rfl rfl ?_
    refine h_ci1 rfl (Nat.le_of_ble_eq_true rfl) rfl rfl (s_40 s) (fun σ' b2 hb => ?_)
    obtain ⟨rfl, hb2⟩ := hb
    refine h_st rfl rfl ?_
    refine h_br (fun q2 => ?_) (fun q2 => ?_)
    · exact h_th rfl (by omega) (Nat.le_of_ble_eq_true rfl) (⟨_, rfl, rfl, rfl⟩)
    · refine h_st rfl rfl ?_
      refine h_st rfl rfl ?_
      refine h_st rfl rfl ?_
      refine h_br (fun q3 => ?_) (fun q3 => ?_)
      · exact h_th rfl (by omega) (Nat.le_of_ble_eq_true rfl) (⟨_, rfl, rfl, rfl⟩)
      · refine h_st rfl rfl ?_
        refine h_st rfl rfl ?_
        refine h_st rfl rfl ?_
        refine h_br (fun q4 => ?_) (fun q4 => ?_)
        · exact h_th rfl (by omega) (Nat.le_of_ble_eq_true rfl) (⟨_, rfl, rfl, rfl⟩)
        · refine h_st rfl rfl ?_
          refine h_st rfl rfl ?_
          refine h_st rfl rfl ?_
          refine h_br (fun q5 => ?_) (fun q5 => ?_)
          · exact h_th rfl (by omega) (Nat.le_of_ble_eq_true rfl) (⟨_, rfl, rfl, rfl⟩)
          · refine h_st rfl rfl ?_
            refine h_st rfl rfl ?_
            refine h_st rfl rfl ?_
            refine h_br (fun q6 => ?_) (fun q6 => ?_)
            · exact h_th rfl (by omega) (Nat.le_of_ble_eq_true rfl) (⟨_, rfl, rfl, rfl⟩)
            · refine h_st rfl rfl ?_
              refine h_st rfl rfl ?_
              refine h_ci2 rfl (Nat.le_of_ble_eq_true rfl) rfl rfl (s_81 t s) (fun σ' b3 hb => ?_)
              obtain ⟨rfl, hb3⟩ := hb
              refine h_st rfl rfl ?_
              refine h_br (fun q7 => ?_) (fun q7 => ?_)
              · exact h_th rfl (by omega) (Nat.le_of_ble_eq_true rfl) (⟨_, rfl, rfl, rfl⟩)
              · refine h_st rfl rfl ?_
                refine h_ci1 rfl (Nat.le_of_ble_eq_true rfl) rfl rfl (s_82 f) (fun σ' b4 hb => ?_)
                obtain ⟨rfl, hb4⟩ := hb
                refine h_st rfl rfl ?_
                refine h_pc (if_neg (fun z9 => (fun z => hn ⟨(b_2 hb1 q1).1, (b_2 hb1 q1).2, (b_2 hb2 q2).1, (b_2 hb2 q2).2, q3, q4, q5, q6, b_2 hb3 q7, b_2 hb4 z⟩) (of_decide_eq_true z9))) ?_
                exact h_th rfl (by omega) (Nat.le_of_ble_eq_true rfl) (⟨_, rfl, rfl, rfl⟩)
theorem c_80g (h : Fr σ) {l s g m t f : Int32} (hy : okL l s g m t f) : hE ra (d + 6) 80 [.ref 0, .int l, .int s, .int g, .int m, .int t, .int f] σ (pV (fun σ' => Sm σ σ' ∧ σ'.1.1 ≤ σ.1.1 + 32 ∧ σ'.1.2 ≤ σ.1.2 + 4157)) := by
  obtain ⟨f1, f2, f3, f5, hc, hlen, h0, hk1, hf1, hk2, hf2, hk3, hf3, h4, hk5, hf5, h6⟩ := fr_cls h
  obtain ⟨y1, y2, y3, y4, y5, y6, y7, y8, y9, y10⟩ := hy
  obtain ⟨li, hli, el⟩ := i_ix (n := 8) (by decide) y1 y2
  obtain ⟨si, hsi, es⟩ := i_ix (n := 4) (by decide) y3 y4
  have hv : f1 (nI li).toNatClampNeg = none := by rw [nI_clamp (by omega)]; exact hf1 li hli
  have hin : ¬ (nI li < 0 ∨ 8 ≤ (nI li).toNatClampNeg) := nI_in hli (by decide)
  rw [← el] at hv hin
  refine h_in rfl rfl (Nat.le_of_ble_eq_true rfl) ?_
  refine h_st rfl rfl ?_
  refine h_ci1 rfl (Nat.le_of_ble_eq_true rfl) rfl rfl (s_38 l) (fun σ' b1 hb => ?_)
  obtain ⟨rfl, hb1⟩ := hb
  refine h_st rfl rfl ?_
  refine h_pc (if_neg (fun z9 => (b_1 hb1 ⟨y1, y2⟩) (of_decide_eq_true z9))) ?_
  refine h_st rfl rfl ?_
  refine h_ci1 rfl (Nat.le_of_ble_eq_true rfl) rfl rfl (s_40 s) (fun σ' b2 hb => ?_)
  obtain ⟨rfl, hb2⟩ := hb
  refine h_st rfl rfl ?_
  refine h_pc (if_neg (fun z9 => (b_1 hb2 ⟨y3, y4⟩) (of_decide_eq_true z9))) ?_
  refine h_st rfl rfl ?_
  refine h_st rfl rfl ?_
  refine h_st rfl rfl ?_
  refine h_pc (if_neg (fun z9 => (y5) (of_decide_eq_true z9))) ?_
  refine h_st rfl rfl ?_
  refine h_st rfl rfl ?_
  refine h_st rfl rfl ?_
  refine h_pc (if_neg (fun z9 => (y6) (of_decide_eq_true z9))) ?_
  refine h_st rfl rfl ?_
  refine h_st rfl rfl ?_
  refine h_st rfl rfl ?_
  refine h_pc (if_neg (fun z9 => (y7) (of_decide_eq_true z9))) ?_
  refine h_st rfl rfl ?_
  refine h_st rfl rfl ?_
  refine h_st rfl rfl ?_
  refine h_pc (if_neg (fun z9 => (y8) (of_decide_eq_true z9))) ?_
  refine h_st rfl rfl ?_
  refine h_st rfl rfl ?_
  refine h_ci2 rfl (Nat.le_of_ble_eq_true rfl) rfl rfl (s_81 t s) (fun σ' b3 hb => ?_)
  obtain ⟨rfl, hb3⟩ := hb
  refine h_st rfl rfl ?_
  refine h_pc (if_neg (fun z9 => (b_1 hb3 y9) (of_decide_eq_true z9))) ?_
  refine h_st rfl rfl ?_
  refine h_ci1 rfl (Nat.le_of_ble_eq_true rfl) rfl rfl (s_82 f) (fun σ' b4 hb => ?_)
  obtain ⟨rfl, hb4⟩ := hb
  refine h_st rfl rfl ?_
  refine h_pc (if_pos (decide_eq_true (b_1 hb4 y10))) ?_
  refine h_st rfl rfl ?_
  refine h_st rfl (e_get h0 rfl) ?_
  refine h_st rfl rfl ?_
  refine h_st rfl ((e_aa hk1 (by decide) hin).trans (by rw [hv])) ?_
  refine h_st rfl rfl ?_
  have hs := St.ini hk1
  refine h_st rfl rfl ?_
  refine h_st rfl (e_get h0 rfl) ?_
  refine h_st rfl rfl ?_
  refine t_new rfl hs (fun σ hs2 => ?_)
  replace hs := hs2
  clear hs2
  refine h_st rfl rfl ?_
  refine h_st rfl rfl ?_
  refine h_st rfl rfl ?_
  refine h_st rfl rfl ?_
  refine h_st rfl rfl ?_
  refine h_st rfl rfl ?_
  refine h_st rfl rfl ?_
  refine h_st rfl rfl ?_
  refine h_st rfl rfl ?_
  refine h_cv7 rfl (Nat.le_of_ble_eq_true rfl) (e_rcv (hs.at 1 rfl)) rfl (es ▸ k_83 hsi (hs.at 1 rfl)) (fun σ2 hk => ?_)
  obtain ⟨c2, N2, fs2, hs2, hd1, hd2⟩ := hk
  have hN2 := hs2.2.2.1
  rw [hs.2.1] at hN2
  rw [hs.1] at hd1 hd2
  simp only at hd1 hd2
  replace hs := hs.call (i := 1) rfl (And.intro (by first | omega | (dsimp only; omega)) trivial) hs2
  refine t_aas 0 rfl hs rfl (And.intro (by first | omega | (dsimp only; omega)) trivial) (hs.at 1 rfl) (by decide) (hin) (fun σ f hs2 => ?_)
  replace hs := hs2
  clear hs2
  exact h_rv rfl (⟨_, rfl, fun q h1 h2 => hs.2.2.2.2 q (by omega) (by omega), by rw [hs.1]; omega, by rw [hs.1]; omega⟩)
theorem c_79n (h : Fr σ) {l s g m t f : Int32} (hn : ¬ okL l s g m t f) : hE ra (d + 7) 79 [.ref 0, .int l, .int s, .int g, .int m, .int t, .int f] σ (pI (fun σ' x => x = 1 ∧ σ'.1 = (σ.1.1 + 1, σ.1.2 + 6) ∧ σ'.2 = σ.2)) := by
  obtain ⟨f1, f2, f3, f5, hc, hlen, h0, hk1, hf1, hk2, hf2, hk3, hf3, h4, hk5, hf5, h6⟩ := fr_cls h
  refine h_in rfl rfl (Nat.le_of_ble_eq_true rfl) ?_
  refine h_st rfl rfl ?_
  refine h_st rfl rfl ?_
  refine h_st rfl rfl ?_
  refine h_st rfl rfl ?_
  refine h_st rfl rfl ?_
  refine h_st rfl rfl ?_
  refine h_st rfl rfl ?_
  refine h_cx7 rfl (Nat.le_of_ble_eq_true rfl) (e_rcv (h0)) rfl (c_80n h hn) rfl (fun σ2 hq => ?_)
  refine h_st rfl rfl ?_
  exact h_rt rfl rfl (⟨_, _, rfl, rfl, hq⟩)
theorem c_79g (h : Fr σ) {l s g m t f : Int32} (hy : okL l s g m t f) : hE ra (d + 7) 79 [.ref 0, .int l, .int s, .int g, .int m, .int t, .int f] σ (pI (fun σ' x => x = 0 ∧ Sm σ σ' ∧ σ'.1.1 ≤ σ.1.1 + 32 ∧ σ'.1.2 ≤ σ.1.2 + 4157)) := by
  obtain ⟨f1, f2, f3, f5, hc, hlen, h0, hk1, hf1, hk2, hf2, hk3, hf3, h4, hk5, hf5, h6⟩ := fr_cls h
  refine h_in rfl rfl (Nat.le_of_ble_eq_true rfl) ?_
  refine h_st rfl rfl ?_
  refine h_st rfl rfl ?_
  refine h_st rfl rfl ?_
  refine h_st rfl rfl ?_
  refine h_st rfl rfl ?_
  refine h_st rfl rfl ?_
  refine h_st rfl rfl ?_
  refine h_cv7 rfl (Nat.le_of_ble_eq_true rfl) (e_rcv (h0)) rfl (c_80g h hy) (fun σ2 hq => ?_)
  refine h_st rfl rfl ?_
  refine h_st rfl rfl ?_
  exact h_rt rfl rfl (⟨_, _, rfl, rfl, hq⟩)
theorem r_97x (hm : σ.2[176]? = some (.inr (8, rf_M 0 0 0))) {l s g m t f : Int32} {x8 x9 : Option Value} : hG ra d 97 σ [some (.ref 176), some (.int l), some (.int s), some (.int g), some (.int m), some (.int t), some (.int f), some (.int (f >>> ((2 : Int32) &&& 31))), x8, x9] [] 91 (pV (fun σ' => σ'.1 = σ.1 ∧ σ'.2[176]? = some (.inr (8, rf_M 1 0 0)))) := by
  refine h_st rfl rfl ?_
  refine h_st rfl rfl ?_
  refine h_st rfl rfl ?_
  refine h_st rfl rfl ?_
  refine h_st rfl rfl ?_
  refine h_pc (if_neg (by decide)) ?_
  refine h_st rfl rfl ?_
  refine h_st rfl rfl ?_
  refine h_st rfl (e_put hm rfl (Nat.le_of_ble_eq_true rfl)) ?_
  refine h_st rfl rfl ?_
  refine h_st rfl (e_get (st_get hm) rfl) ?_
  refine h_st rfl rfl ?_
  refine h_pc (if_neg (by decide)) ?_
  exact h_rv rfl (⟨_, rfl, rfl, st_get hm⟩)
theorem r_97n (h : RF σ) {l s g m t f : Int32} (hn : ¬ okL l s g m t f) : hE ra (d + 1) 97 [.ref 176, .int l, .int s, .int g, .int m, .int t, .int f] σ (pV (fun σ' => σ'.1 = σ.1 ∧ σ'.2[176]? = some (.inr (8, rf_M 1 0 0)))) := by
  have hm := rf_o h
  refine h_in rfl rfl (Nat.le_of_ble_eq_true rfl) ?_
  refine h_st rfl rfl ?_
  refine h_st rfl rfl ?_
  refine h_st rfl rfl ?_
  refine h_st rfl rfl ?_
  refine h_st rfl rfl ?_
  refine h_st rfl rfl ?_
  refine h_br (fun q1 => ?_) (fun q1 => ?_)
  · exact r_97x hm
  · refine h_st rfl rfl ?_
    refine h_st rfl rfl ?_
    refine h_st rfl rfl ?_
    refine h_br (fun q2 => ?_) (fun q2 => ?_)
    · exact r_97x hm
    · refine h_st rfl rfl ?_
      refine h_st rfl rfl ?_
      refine h_br (fun q3 => ?_) (fun q3 => ?_)
      · exact r_97x hm
      · refine h_st rfl rfl ?_
        refine h_st rfl rfl ?_
        refine h_st rfl rfl ?_
        refine h_br (fun q4 => ?_) (fun q4 => ?_)
        · exact r_97x hm
        · refine h_st rfl rfl ?_
          refine h_st rfl rfl ?_
          refine h_st rfl rfl ?_
          refine h_br (fun q5 => ?_) (fun q5 => ?_)
          · exact r_97x hm
          · refine h_st rfl rfl ?_
            refine h_st rfl rfl ?_
            refine h_st rfl rfl ?_
            refine h_br (fun q6 => ?_) (fun q6 => ?_)
            · exact r_97x hm
            · refine h_st rfl rfl ?_
              refine h_st rfl rfl ?_
              refine h_st rfl rfl ?_
              refine h_br (fun q7 => ?_) (fun q7 => ?_)
              · exact r_97x hm
              · refine h_st rfl rfl ?_
                refine h_st rfl rfl ?_
                refine h_st rfl rfl ?_
                refine h_br (fun q8 => ?_) (fun q8 => ?_)
                · exact r_97x hm
                · refine h_st rfl rfl ?_
                  refine h_st rfl rfl ?_
                  refine h_st rfl rfl ?_
                  refine h_br (fun q9 => ?_) (fun q9 => ?_)
                  · exact r_97x hm
                  · refine h_st rfl rfl ?_
                    refine h_st rfl rfl ?_
                    refine h_st rfl rfl ?_
                    refine h_br (fun q10 => ?_) (fun q10 => ?_)
                    · exact r_97x hm
                    · refine h_st rfl rfl ?_
                      refine h_st rfl rfl ?_
                      refine h_st rfl rfl ?_
                      refine h_st rfl rfl ?_
                      refine h_st rfl rfl ?_
                      refine h_st rfl rfl ?_
                      refine h_br (fun q11 => ?_) (fun q11 => ?_)
                      · exact r_97x hm
                      · refine h_st rfl rfl ?_
                        refine h_st rfl rfl ?_
                        refine h_st rfl rfl ?_
                        refine h_br (fun q12 => ?_) (fun q12 => ?_)
                        · exact r_97x hm
                        · refine h_st rfl rfl ?_
                          refine h_st rfl rfl ?_
                          refine h_st rfl rfl ?_
                          refine h_pc (if_pos (decide_eq_true (Classical.byContradiction (fun z => hn ⟨q1, q2, q3, q4, q5, q6, q7, q8, ⟨fun z => q9 (i_01.mpr z), fun z => q10 (i_15.mpr z), q11⟩, q12, z⟩)))) ?_
                          exact r_97x hm
theorem r_97l {cc : Nat × Nat} {gn li : Nat} (hg : gn < 2 ^ 31) (hli : li < 8) {s m t f : Int32} {x8 : Option Value} {P : ae_S × ae_O → Prop} (hx : ∀ σ, RSh σ cc 0 0 0 → hG ra d 97 σ [some (.ref 176), some (.int (nI li)), some (.int s), some (.int (nI gn)), some (.int m), some (.int t), some (.int f), some (.int (f >>> ((2 : Int32) &&& 31))), x8, some (.int (nI gn))] [] 175 P) : ∀ (m' j : Nat) (σ : ae_S), j + m' = gn → RSh σ cc 0 0 0 → hG ra d 97 σ [some (.ref 176), some (.int (nI li)), some (.int s), some (.int (nI gn)), some (.int m), some (.int t), some (.int f), some (.int (f >>> ((2 : Int32) &&& 31))), x8, some (.int (nI j))] [] 153 P := by
  intro m'
  induction m' with
  | zero =>
    intro j σ hj h
    have hj : j = gn := by omega
    subst hj
    refine h_st rfl rfl ?_
    refine h_st rfl rfl ?_
    refine h_st rfl rfl ?_
    refine h_pc (if_pos (decide_eq_true (nI_le (Nat.le_refl _) hg))) ?_
    exact hx _ h
  | succ m' ih =>
    intro j σ hj h
    have ih1 := fun σ h1 => ih (j + 1) σ (by omega) h1
    simp only [← nI_1] at ih1
    have hin : ¬ (nI li < 0 ∨ 8 ≤ (nI li).toNatClampNeg) := nI_in hli (by decide)
    refine h_st rfl rfl ?_
    refine h_st rfl rfl ?_
    refine h_st rfl rfl ?_
    refine h_pc (if_neg (fun z9 => (nI_ge (show j < gn by omega) hg) (of_decide_eq_true z9))) ?_
    refine h_st rfl rfl ?_
    refine h_st rfl (e_get h.2.1 rfl) ?_
    refine h_st rfl rfl ?_
    refine h_st rfl rfl ?_
    refine s_ia rfl h (n := 8) (m := 8) (v := 0) (p := 181) (by simp [rf_A]) (hin) (fun x => ?_)
    refine h_st rfl rfl ?_
    refine h_st rfl rfl ?_
    refine s_ias rfl h (n := 8) (m := 8) (v := 0) (p := 181) (by simp [rf_A]) (hin) (fun σ2 f2 h2 ho hn => ?_)
    clear hn ho
    replace h := h2
    clear h2
    refine h_st rfl rfl ?_
    refine h_st rfl rfl ?_
    exact ih1 _ h
theorem r_97g (h : RF σ) {l s g m t f : Int32} (hy : okL l s g m t f) : hE ra (d + 1) 97 [.ref 176, .int l, .int s, .int g, .int m, .int t, .int f] σ (pV (fun σ' => σ'.1 = σ.1 ∧ σ'.2[176]? = some (.inr (8, rf_M 0 0 0)))) := by
  have hm := rf_o h
  obtain ⟨f177, a177, b177⟩ := rf_a h (p := 177) (t := 2) (n := 8) (m := 8) (v := 0) (by simp [rf_A])
  obtain ⟨y1, y2, y3, y4, y5, y6, y7, y8, ⟨y9, y10, y11⟩, y12, y13⟩ := hy
  obtain ⟨li, hli, rfl⟩ := i_ix (n := 8) (by decide) y1 y2
  obtain ⟨gn, hgn, rfl⟩ := i_ix (x := g) (n := 10) (by decide) (fun z => y5 (Int32.lt_of_lt_of_le z (by decide))) (fun z => y6 (Int32.lt_of_lt_of_le (by decide) z))
  have hin : ¬ (nI li < 0 ∨ 8 ≤ (nI li).toNatClampNeg) := nI_in hli (by decide)
  have hv : f177 (nI li).toNatClampNeg = 0 := by rw [nI_clamp (by omega)]; exact b177 li hli
  refine h_in rfl rfl (Nat.le_of_ble_eq_true rfl) ?_
  refine h_st rfl rfl ?_
  refine h_st rfl rfl ?_
  refine h_st rfl rfl ?_
  refine h_st rfl rfl ?_
  refine h_st rfl rfl ?_
  refine h_st rfl rfl ?_
  refine h_pc (if_neg (fun z9 => (y1) (of_decide_eq_true z9))) ?_
  refine h_st rfl rfl ?_
  refine h_st rfl rfl ?_
  refine h_st rfl rfl ?_
  refine h_pc (if_neg (fun z9 => (y2) (of_decide_eq_true z9))) ?_
  refine h_st rfl rfl ?_
  refine h_st rfl rfl ?_
  refine h_pc (if_neg (fun z9 => (y3) (of_decide_eq_true z9))) ?_
  refine h_st rfl rfl ?_
  refine h_st rfl rfl ?_
  refine h_st rfl rfl ?_
  refine h_pc (if_neg (fun z9 => (y4) (of_decide_eq_true z9))) ?_
  refine h_st rfl rfl ?_
  refine h_st rfl rfl ?_
  refine h_st rfl rfl ?_
  refine h_pc (if_neg (fun z9 => (y5) (of_decide_eq_true z9))) ?_
  refine h_st rfl rfl ?_
  refine h_st rfl rfl ?_
  refine h_st rfl rfl ?_
  refine h_pc (if_neg (fun z9 => (y6) (of_decide_eq_true z9))) ?_
  refine h_st rfl rfl ?_
  refine h_st rfl rfl ?_
  refine h_st rfl rfl ?_
  refine h_pc (if_neg (fun z9 => (y7) (of_decide_eq_true z9))) ?_
  refine h_st rfl rfl ?_
  refine h_st rfl rfl ?_
  refine h_st rfl rfl ?_
  refine h_pc (if_neg (fun z9 => (y8) (of_decide_eq_true z9))) ?_
  refine h_st rfl rfl ?_
  refine h_st rfl rfl ?_
  refine h_st rfl rfl ?_
  refine h_pc (if_neg (fun z9 => (fun z => y9 (i_01.mp z)) (of_decide_eq_true z9))) ?_
  refine h_st rfl rfl ?_
  refine h_st rfl rfl ?_
  refine h_st rfl rfl ?_
  refine h_pc (if_neg (fun z9 => (fun z => y10 (i_15.mp z)) (of_decide_eq_true z9))) ?_
  refine h_st rfl rfl ?_
  refine h_st rfl rfl ?_
  refine h_st rfl rfl ?_
  refine h_st rfl rfl ?_
  refine h_st rfl rfl ?_
  refine h_st rfl rfl ?_
  refine h_pc (if_neg (fun z9 => (y11) (of_decide_eq_true z9))) ?_
  refine h_st rfl rfl ?_
  refine h_st rfl rfl ?_
  refine h_st rfl rfl ?_
  refine h_pc (if_neg (fun z9 => (y12) (of_decide_eq_true z9))) ?_
  refine h_st rfl rfl ?_
  refine h_st rfl rfl ?_
  refine h_st rfl rfl ?_
  refine h_pc (if_neg (fun z9 => (y13) (of_decide_eq_true z9))) ?_
  refine h_st rfl rfl ?_
  refine h_st rfl rfl ?_
  refine h_st rfl rfl ?_
  refine h_st rfl rfl ?_
  refine h_st rfl rfl ?_
  refine h_st rfl rfl ?_
  refine h_pc (if_pos (by decide)) ?_
  refine h_st rfl rfl ?_
  refine h_st rfl (e_get hm rfl) ?_
  refine h_st rfl rfl ?_
  refine h_st rfl ((e_ba a177 (Or.inr rfl) hin).trans (by rw [hv])) ?_
  refine h_st rfl rfl ?_
  refine h_pc (if_pos (by decide)) ?_
  refine h_st rfl rfl ?_
  refine h_st rfl (e_putS hm rfl (Nat.le_of_ble_eq_true rfl) rfl) ?_
  refine h_st rfl rfl ?_
  refine h_st rfl (e_get hm rfl) ?_
  refine h_st rfl rfl ?_
  refine h_pc (if_pos (by decide)) ?_
  replace h := h.sh
  refine h_st rfl rfl ?_
  refine h_st rfl (e_get h.2.1 rfl) ?_
  refine h_st rfl rfl ?_
  refine h_st rfl rfl ?_
  refine s_bas rfl h (n := 8) (m := 8) (v := 0) (p := 177) (by simp [rf_A]) (hin) (fun σ2 f2 h2 ho hn => ?_)
  clear hn ho
  replace h := h2
  clear h2
  refine h_st rfl rfl ?_
  refine h_st rfl (e_get h.2.1 rfl) ?_
  refine h_st rfl rfl ?_
  refine h_st rfl rfl ?_
  refine s_ias rfl h (n := 8) (m := 8) (v := 0) (p := 180) (by simp [rf_A]) (hin) (fun σ2 f2 h2 ho hn => ?_)
  clear hn ho
  replace h := h2
  clear h2
  refine h_st rfl rfl ?_
  refine h_st rfl (e_get h.2.1 rfl) ?_
  refine h_st rfl rfl ?_
  refine h_st rfl rfl ?_
  refine s_ias rfl h (n := 8) (m := 8) (v := 0) (p := 181) (by simp [rf_A]) (hin) (fun σ2 f2 h2 ho hn => ?_)
  clear hn ho
  replace h := h2
  clear h2
  refine h_st rfl rfl ?_
  refine h_st rfl rfl ?_
  refine r_97l (by omega) hli (fun σ h => ?_) gn 0 _ (by omega) h
  have hin8 : ¬ ((8 : Int32) + nI li < 0 ∨ 16 ≤ ((8 : Int32) + nI li).toNatClampNeg) := by
    rw [show (8 : Int32) = nI 8 from rfl, nI_add]
    exact nI_in (by omega) (by decide)
  refine h_st rfl rfl ?_
  refine h_st rfl (e_get h.2.1 rfl) ?_
  refine h_st rfl rfl ?_
  refine h_st rfl rfl ?_
  refine s_ias rfl h (n := 8) (m := 8) (v := 0) (p := 182) (by simp [rf_A]) (hin) (fun σ2 f2 h2 ho hn => ?_)
  clear hn ho
  replace h := h2
  clear h2
  refine h_st rfl rfl ?_
  refine h_st rfl (e_get h.2.1 rfl) ?_
  refine h_st rfl rfl ?_
  refine h_st rfl rfl ?_
  refine s_ias rfl h (n := 8) (m := 8) (v := 0) (p := 183) (by simp [rf_A]) (hin) (fun σ2 f2 h2 ho hn => ?_)
  clear hn ho
  replace h := h2
  clear h2
  refine h_st rfl rfl ?_
  refine h_st rfl (e_get h.2.1 rfl) ?_
  refine h_st rfl rfl ?_
  refine h_st rfl rfl ?_
  refine s_ias rfl h (n := 8) (m := 8) (v := 0) (p := 184) (by simp [rf_A]) (hin) (fun σ2 f2 h2 ho hn => ?_)
  clear hn ho
  replace h := h2
  clear h2
  refine h_st rfl rfl ?_
  refine h_st rfl (e_get h.2.1 rfl) ?_
  refine h_st rfl rfl ?_
  refine h_st rfl rfl ?_
  refine h_st rfl rfl ?_
  refine h_st rfl (e_dv (by decide)) ?_
  refine h_st rfl rfl ?_
  refine h_br (fun z1 => ?_) (fun z1 => ?_)
  · refine h_st rfl rfl ?_
    refine s_bas rfl h (n := 8) (m := 8) (v := 0) (p := 178) (by simp [rf_A]) (hin) (fun σ2 f2 h2 ho hn => ?_)
    clear hn ho
    replace h := h2
    clear h2
    refine h_st rfl rfl ?_
    refine h_st rfl (e_get h.2.1 rfl) ?_
    refine h_st rfl rfl ?_
    refine h_st rfl rfl ?_
    refine h_st rfl rfl ?_
    refine h_st rfl (e_dv (by decide)) ?_
    refine h_st rfl rfl ?_
    refine h_st rfl (e_dv (by decide)) ?_
    refine h_st rfl rfl ?_
    refine h_br (fun z2 => ?_) (fun z2 => ?_)
    · refine h_st rfl rfl ?_
      refine s_bas rfl h (n := 8) (m := 8) (v := 0) (p := 179) (by simp [rf_A]) (hin) (fun σ2 f2 h2 ho hn => ?_)
      clear hn ho
      replace h := h2
      clear h2
      refine h_st rfl rfl ?_
      refine h_st rfl (e_get h.2.1 rfl) ?_
      refine h_st rfl rfl ?_
      refine h_st rfl rfl ?_
      refine h_st rfl (e_get h.2.1 rfl) ?_
      refine h_st rfl rfl ?_
      refine s_ia rfl h (n := 8) (m := 8) (v := 0) (p := 182) (by simp [rf_A]) (hin) (fun x => ?_)
      refine h_st rfl rfl ?_
      refine h_st rfl (e_get h.2.1 rfl) ?_
      refine h_st rfl rfl ?_
      refine s_ia rfl h (n := 8) (m := 8) (v := 0) (p := 181) (by simp [rf_A]) (hin) (fun x => ?_)
      refine h_st rfl rfl ?_
      refine h_st rfl rfl ?_
      refine h_st rfl rfl ?_
      refine s_ias rfl h (n := 16) (m := 16) (v := 0) (p := 188) (by simp [rf_A]) (nI_in (show li < 16 by omega) (by decide)) (fun σ2 f2 h2 ho hn => ?_)
      clear hn ho
      replace h := h2
      clear h2
      refine h_st rfl rfl ?_
      refine h_st rfl (e_get h.2.1 rfl) ?_
      refine h_st rfl rfl ?_
      refine h_st rfl rfl ?_
      refine h_st rfl rfl ?_
      refine h_st rfl rfl ?_
      refine h_st rfl (e_get h.2.1 rfl) ?_
      refine h_st rfl rfl ?_
      refine s_ia rfl h (n := 16) (m := 16) (v := 0) (p := 188) (by simp [rf_A]) (nI_in (show li < 16 by omega) (by decide)) (fun x => ?_)
      refine s_ias rfl h (n := 16) (m := 16) (v := 0) (p := 188) (by simp [rf_A]) (hin8) (fun σ2 f2 h2 ho hn => ?_)
      clear hn ho
      replace h := h2
      clear h2
      exact h_rv rfl (⟨_, rfl, h.1, h.2.1⟩)
    · refine h_st rfl rfl ?_
      refine h_st rfl rfl ?_
      refine s_bas rfl h (n := 8) (m := 8) (v := 0) (p := 179) (by simp [rf_A]) (hin) (fun σ2 f2 h2 ho hn => ?_)
      clear hn ho
      replace h := h2
      clear h2
      refine h_st rfl rfl ?_
      refine h_st rfl (e_get h.2.1 rfl) ?_
      refine h_st rfl rfl ?_
      refine h_st rfl rfl ?_
      refine h_st rfl (e_get h.2.1 rfl) ?_
      refine h_st rfl rfl ?_
      refine s_ia rfl h (n := 8) (m := 8) (v := 0) (p := 182) (by simp [rf_A]) (hin) (fun x => ?_)
      refine h_st rfl rfl ?_
      refine h_st rfl (e_get h.2.1 rfl) ?_
      refine h_st rfl rfl ?_
      refine s_ia rfl h (n := 8) (m := 8) (v := 0) (p := 181) (by simp [rf_A]) (hin) (fun x => ?_)
      refine h_st rfl rfl ?_
      refine h_st rfl rfl ?_
      refine h_st rfl rfl ?_
      refine s_ias rfl h (n := 16) (m := 16) (v := 0) (p := 188) (by simp [rf_A]) (nI_in (show li < 16 by omega) (by decide)) (fun σ2 f2 h2 ho hn => ?_)
      clear hn ho
      replace h := h2
      clear h2
      refine h_st rfl rfl ?_
      refine h_st rfl (e_get h.2.1 rfl) ?_
      refine h_st rfl rfl ?_
      refine h_st rfl rfl ?_
      refine h_st rfl rfl ?_
      refine h_st rfl rfl ?_
      refine h_st rfl (e_get h.2.1 rfl) ?_
      refine h_st rfl rfl ?_
      refine s_ia rfl h (n := 16) (m := 16) (v := 0) (p := 188) (by simp [rf_A]) (nI_in (show li < 16 by omega) (by decide)) (fun x => ?_)
      refine s_ias rfl h (n := 16) (m := 16) (v := 0) (p := 188) (by simp [rf_A]) (hin8) (fun σ2 f2 h2 ho hn => ?_)
      clear hn ho
      replace h := h2
      clear h2
      exact h_rv rfl (⟨_, rfl, h.1, h.2.1⟩)
  · refine h_st rfl rfl ?_
    refine h_st rfl rfl ?_
    refine s_bas rfl h (n := 8) (m := 8) (v := 0) (p := 178) (by simp [rf_A]) (hin) (fun σ2 f2 h2 ho hn => ?_)
    clear hn ho
    replace h := h2
    clear h2
    refine h_st rfl rfl ?_
    refine h_st rfl (e_get h.2.1 rfl) ?_
    refine h_st rfl rfl ?_
    refine h_st rfl rfl ?_
    refine h_st rfl rfl ?_
    refine h_st rfl (e_dv (by decide)) ?_
    refine h_st rfl rfl ?_
    refine h_st rfl (e_dv (by decide)) ?_
    refine h_st rfl rfl ?_
    refine h_br (fun z2 => ?_) (fun z2 => ?_)
    · refine h_st rfl rfl ?_
      refine s_bas rfl h (n := 8) (m := 8) (v := 0) (p := 179) (by simp [rf_A]) (hin) (fun σ2 f2 h2 ho hn => ?_)
      clear hn ho
      replace h := h2
      clear h2
      refine h_st rfl rfl ?_
      refine h_st rfl (e_get h.2.1 rfl) ?_
      refine h_st rfl rfl ?_
      refine h_st rfl rfl ?_
      refine h_st rfl (e_get h.2.1 rfl) ?_
      refine h_st rfl rfl ?_
      refine s_ia rfl h (n := 8) (m := 8) (v := 0) (p := 182) (by simp [rf_A]) (hin) (fun x => ?_)
      refine h_st rfl rfl ?_
      refine h_st rfl (e_get h.2.1 rfl) ?_
      refine h_st rfl rfl ?_
      refine s_ia rfl h (n := 8) (m := 8) (v := 0) (p := 181) (by simp [rf_A]) (hin) (fun x => ?_)
      refine h_st rfl rfl ?_
      refine h_st rfl rfl ?_
      refine h_st rfl rfl ?_
      refine s_ias rfl h (n := 16) (m := 16) (v := 0) (p := 188) (by simp [rf_A]) (nI_in (show li < 16 by omega) (by decide)) (fun σ2 f2 h2 ho hn => ?_)
      clear hn ho
      replace h := h2
      clear h2
      refine h_st rfl rfl ?_
      refine h_st rfl (e_get h.2.1 rfl) ?_
      refine h_st rfl rfl ?_
      refine h_st rfl rfl ?_
      refine h_st rfl rfl ?_
      refine h_st rfl rfl ?_
      refine h_st rfl (e_get h.2.1 rfl) ?_
      refine h_st rfl rfl ?_
      refine s_ia rfl h (n := 16) (m := 16) (v := 0) (p := 188) (by simp [rf_A]) (nI_in (show li < 16 by omega) (by decide)) (fun x => ?_)
      refine s_ias rfl h (n := 16) (m := 16) (v := 0) (p := 188) (by simp [rf_A]) (hin8) (fun σ2 f2 h2 ho hn => ?_)
      clear hn ho
      replace h := h2
      clear h2
      exact h_rv rfl (⟨_, rfl, h.1, h.2.1⟩)
    · refine h_st rfl rfl ?_
      refine h_st rfl rfl ?_
      refine s_bas rfl h (n := 8) (m := 8) (v := 0) (p := 179) (by simp [rf_A]) (hin) (fun σ2 f2 h2 ho hn => ?_)
      clear hn ho
      replace h := h2
      clear h2
      refine h_st rfl rfl ?_
      refine h_st rfl (e_get h.2.1 rfl) ?_
      refine h_st rfl rfl ?_
      refine h_st rfl rfl ?_
      refine h_st rfl (e_get h.2.1 rfl) ?_
      refine h_st rfl rfl ?_
      refine s_ia rfl h (n := 8) (m := 8) (v := 0) (p := 182) (by simp [rf_A]) (hin) (fun x => ?_)
      refine h_st rfl rfl ?_
      refine h_st rfl (e_get h.2.1 rfl) ?_
      refine h_st rfl rfl ?_
      refine s_ia rfl h (n := 8) (m := 8) (v := 0) (p := 181) (by simp [rf_A]) (hin) (fun x => ?_)
      refine h_st rfl rfl ?_
      refine h_st rfl rfl ?_
      refine h_st rfl rfl ?_
      refine s_ias rfl h (n := 16) (m := 16) (v := 0) (p := 188) (by simp [rf_A]) (nI_in (show li < 16 by omega) (by decide)) (fun σ2 f2 h2 ho hn => ?_)
      clear hn ho
      replace h := h2
      clear h2
      refine h_st rfl rfl ?_
      refine h_st rfl (e_get h.2.1 rfl) ?_
      refine h_st rfl rfl ?_
      refine h_st rfl rfl ?_
      refine h_st rfl rfl ?_
      refine h_st rfl rfl ?_
      refine h_st rfl (e_get h.2.1 rfl) ?_
      refine h_st rfl rfl ?_
      refine s_ia rfl h (n := 16) (m := 16) (v := 0) (p := 188) (by simp [rf_A]) (nI_in (show li < 16 by omega) (by decide)) (fun x => ?_)
      refine s_ias rfl h (n := 16) (m := 16) (v := 0) (p := 188) (by simp [rf_A]) (hin8) (fun σ2 f2 h2 ho hn => ?_)
      clear hn ho
      replace h := h2
      clear h2
      exact h_rv rfl (⟨_, rfl, h.1, h.2.1⟩)
end SP7
