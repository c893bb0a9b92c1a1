section LAW
variable {σ : ae_S} {xs : Nat → Int32}
def lwP : ae_S × ae_O → Prop := pI (fun σ x => x = 1 ∧ σ.1.1 ≤ 600002 ∧ σ.1.2 ≤ 7302232)
set_option maxRecDepth 8000 in
theorem lw_a0 {np : Nat} {L : ae_Ls} {k : List Value} : o_ia np (ra0 7 xs) σ L (.int 0 :: .retAddr 0 :: k) = some (σ, L, .int (xs 0) :: k, np) := e_ro (by decide) (show ¬ ((0 : Int32) < 0 ∨ 7 ≤ (0 : Int32).toNatClampNeg) from by decide)
set_option maxRecDepth 8000 in
theorem lw_a1 {np : Nat} {L : ae_Ls} {k : List Value} : o_ia np (ra0 7 xs) σ L (.int (0 + 1) :: .retAddr 0 :: k) = some (σ, L, .int (xs 1) :: k, np) := e_ro (by decide) (show ¬ ((0 : Int32) + 1 < 0 ∨ 7 ≤ ((0 : Int32) + 1).toNatClampNeg) from by decide)
set_option maxRecDepth 8000 in
theorem lw_a2 {np : Nat} {L : ae_Ls} {k : List Value} : o_ia np (ra0 7 xs) σ L (.int (0 + 2) :: .retAddr 0 :: k) = some (σ, L, .int (xs 2) :: k, np) := e_ro (by decide) (show ¬ ((0 : Int32) + 2 < 0 ∨ 7 ≤ ((0 : Int32) + 2).toNatClampNeg) from by decide)
set_option maxRecDepth 8000 in
theorem lw_a3 {np : Nat} {L : ae_Ls} {k : List Value} : o_ia np (ra0 7 xs) σ L (.int (0 + 3) :: .retAddr 0 :: k) = some (σ, L, .int (xs 3) :: k, np) := e_ro (by decide) (show ¬ ((0 : Int32) + 3 < 0 ∨ 7 ≤ ((0 : Int32) + 3).toNatClampNeg) from by decide)
set_option maxRecDepth 8000 in
theorem lw_a4 {np : Nat} {L : ae_Ls} {k : List Value} : o_ia np (ra0 7 xs) σ L (.int (0 + 4) :: .retAddr 0 :: k) = some (σ, L, .int (xs 4) :: k, np) := e_ro (by decide) (show ¬ ((0 : Int32) + 4 < 0 ∨ 7 ≤ ((0 : Int32) + 4).toNatClampNeg) from by decide)
set_option maxRecDepth 8000 in
theorem lw_a5 {np : Nat} {L : ae_Ls} {k : List Value} : o_ia np (ra0 7 xs) σ L (.int (0 + 5) :: .retAddr 0 :: k) = some (σ, L, .int (xs 5) :: k, np) := e_ro (by decide) (show ¬ ((0 : Int32) + 5 < 0 ∨ 7 ≤ ((0 : Int32) + 5).toNatClampNeg) from by decide)
set_option maxRecDepth 8000 in
theorem lw_a6 {np : Nat} {L : ae_Ls} {k : List Value} : o_ia np (ra0 7 xs) σ L (.int (0 + 6) :: .retAddr 0 :: k) = some (σ, L, .int (xs 6) :: k, np) := e_ro (by decide) (show ¬ ((0 : Int32) + 6 < 0 ∨ 7 ≤ ((0 : Int32) + 6).toNatClampNeg) from by decide)
set_option maxRecDepth 8000 in
theorem lw_x {x5 x6 : Option Value} (b1 : σ.1.1 ≤ 600002) (b2 : σ.1.2 ≤ 7302232) : hG (ra0 7 xs) 7 0 σ [some (.retAddr 0), some (.ref 0), some (.ref 176), some (.ref 215), some (.int 0), x5, x6] [] 801 lwP := by
  refine h_st rfl rfl ?_
  refine h_st rfl rfl ?_
  refine h_st rfl rfl ?_
  refine h_st rfl rfl ?_
  refine h_st rfl (e_lenR (by decide)) ?_
  refine h_st rfl rfl ?_
  refine h_st rfl rfl ?_
  refine h_st rfl rfl ?_
  refine h_pc (if_pos (decide_eq_true (show (Int32.ofNat 7 - 7 : Int32) < 0 + 7 from by decide))) ?_
  refine h_st rfl rfl ?_
  exact h_rt rfl rfl (⟨_, _, rfl, rfl, b1, b2⟩)
set_option maxRecDepth 8000 in
theorem lw_0g {x5 x6 : Option Value} (h : Fr σ) (hy : okL (xs 1) (xs 2) (xs 3) (xs 4) (xs 5) (xs 6)) : hG (ra0 7 xs) 7 0 σ [some (.retAddr 0), some (.ref 0), some (.ref 176), some (.ref 215), some (.int 0), x5, x6] [] 112 lwP := by
  have hR := fr_rf h
  obtain ⟨f1, f2, f3, f5, hc, hlen, h0, hk1, hf1, hk2, hf2, hk3, hf3, h4, hk5, hf5, h6⟩ := fr_cls h
  have hc1 : σ.1.1 = 216 := by rw [hc]
  have hc2 : σ.1.2 = 250236 := by rw [hc]
  refine h_st rfl rfl ?_
  refine h_st rfl rfl ?_
  refine h_st rfl rfl ?_
  refine h_st rfl rfl ?_
  refine h_st rfl rfl ?_
  refine h_st rfl (lw_a1) ?_
  refine h_st rfl rfl ?_
  refine h_st rfl rfl ?_
  refine h_st rfl rfl ?_
  refine h_st rfl rfl ?_
  refine h_st rfl (lw_a2) ?_
  refine h_st rfl rfl ?_
  refine h_st rfl rfl ?_
  refine h_st rfl rfl ?_
  refine h_st rfl rfl ?_
  refine h_st rfl (lw_a3) ?_
  refine h_st rfl rfl ?_
  refine h_st rfl rfl ?_
  refine h_st rfl rfl ?_
  refine h_st rfl rfl ?_
  refine h_st rfl (lw_a4) ?_
  refine h_st rfl rfl ?_
  refine h_st rfl rfl ?_
  refine h_st rfl rfl ?_
  refine h_st rfl rfl ?_
  refine h_st rfl (lw_a5) ?_
  refine h_st rfl rfl ?_
  refine h_st rfl rfl ?_
  refine h_st rfl rfl ?_
  refine h_st rfl rfl ?_
  refine h_st rfl (lw_a6) ?_
  refine h_ci7 rfl (Nat.le_of_ble_eq_true rfl) rfl rfl (c_79g h hy) (fun σ2 x hq => ?_)
  obtain ⟨rfl, s1, s2, s3⟩ := hq
  replace hR := hR.same s1
  refine h_st rfl rfl ?_
  refine h_st rfl rfl ?_
  refine h_st rfl rfl ?_
  refine h_st rfl rfl ?_
  refine h_st rfl rfl ?_
  refine h_st rfl rfl ?_
  refine h_st rfl (lw_a1) ?_
  refine h_st rfl rfl ?_
  refine h_st rfl rfl ?_
  refine h_st rfl rfl ?_
  refine h_st rfl rfl ?_
  refine h_st rfl (lw_a2) ?_
  refine h_st rfl rfl ?_
  refine h_st rfl rfl ?_
  refine h_st rfl rfl ?_
  refine h_st rfl rfl ?_
  refine h_st rfl (lw_a3) ?_
  refine h_st rfl rfl ?_
  refine h_st rfl rfl ?_
  refine h_st rfl rfl ?_
  refine h_st rfl rfl ?_
  refine h_st rfl (lw_a4) ?_
  refine h_st rfl rfl ?_
  refine h_st rfl rfl ?_
  refine h_st rfl rfl ?_
  refine h_st rfl rfl ?_
  refine h_st rfl (lw_a5) ?_
  refine h_st rfl rfl ?_
  refine h_st rfl rfl ?_
  refine h_st rfl rfl ?_
  refine h_st rfl rfl ?_
  refine h_st rfl (lw_a6) ?_
  refine h_cv7 rfl (Nat.le_of_ble_eq_true rfl) (e_rcv (rf_o hR)) rfl (r_97g hR hy) (fun σ3 hq => ?_)
  obtain ⟨u1, u2⟩ := hq
  refine h_st rfl rfl ?_
  refine h_ci1 rfl (Nat.le_of_ble_eq_true rfl) (e_rcv (u2)) rfl (r_96 u2) (fun σ4 x hq => ?_)
  obtain ⟨rfl, rfl⟩ := hq
  refine h_st rfl rfl ?_
  refine h_st rfl rfl ?_
  refine h_pc (if_pos (by decide)) ?_
  refine h_st rfl rfl ?_
  exact lw_x (by rw [u1]; omega) (by rw [u1]; omega)
set_option maxRecDepth 8000 in
theorem lw_0n {x5 x6 : Option Value} (h : Fr σ) (hy : ¬ okL (xs 1) (xs 2) (xs 3) (xs 4) (xs 5) (xs 6)) : hG (ra0 7 xs) 7 0 σ [some (.retAddr 0), some (.ref 0), some (.ref 176), some (.ref 215), some (.int 0), x5, x6] [] 112 lwP := by
  have hR := fr_rf h
  obtain ⟨f1, f2, f3, f5, hc, hlen, h0, hk1, hf1, hk2, hf2, hk3, hf3, h4, hk5, hf5, h6⟩ := fr_cls h
  have hc1 : σ.1.1 = 216 := by rw [hc]
  have hc2 : σ.1.2 = 250236 := by rw [hc]
  refine h_st rfl rfl ?_
  refine h_st rfl rfl ?_
  refine h_st rfl rfl ?_
  refine h_st rfl rfl ?_
  refine h_st rfl rfl ?_
  refine h_st rfl (lw_a1) ?_
  refine h_st rfl rfl ?_
  refine h_st rfl rfl ?_
  refine h_st rfl rfl ?_
  refine h_st rfl rfl ?_
  refine h_st rfl (lw_a2) ?_
  refine h_st rfl rfl ?_
  refine h_st rfl rfl ?_
  refine h_st rfl rfl ?_
  refine h_st rfl rfl ?_
  refine h_st rfl (lw_a3) ?_
  refine h_st rfl rfl ?_
  refine h_st rfl rfl ?_
  refine h_st rfl rfl ?_
  refine h_st rfl rfl ?_
  refine h_st rfl (lw_a4) ?_
  refine h_st rfl rfl ?_
  refine h_st rfl rfl ?_
  refine h_st rfl rfl ?_
  refine h_st rfl rfl ?_
  refine h_st rfl (lw_a5) ?_
  refine h_st rfl rfl ?_
  refine h_st rfl rfl ?_
  refine h_st rfl rfl ?_
  refine h_st rfl rfl ?_
  refine h_st rfl (lw_a6) ?_
  refine h_ci7 rfl (Nat.le_of_ble_eq_true rfl) rfl rfl (c_79n h hy) (fun σ2 x hq => ?_)
  obtain ⟨rfl, s2, s3⟩ := hq
  replace hR := hR.same (fun p _ _ => by rw [s3])
  have s4 := congrArg Prod.fst s2
  have s5 := congrArg Prod.snd s2
  simp only at s4 s5
  refine h_st rfl rfl ?_
  refine h_st rfl rfl ?_
  refine h_st rfl rfl ?_
  refine h_st rfl rfl ?_
  refine h_st rfl rfl ?_
  refine h_st rfl rfl ?_
  refine h_st rfl (lw_a1) ?_
  refine h_st rfl rfl ?_
  refine h_st rfl rfl ?_
  refine h_st rfl rfl ?_
  refine h_st rfl rfl ?_
  refine h_st rfl (lw_a2) ?_
  refine h_st rfl rfl ?_
  refine h_st rfl rfl ?_
  refine h_st rfl rfl ?_
  refine h_st rfl rfl ?_
  refine h_st rfl (lw_a3) ?_
  refine h_st rfl rfl ?_
  refine h_st rfl rfl ?_
  refine h_st rfl rfl ?_
  refine h_st rfl rfl ?_
  refine h_st rfl (lw_a4) ?_
  refine h_st rfl rfl ?_
  refine h_st rfl rfl ?_
  refine h_st rfl rfl ?_
  refine h_st rfl rfl ?_
  refine h_st rfl (lw_a5) ?_
  refine h_st rfl rfl ?_
  refine h_st rfl rfl ?_
  refine h_st rfl rfl ?_
  refine h_st rfl rfl ?_
  refine h_st rfl (lw_a6) ?_
  refine h_cv7 rfl (Nat.le_of_ble_eq_true rfl) (e_rcv (rf_o hR)) rfl (r_97n hR hy) (fun σ3 hq => ?_)
  obtain ⟨u1, u2⟩ := hq
  refine h_st rfl rfl ?_
  refine h_ci1 rfl (Nat.le_of_ble_eq_true rfl) (e_rcv (u2)) rfl (r_96 u2) (fun σ4 x hq => ?_)
  obtain ⟨rfl, rfl⟩ := hq
  refine h_st rfl rfl ?_
  refine h_st rfl rfl ?_
  refine h_pc (if_pos (by decide)) ?_
  refine h_st rfl rfl ?_
  exact lw_x (by rw [u1]; omega) (by rw [u1]; omega)
set_option maxRecDepth 8000 in
theorem lw_1 {x5 x6 : Option Value} (h : Fr σ) : hG (ra0 7 xs) 7 0 σ [some (.retAddr 0), some (.ref 0), some (.ref 176), some (.ref 215), some (.int 0), x5, x6] [] 210 lwP := by
  have hR := fr_rf h
  obtain ⟨f1, f2, f3, f5, hc, hlen, h0, hk1, hf1, hk2, hf2, hk3, hf3, h4, hk5, hf5, h6⟩ := fr_cls h
  have hc1 : σ.1.1 = 216 := by rw [hc]
  have hc2 : σ.1.2 = 250236 := by rw [hc]
  refine h_st rfl rfl ?_
  refine h_st rfl rfl ?_
  refine h_st rfl rfl ?_
  refine h_st rfl rfl ?_
  refine h_st rfl rfl ?_
  refine h_st rfl (lw_a1) ?_
  refine h_st rfl rfl ?_
  refine h_st rfl rfl ?_
  refine h_st rfl rfl ?_
  refine h_st rfl rfl ?_
  refine h_st rfl (lw_a2) ?_
  refine h_st rfl rfl ?_
  refine h_st rfl rfl ?_
  refine h_st rfl rfl ?_
  refine h_st rfl rfl ?_
  refine h_st rfl (lw_a3) ?_
  refine h_st rfl rfl ?_
  refine h_ci5 rfl (Nat.le_of_ble_eq_true rfl) rfl rfl (c_86 h (xs 1) (xs 2) (xs 3) 215) (fun σ2 x hq => ?_)
  obtain ⟨rfl, s2, s3⟩ := hq
  replace hR := hR.same (fun p _ _ => by rw [s3])
  have s4 := congrArg Prod.fst s2
  have s5 := congrArg Prod.snd s2
  simp only at s4 s5
  refine h_st rfl rfl ?_
  refine h_st rfl rfl ?_
  refine h_st rfl rfl ?_
  refine h_st rfl rfl ?_
  refine h_st rfl rfl ?_
  refine h_st rfl rfl ?_
  refine h_st rfl (lw_a1) ?_
  refine h_st rfl rfl ?_
  refine h_st rfl rfl ?_
  refine h_st rfl rfl ?_
  refine h_st rfl rfl ?_
  refine h_st rfl (lw_a2) ?_
  refine h_st rfl rfl ?_
  refine h_st rfl rfl ?_
  refine h_st rfl rfl ?_
  refine h_st rfl rfl ?_
  refine h_st rfl (lw_a3) ?_
  refine h_ci4 rfl (Nat.le_of_ble_eq_true rfl) (e_rcv (rf_o hR)) rfl (r_98 hR (xs 1) (xs 2) (xs 3)) (fun σ3 y hq => ?_)
  obtain ⟨u2, u1⟩ := hq
  refine h_st rfl rfl ?_
  refine h_st rfl rfl ?_
  refine h_ci1 rfl (Nat.le_of_ble_eq_true rfl) (e_rcv (u2)) rfl (r_96 u2) (fun σ4 x hq => ?_)
  obtain ⟨rfl, rfl⟩ := hq
  refine h_st rfl rfl ?_
  refine h_st rfl rfl ?_
  refine h_pc (if_pos (by decide)) ?_
  refine h_st rfl rfl ?_
  refine h_st rfl rfl ?_
  refine h_pc (if_pos (by decide)) ?_
  refine h_st rfl rfl ?_
  exact lw_x (by rw [u1]; omega) (by rw [u1]; omega)
set_option maxRecDepth 8000 in
theorem lw_3 {x5 x6 : Option Value} (h : Fr σ) : hG (ra0 7 xs) 7 0 σ [some (.retAddr 0), some (.ref 0), some (.ref 176), some (.ref 215), some (.int 0), x5, x6] [] 315 lwP := by
  have hR := fr_rf h
  obtain ⟨f1, f2, f3, f5, hc, hlen, h0, hk1, hf1, hk2, hf2, hk3, hf3, h4, hk5, hf5, h6⟩ := fr_cls h
  have hc1 : σ.1.1 = 216 := by rw [hc]
  have hc2 : σ.1.2 = 250236 := by rw [hc]
  refine h_st rfl rfl ?_
  refine h_st rfl rfl ?_
  refine h_st rfl rfl ?_
  refine h_st rfl rfl ?_
  refine h_st rfl rfl ?_
  refine h_st rfl (lw_a1) ?_
  refine h_st rfl rfl ?_
  refine h_st rfl rfl ?_
  refine h_st rfl rfl ?_
  refine h_st rfl rfl ?_
  refine h_st rfl (lw_a2) ?_
  refine h_st rfl rfl ?_
  refine h_ci4 rfl (Nat.le_of_ble_eq_true rfl) rfl rfl (c_91 h (xs 1) (xs 2) 215) (fun σ2 x hq => ?_)
  obtain ⟨rfl, s2, s3⟩ := hq
  replace hR := hR.same (fun p _ _ => by rw [s3])
  have s4 := congrArg Prod.fst s2
  have s5 := congrArg Prod.snd s2
  simp only at s4 s5
  refine h_st rfl rfl ?_
  refine h_st rfl rfl ?_
  refine h_st rfl rfl ?_
  refine h_st rfl rfl ?_
  refine h_st rfl rfl ?_
  refine h_st rfl rfl ?_
  refine h_st rfl (lw_a1) ?_
  refine h_st rfl rfl ?_
  refine h_st rfl rfl ?_
  refine h_st rfl rfl ?_
  refine h_st rfl rfl ?_
  refine h_st rfl (lw_a2) ?_
  refine h_ci3 rfl (Nat.le_of_ble_eq_true rfl) (e_rcv (rf_o hR)) rfl (r_130 hR (xs 1) (xs 2)) (fun σ3 y hq => ?_)
  obtain ⟨u2, u1⟩ := hq
  refine h_st rfl rfl ?_
  refine h_st rfl rfl ?_
  refine h_ci1 rfl (Nat.le_of_ble_eq_true rfl) (e_rcv (u2)) rfl (r_96 u2) (fun σ4 x hq => ?_)
  obtain ⟨rfl, rfl⟩ := hq
  refine h_st rfl rfl ?_
  refine h_st rfl rfl ?_
  refine h_pc (if_pos (by decide)) ?_
  refine h_st rfl rfl ?_
  refine h_st rfl rfl ?_
  refine h_pc (if_pos (by decide)) ?_
  refine h_st rfl rfl ?_
  exact lw_x (by rw [u1]; omega) (by rw [u1]; omega)
set_option maxRecDepth 8000 in
theorem lw_2 {x5 x6 : Option Value} (h : Fr σ) : hG (ra0 7 xs) 7 0 σ [some (.retAddr 0), some (.ref 0), some (.ref 176), some (.ref 215), some (.int 0), x5, x6] [] 290 lwP := by
  have hR := fr_rf h
  obtain ⟨f1, f2, f3, f5, hc, hlen, h0, hk1, hf1, hk2, hf2, hk3, hf3, h4, hk5, hf5, h6⟩ := fr_cls h
  have hc1 : σ.1.1 = 216 := by rw [hc]
  have hc2 : σ.1.2 = 250236 := by rw [hc]
  refine h_st rfl rfl ?_
  refine h_st rfl rfl ?_
  refine h_st rfl rfl ?_
  refine h_st rfl rfl ?_
  refine h_st rfl rfl ?_
  refine h_st rfl (lw_a1) ?_
  refine h_ci2 rfl (Nat.le_of_ble_eq_true rfl) (e_rcv (h0)) rfl (c_6 h (xs 1)) (fun σ2 x hq => ?_)
  obtain ⟨s1, s2, s3⟩ := hq
  replace hR := hR.same s2
  refine h_st rfl rfl ?_
  refine h_st rfl rfl ?_
  refine h_st rfl rfl ?_
  refine h_st rfl rfl ?_
  refine h_st rfl rfl ?_
  refine h_st rfl (lw_a1) ?_
  refine h_ci2 rfl (Nat.le_of_ble_eq_true rfl) (e_rcv (rf_o hR)) rfl (r_101 hR (xs 1)) (fun σ3 y hq => ?_)
  obtain ⟨u1, u2⟩ := hq
  refine h_st rfl rfl ?_
  refine h_pc (if_pos (decide_eq_true (s3.trans u2.symm))) ?_
  exact lw_x (by rw [u1, s1]; omega) (by rw [u1, s1]; omega)
set_option maxRecDepth 8000 in
theorem lw_4 {x5 x6 : Option Value} (h : Fr σ) : hG (ra0 7 xs) 7 0 σ [some (.retAddr 0), some (.ref 0), some (.ref 176), some (.ref 215), some (.int 0), x5, x6] [] 383 lwP := by
  have hR := fr_rf h
  obtain ⟨f1, f2, f3, f5, hc, hlen, h0, hk1, hf1, hk2, hf2, hk3, hf3, h4, hk5, hf5, h6⟩ := fr_cls h
  have hc1 : σ.1.1 = 216 := by rw [hc]
  have hc2 : σ.1.2 = 250236 := by rw [hc]
  refine h_st rfl rfl ?_
  refine h_st rfl rfl ?_
  refine h_st rfl rfl ?_
  refine h_st rfl rfl ?_
  refine h_st rfl rfl ?_
  refine h_st rfl (lw_a1) ?_
  refine h_ci2 rfl (Nat.le_of_ble_eq_true rfl) (e_rcv (h0)) rfl (c_63 h (xs 1)) (fun σ2 x hq => ?_)
  obtain ⟨rfl, rfl⟩ := hq
  refine h_st rfl rfl ?_
  refine h_st rfl rfl ?_
  refine h_st rfl rfl ?_
  refine h_st rfl rfl ?_
  refine h_st rfl rfl ?_
  refine h_st rfl (lw_a1) ?_
  refine h_ci2 rfl (Nat.le_of_ble_eq_true rfl) (e_rcv (rf_o hR)) rfl (r_131 hR (xs 1)) (fun σ3 y hq => ?_)
  obtain ⟨rfl, rfl⟩ := hq
  refine h_st rfl rfl ?_
  refine h_pc (if_pos (by decide)) ?_
  exact lw_x (by omega) (by omega)
set_option maxRecDepth 8000 in
theorem lw_5 {x5 x6 : Option Value} (h : Fr σ) : hG (ra0 7 xs) 7 0 σ [some (.retAddr 0), some (.ref 0), some (.ref 176), some (.ref 215), some (.int 0), x5, x6] [] 408 lwP := by
  have hR := fr_rf h
  obtain ⟨f1, f2, f3, f5, hc, hlen, h0, hk1, hf1, hk2, hf2, hk3, hf3, h4, hk5, hf5, h6⟩ := fr_cls h
  have hc1 : σ.1.1 = 216 := by rw [hc]
  have hc2 : σ.1.2 = 250236 := by rw [hc]
  refine h_st rfl rfl ?_
  refine h_st rfl rfl ?_
  refine h_st rfl rfl ?_
  refine h_st rfl rfl ?_
  refine h_st rfl rfl ?_
  refine h_st rfl (lw_a1) ?_
  refine h_st rfl rfl ?_
  refine h_st rfl rfl ?_
  refine h_st rfl rfl ?_
  refine h_st rfl rfl ?_
  refine h_st rfl (lw_a2) ?_
  refine h_ci3 rfl (Nat.le_of_ble_eq_true rfl) (e_rcv (h0)) rfl (c_64 h (xs 1) (xs 2)) (fun σ2 x hq => ?_)
  obtain ⟨rfl, rfl⟩ := hq
  refine h_st rfl rfl ?_
  refine h_st rfl rfl ?_
  refine h_st rfl rfl ?_
  refine h_st rfl rfl ?_
  refine h_st rfl rfl ?_
  refine h_st rfl (lw_a1) ?_
  refine h_st rfl rfl ?_
  refine h_st rfl rfl ?_
  refine h_st rfl rfl ?_
  refine h_st rfl rfl ?_
  refine h_st rfl (lw_a2) ?_
  refine h_ci3 rfl (Nat.le_of_ble_eq_true rfl) (e_rcv (rf_o hR)) rfl (r_132 hR (xs 1) (xs 2)) (fun σ3 y hq => ?_)
  obtain ⟨rfl, rfl⟩ := hq
  refine h_st rfl rfl ?_
  refine h_pc (if_pos (by decide)) ?_
  exact lw_x (by omega) (by omega)
set_option maxRecDepth 8000 in
theorem lw_8 {x5 x6 : Option Value} (h : Fr σ) : hG (ra0 7 xs) 7 0 σ [some (.retAddr 0), some (.ref 0), some (.ref 176), some (.ref 215), some (.int 0), x5, x6] [] 579 lwP := by
  have hR := fr_rf h
  obtain ⟨f1, f2, f3, f5, hc, hlen, h0, hk1, hf1, hk2, hf2, hk3, hf3, h4, hk5, hf5, h6⟩ := fr_cls h
  have hc1 : σ.1.1 = 216 := by rw [hc]
  have hc2 : σ.1.2 = 250236 := by rw [hc]
  refine h_st rfl rfl ?_
  refine h_st rfl rfl ?_
  refine h_st rfl rfl ?_
  refine h_st rfl rfl ?_
  refine h_st rfl rfl ?_
  refine h_st rfl (lw_a1) ?_
  refine h_st rfl rfl ?_
  refine h_st rfl rfl ?_
  refine h_st rfl rfl ?_
  refine h_st rfl rfl ?_
  refine h_st rfl (lw_a2) ?_
  refine h_st rfl rfl ?_
  refine h_st rfl rfl ?_
  refine h_st rfl rfl ?_
  refine h_st rfl rfl ?_
  refine h_st rfl (lw_a3) ?_
  refine h_ci4 rfl (Nat.le_of_ble_eq_true rfl) (e_rcv (h0)) rfl (c_70 h (xs 1) (xs 2) (xs 3)) (fun σ2 x hq => ?_)
  obtain ⟨rfl, rfl⟩ := hq
  refine h_st rfl rfl ?_
  refine h_st rfl rfl ?_
  refine h_st rfl rfl ?_
  refine h_st rfl rfl ?_
  refine h_st rfl rfl ?_
  refine h_st rfl (lw_a1) ?_
  refine h_st rfl rfl ?_
  refine h_st rfl rfl ?_
  refine h_st rfl rfl ?_
  refine h_st rfl rfl ?_
  refine h_st rfl (lw_a2) ?_
  refine h_st rfl rfl ?_
  refine h_st rfl rfl ?_
  refine h_st rfl rfl ?_
  refine h_st rfl rfl ?_
  refine h_st rfl (lw_a3) ?_
  refine h_ci4 rfl (Nat.le_of_ble_eq_true rfl) (e_rcv (rf_o hR)) rfl (r_136 hR (xs 1) (xs 2) (xs 3)) (fun σ3 y hq => ?_)
  obtain ⟨rfl, rfl⟩ := hq
  refine h_st rfl rfl ?_
  refine h_pc (if_pos (by decide)) ?_
  exact lw_x (by omega) (by omega)
set_option maxRecDepth 8000 in
theorem lw_10 {x5 x6 : Option Value} (h : Fr σ) : hG (ra0 7 xs) 7 0 σ [some (.retAddr 0), some (.ref 0), some (.ref 176), some (.ref 215), some (.int 0), x5, x6] [] 677 lwP := by
  have hR := fr_rf h
  obtain ⟨f1, f2, f3, f5, hc, hlen, h0, hk1, hf1, hk2, hf2, hk3, hf3, h4, hk5, hf5, h6⟩ := fr_cls h
  have hc1 : σ.1.1 = 216 := by rw [hc]
  have hc2 : σ.1.2 = 250236 := by rw [hc]
  refine h_st rfl rfl ?_
  refine h_st rfl rfl ?_
  refine h_st rfl rfl ?_
  refine h_st rfl rfl ?_
  refine h_st rfl rfl ?_
  refine h_st rfl (lw_a1) ?_
  refine h_ci2 rfl (Nat.le_of_ble_eq_true rfl) (e_rcv (h0)) rfl (c_72 h (xs 1)) (fun σ2 x hq => ?_)
  obtain ⟨rfl, rfl⟩ := hq
  refine h_st rfl rfl ?_
  refine h_st rfl rfl ?_
  refine h_st rfl rfl ?_
  refine h_st rfl rfl ?_
  refine h_st rfl rfl ?_
  refine h_st rfl (lw_a1) ?_
  refine h_ci2 rfl (Nat.le_of_ble_eq_true rfl) (e_rcv (rf_o hR)) rfl (r_138 hR (xs 1)) (fun σ3 y hq => ?_)
  obtain ⟨rfl, rfl⟩ := hq
  refine h_st rfl rfl ?_
  refine h_pc (if_pos (by decide)) ?_
  exact lw_x (by omega) (by omega)
set_option maxRecDepth 8000 in
theorem lw_11 {x5 x6 : Option Value} (h : Fr σ) : hG (ra0 7 xs) 7 0 σ [some (.retAddr 0), some (.ref 0), some (.ref 176), some (.ref 215), some (.int 0), x5, x6] [] 702 lwP := by
  have hR := fr_rf h
  obtain ⟨f1, f2, f3, f5, hc, hlen, h0, hk1, hf1, hk2, hf2, hk3, hf3, h4, hk5, hf5, h6⟩ := fr_cls h
  have hc1 : σ.1.1 = 216 := by rw [hc]
  have hc2 : σ.1.2 = 250236 := by rw [hc]
  refine h_st rfl rfl ?_
  refine h_st rfl rfl ?_
  refine h_st rfl rfl ?_
  refine h_st rfl rfl ?_
  refine h_st rfl rfl ?_
  refine h_st rfl (lw_a1) ?_
  refine h_st rfl rfl ?_
  refine h_st rfl rfl ?_
  refine h_st rfl rfl ?_
  refine h_st rfl rfl ?_
  refine h_st rfl (lw_a2) ?_
  refine h_ci3 rfl (Nat.le_of_ble_eq_true rfl) (e_rcv (h0)) rfl (c_73 h (xs 1) (xs 2)) (fun σ2 x hq => ?_)
  obtain ⟨rfl, rfl⟩ := hq
  refine h_st rfl rfl ?_
  refine h_st rfl rfl ?_
  refine h_st rfl rfl ?_
  refine h_st rfl rfl ?_
  refine h_st rfl rfl ?_
  refine h_st rfl (lw_a1) ?_
  refine h_st rfl rfl ?_
  refine h_st rfl rfl ?_
  refine h_st rfl rfl ?_
  refine h_st rfl rfl ?_
  refine h_st rfl (lw_a2) ?_
  refine h_ci3 rfl (Nat.le_of_ble_eq_true rfl) (e_rcv (rf_o hR)) rfl (r_139 hR (xs 1) (xs 2)) (fun σ3 y hq => ?_)
  obtain ⟨rfl, rfl⟩ := hq
  refine h_st rfl rfl ?_
  refine h_pc (if_pos (by decide)) ?_
  exact lw_x (by omega) (by omega)
set_option maxRecDepth 8000 in
theorem lw_13 {x5 x6 : Option Value} (h : Fr σ) : hG (ra0 7 xs) 7 0 σ [some (.retAddr 0), some (.ref 0), some (.ref 176), some (.ref 215), some (.int 0), x5, x6] [] 764 lwP := by
  have hR := fr_rf h
  obtain ⟨f1, f2, f3, f5, hc, hlen, h0, hk1, hf1, hk2, hf2, hk3, hf3, h4, hk5, hf5, h6⟩ := fr_cls h
  have hc1 : σ.1.1 = 216 := by rw [hc]
  have hc2 : σ.1.2 = 250236 := by rw [hc]
  refine h_st rfl rfl ?_
  refine h_st rfl rfl ?_
  refine h_st rfl rfl ?_
  refine h_st rfl rfl ?_
  refine h_st rfl rfl ?_
  refine h_st rfl (lw_a1) ?_
  refine h_st rfl rfl ?_
  refine h_st rfl rfl ?_
  refine h_st rfl rfl ?_
  refine h_st rfl rfl ?_
  refine h_st rfl (lw_a2) ?_
  refine h_ci3 rfl (Nat.le_of_ble_eq_true rfl) (e_rcv (h0)) rfl (c_75 h (xs 1) (xs 2)) (fun σ2 x hq => ?_)
  obtain ⟨rfl, rfl⟩ := hq
  refine h_st rfl rfl ?_
  refine h_st rfl rfl ?_
  refine h_st rfl rfl ?_
  refine h_st rfl rfl ?_
  refine h_st rfl rfl ?_
  refine h_st rfl (lw_a1) ?_
  refine h_st rfl rfl ?_
  refine h_st rfl rfl ?_
  refine h_st rfl rfl ?_
  refine h_st rfl rfl ?_
  refine h_st rfl (lw_a2) ?_
  refine h_ci3 rfl (Nat.le_of_ble_eq_true rfl) (e_rcv (rf_o hR)) rfl (r_141 hR (xs 1) (xs 2)) (fun σ3 y hq => ?_)
  obtain ⟨rfl, rfl⟩ := hq
  refine h_st rfl rfl ?_
  refine h_pc (if_pos (by decide)) ?_
  exact lw_x (by omega) (by omega)
theorem b_5 {x y a b : Int32} {A B : Prop} (hAB : A ↔ B) (h : (x = a ∧ ¬ A) ∨ (x = b ∧ A)) (h2 : (y = a ∧ ¬ B) ∨ (y = b ∧ B)) : x = y := by
  rcases h with ⟨e1, q1⟩ | ⟨e1, q1⟩ <;> rcases h2 with ⟨e2, q2⟩ | ⟨e2, q2⟩
  · rw [e1, e2]
  · exact absurd (hAB.mpr q2) q1
  · exact absurd (hAB.mp q1) q2
  · rw [e1, e2]
theorem b_6 {x y a b : Int32} {A : Prop} (h : (x = a ∧ A) ∨ (x = b ∧ ¬ A)) (h2 : (y = a ∧ A) ∨ (y = b ∧ ¬ A)) : x = y := by
  rcases h with ⟨e1, q1⟩ | ⟨e1, q1⟩ <;> rcases h2 with ⟨e2, q2⟩ | ⟨e2, q2⟩
  · rw [e1, e2]
  · exact absurd q1 q2
  · exact absurd q2 q1
  · rw [e1, e2]
theorem b_7 {x y a b : Int32} {A : Prop} (h : (A ∧ x = a) ∨ (¬ A ∧ x = b)) (h2 : (A ∧ y = a) ∨ (¬ A ∧ y = b)) : x = y := b_6 (h.imp And.symm And.symm) (h2.imp And.symm And.symm)
set_option maxRecDepth 8000 in
theorem lw_9 {x5 x6 : Option Value} (h : Fr σ) : hG (ra0 7 xs) 7 0 σ [some (.retAddr 0), some (.ref 0), some (.ref 176), some (.ref 215), some (.int 0), x5, x6] [] 628 lwP := by
  have hR := fr_rf h
  obtain ⟨f1, f2, f3, f5, hc, hlen, h0, hk1, hf1, hk2, hf2, hk3, hf3, h4, hk5, hf5, h6⟩ := fr_cls h
  have hc1 : σ.1.1 = 216 := by rw [hc]
  have hc2 : σ.1.2 = 250236 := by rw [hc]
  refine h_st rfl rfl ?_
  refine h_st rfl rfl ?_
  refine h_st rfl rfl ?_
  refine h_st rfl rfl ?_
  refine h_st rfl rfl ?_
  refine h_st rfl (lw_a1) ?_
  refine h_st rfl rfl ?_
  refine h_st rfl rfl ?_
  refine h_st rfl rfl ?_
  refine h_st rfl rfl ?_
  refine h_st rfl (lw_a2) ?_
  refine h_st rfl rfl ?_
  refine h_st rfl rfl ?_
  refine h_st rfl rfl ?_
  refine h_st rfl rfl ?_
  refine h_st rfl (lw_a3) ?_
  refine h_ci4 rfl (Nat.le_of_ble_eq_true rfl) (e_rcv (h0)) rfl (c_71 h (xs 1) (xs 2) (xs 3)) (fun σ2 x hq => ?_)
  obtain ⟨rfl, s1⟩ := hq
  refine h_st rfl rfl ?_
  refine h_st rfl rfl ?_
  refine h_st rfl rfl ?_
  refine h_st rfl rfl ?_
  refine h_st rfl rfl ?_
  refine h_st rfl (lw_a1) ?_
  refine h_st rfl rfl ?_
  refine h_st rfl rfl ?_
  refine h_st rfl rfl ?_
  refine h_st rfl rfl ?_
  refine h_st rfl (lw_a2) ?_
  refine h_st rfl rfl ?_
  refine h_st rfl rfl ?_
  refine h_st rfl rfl ?_
  refine h_st rfl rfl ?_
  refine h_st rfl (lw_a3) ?_
  refine h_ci4 rfl (Nat.le_of_ble_eq_true rfl) (e_rcv (rf_o hR)) rfl (r_137 hR (xs 1) (xs 2) (xs 3)) (fun σ3 y hq => ?_)
  obtain ⟨rfl, u1⟩ := hq
  refine h_st rfl rfl ?_
  refine h_pc (if_pos (decide_eq_true (b_5 Iff.rfl s1 u1))) ?_
  exact lw_x (by omega) (by omega)
set_option maxRecDepth 8000 in
theorem lw_12 {x5 x6 : Option Value} (h : Fr σ) : hG (ra0 7 xs) 7 0 σ [some (.retAddr 0), some (.ref 0), some (.ref 176), some (.ref 215), some (.int 0), x5, x6] [] 739 lwP := by
  have hR := fr_rf h
  obtain ⟨f1, f2, f3, f5, hc, hlen, h0, hk1, hf1, hk2, hf2, hk3, hf3, h4, hk5, hf5, h6⟩ := fr_cls h
  have hc1 : σ.1.1 = 216 := by rw [hc]
  have hc2 : σ.1.2 = 250236 := by rw [hc]
  refine h_st rfl rfl ?_
  refine h_st rfl rfl ?_
  refine h_st rfl rfl ?_
  refine h_st rfl rfl ?_
  refine h_st rfl rfl ?_
  refine h_st rfl (lw_a1) ?_
  refine h_ci2 rfl (Nat.le_of_ble_eq_true rfl) (e_rcv (h0)) rfl (c_74 h (xs 1)) (fun σ2 x hq => ?_)
  obtain ⟨rfl, s1⟩ := hq
  refine h_st rfl rfl ?_
  refine h_st rfl rfl ?_
  refine h_st rfl rfl ?_
  refine h_st rfl rfl ?_
  refine h_st rfl rfl ?_
  refine h_st rfl (lw_a1) ?_
  refine h_ci2 rfl (Nat.le_of_ble_eq_true rfl) (e_rcv (rf_o hR)) rfl (r_140 hR (xs 1)) (fun σ3 y hq => ?_)
  obtain ⟨rfl, u1⟩ := hq
  refine h_st rfl rfl ?_
  refine h_pc (if_pos (decide_eq_true (b_5 (and_congr_right (fun _ => le11.symm)) s1 u1))) ?_
  exact lw_x (by omega) (by omega)
set_option maxRecDepth 8000 in
theorem lw_6 {x5 x6 : Option Value} (h : Fr σ) : hG (ra0 7 xs) 7 0 σ [some (.retAddr 0), some (.ref 0), some (.ref 176), some (.ref 215), some (.int 0), x5, x6] [] 445 lwP := by
  have hR := fr_rf h
  obtain ⟨f1, f2, f3, f5, hc, hlen, h0, hk1, hf1, hk2, hf2, hk3, hf3, h4, hk5, hf5, h6⟩ := fr_cls h
  have hc1 : σ.1.1 = 216 := by rw [hc]
  have hc2 : σ.1.2 = 250236 := by rw [hc]
  refine h_st rfl rfl ?_
  refine h_st rfl rfl ?_
  refine h_st rfl rfl ?_
  refine h_st rfl rfl ?_
  refine h_st rfl rfl ?_
  refine h_st rfl (lw_a1) ?_
  refine h_st rfl rfl ?_
  refine h_st rfl rfl ?_
  refine h_st rfl rfl ?_
  refine h_st rfl rfl ?_
  refine h_st rfl (lw_a2) ?_
  refine h_st rfl rfl ?_
  refine h_st rfl rfl ?_
  refine h_st rfl rfl ?_
  refine h_st rfl rfl ?_
  refine h_st rfl (lw_a3) ?_
  refine h_st rfl rfl ?_
  refine h_st rfl rfl ?_
  refine h_st rfl rfl ?_
  refine h_st rfl rfl ?_
  refine h_st rfl (lw_a4) ?_
  refine h_ci5 rfl (Nat.le_of_ble_eq_true rfl) (e_rcv (h0)) rfl (c_67 h (xs 1) (xs 2) (xs 3) (xs 4)) (fun σ2 x hq => ?_)
  obtain ⟨s1, s2, s3⟩ := hq
  replace hR := hR.same s2
  refine h_st rfl rfl ?_
  refine h_st rfl rfl ?_
  refine h_st rfl rfl ?_
  refine h_st rfl rfl ?_
  refine h_st rfl rfl ?_
  refine h_st rfl (lw_a1) ?_
  refine h_st rfl rfl ?_
  refine h_st rfl rfl ?_
  refine h_st rfl rfl ?_
  refine h_st rfl rfl ?_
  refine h_st rfl (lw_a2) ?_
  refine h_st rfl rfl ?_
  refine h_st rfl rfl ?_
  refine h_st rfl rfl ?_
  refine h_st rfl rfl ?_
  refine h_st rfl (lw_a3) ?_
  refine h_st rfl rfl ?_
  refine h_st rfl rfl ?_
  refine h_st rfl rfl ?_
  refine h_st rfl rfl ?_
  refine h_st rfl (lw_a4) ?_
  refine h_ci5 rfl (Nat.le_of_ble_eq_true rfl) (e_rcv (rf_o hR)) rfl (r_133 hR (xs 1) (xs 2) (xs 3) (xs 4)) (fun σ3 y hq => ?_)
  obtain ⟨u1, u2⟩ := hq
  refine h_st rfl rfl ?_
  refine h_pc (if_pos (decide_eq_true (b_6 s3 u2))) ?_
  exact lw_x (by rw [u1, s1]; omega) (by rw [u1, s1]; omega)
set_option maxRecDepth 8000 in
theorem lw_7 {x5 x6 : Option Value} (h : Fr σ) : hG (ra0 7 xs) 7 0 σ [some (.retAddr 0), some (.ref 0), some (.ref 176), some (.ref 215), some (.int 0), x5, x6] [] 506 lwP := by
  have hR := fr_rf h
  obtain ⟨f1, f2, f3, f5, hc, hlen, h0, hk1, hf1, hk2, hf2, hk3, hf3, h4, hk5, hf5, h6⟩ := fr_cls h
  have hc1 : σ.1.1 = 216 := by rw [hc]
  have hc2 : σ.1.2 = 250236 := by rw [hc]
  refine h_st rfl rfl ?_
  refine h_st rfl rfl ?_
  refine h_st rfl rfl ?_
  refine h_st rfl rfl ?_
  refine h_st rfl rfl ?_
  refine h_st rfl (lw_a1) ?_
  refine h_st rfl rfl ?_
  refine h_st rfl rfl ?_
  refine h_st rfl rfl ?_
  refine h_st rfl rfl ?_
  refine h_st rfl (lw_a2) ?_
  refine h_st rfl rfl ?_
  refine h_st rfl rfl ?_
  refine h_st rfl rfl ?_
  refine h_st rfl rfl ?_
  refine h_st rfl (lw_a3) ?_
  refine h_st rfl rfl ?_
  refine h_st rfl rfl ?_
  refine h_st rfl rfl ?_
  refine h_st rfl rfl ?_
  refine h_st rfl (lw_a4) ?_
  refine h_st rfl rfl ?_
  refine h_st rfl rfl ?_
  refine h_st rfl rfl ?_
  refine h_st rfl rfl ?_
  refine h_st rfl (lw_a5) ?_
  refine h_ci6 rfl (Nat.le_of_ble_eq_true rfl) (e_rcv (h0)) rfl (c_69 rfl h (xs 1) (xs 2) (xs 3) (xs 4) (xs 5)) (fun σ2 x hq => ?_)
  obtain ⟨s1, s2, s3, s4⟩ := hq
  replace hR := hR.same s1
  refine h_st rfl rfl ?_
  refine h_st rfl rfl ?_
  refine h_st rfl rfl ?_
  refine h_st rfl rfl ?_
  refine h_st rfl rfl ?_
  refine h_st rfl (lw_a1) ?_
  refine h_st rfl rfl ?_
  refine h_st rfl rfl ?_
  refine h_st rfl rfl ?_
  refine h_st rfl rfl ?_
  refine h_st rfl (lw_a2) ?_
  refine h_st rfl rfl ?_
  refine h_st rfl rfl ?_
  refine h_st rfl rfl ?_
  refine h_st rfl rfl ?_
  refine h_st rfl (lw_a3) ?_
  refine h_st rfl rfl ?_
  refine h_st rfl rfl ?_
  refine h_st rfl rfl ?_
  refine h_st rfl rfl ?_
  refine h_st rfl (lw_a4) ?_
  refine h_st rfl rfl ?_
  refine h_st rfl rfl ?_
  refine h_st rfl rfl ?_
  refine h_st rfl rfl ?_
  refine h_st rfl (lw_a5) ?_
  refine h_ci6 rfl (Nat.le_of_ble_eq_true rfl) (e_rcv (rf_o hR)) rfl (r_135 hR (xs 1) (xs 2) (xs 3) (xs 4) (xs 5)) (fun σ3 y hq => ?_)
  obtain ⟨u1, u2⟩ := hq
  refine h_st rfl rfl ?_
  refine h_pc (if_pos (decide_eq_true (b_7 s4 u2))) ?_
  exact lw_x (by rw [u1]; omega) (by rw [u1]; omega)
set_option maxRecDepth 8000 in
theorem lw_m7 {x5 x6 : Option Value} (h : Fr σ) : hG (ra0 7 xs) 7 0 σ [some (.retAddr 0), some (.ref 0), some (.ref 176), some (.ref 215), some (.int 0), x5, x6] [] 23 lwP := by
  have hc : σ.1 = (216, 250236) := by
    obtain ⟨f1, f2, f3, f5, hc, _⟩ := fr_cls h
    exact hc
  obtain ⟨j, hj, e⟩ := pk_andE (xs 0) (m := 15) 4 (by decide)
  refine h_st rfl rfl ?_
  refine h_st rfl rfl ?_
  refine h_st rfl (e_lenR (by decide)) ?_
  refine h_st rfl rfl ?_
  refine h_st rfl rfl ?_
  refine h_st rfl rfl ?_
  refine h_pc (if_neg (fun z9 => (show ¬ (Int32.ofNat 7 - 7 : Int32) < 0 from by decide) (of_decide_eq_true z9))) ?_
  refine h_st rfl rfl ?_
  refine h_st rfl rfl ?_
  refine h_st rfl (lw_a0) ?_
  refine h_st rfl rfl ?_
  refine h_st rfl rfl ?_
  refine h_st rfl rfl ?_
  have hj : j = 0 ∨ j = 1 ∨ j = 2 ∨ j = 3 ∨ j = 4 ∨ j = 5 ∨ j = 6 ∨ j = 7 ∨ j = 8 ∨ j = 9 ∨ j = 10 ∨ j = 11 ∨ j = 12 ∨ j = 13 ∨ j = 14 ∨ j = 15 := by omega
  rcases hj with rfl | rfl | rfl | rfl | rfl | rfl | rfl | rfl | rfl | rfl | rfl | rfl | rfl | rfl | rfl | rfl
  · refine h_pc (?_ : _ = 112) ?_
    · show (if (xs 0 &&& 15).toInt < (0 : Int) ∨ (13 : Int) < (xs 0 &&& 15).toInt then 801 else ([112, 210, 290, 315, 383, 408, 445, 506, 579, 628, 677, 702, 739, 764] : List Nat).getD ((xs 0 &&& 15).toInt - 0).toNat 0) = 112
      rw [e]
      decide
    · by_cases hy : okL (xs 1) (xs 2) (xs 3) (xs 4) (xs 5) (xs 6)
      · exact lw_0g h hy
      · exact lw_0n h hy
  · refine h_pc (?_ : _ = 210) ?_
    · show (if (xs 0 &&& 15).toInt < (0 : Int) ∨ (13 : Int) < (xs 0 &&& 15).toInt then 801 else ([112, 210, 290, 315, 383, 408, 445, 506, 579, 628, 677, 702, 739, 764] : List Nat).getD ((xs 0 &&& 15).toInt - 0).toNat 0) = 210
      rw [e]
      decide
    · exact lw_1 h
  · refine h_pc (?_ : _ = 290) ?_
    · show (if (xs 0 &&& 15).toInt < (0 : Int) ∨ (13 : Int) < (xs 0 &&& 15).toInt then 801 else ([112, 210, 290, 315, 383, 408, 445, 506, 579, 628, 677, 702, 739, 764] : List Nat).getD ((xs 0 &&& 15).toInt - 0).toNat 0) = 290
      rw [e]
      decide
    · exact lw_2 h
  · refine h_pc (?_ : _ = 315) ?_
    · show (if (xs 0 &&& 15).toInt < (0 : Int) ∨ (13 : Int) < (xs 0 &&& 15).toInt then 801 else ([112, 210, 290, 315, 383, 408, 445, 506, 579, 628, 677, 702, 739, 764] : List Nat).getD ((xs 0 &&& 15).toInt - 0).toNat 0) = 315
      rw [e]
      decide
    · exact lw_3 h
  · refine h_pc (?_ : _ = 383) ?_
    · show (if (xs 0 &&& 15).toInt < (0 : Int) ∨ (13 : Int) < (xs 0 &&& 15).toInt then 801 else ([112, 210, 290, 315, 383, 408, 445, 506, 579, 628, 677, 702, 739, 764] : List Nat).getD ((xs 0 &&& 15).toInt - 0).toNat 0) = 383
      rw [e]
      decide
    · exact lw_4 h
  · refine h_pc (?_ : _ = 408) ?_
    · show (if (xs 0 &&& 15).toInt < (0 : Int) ∨ (13 : Int) < (xs 0 &&& 15).toInt then 801 else ([112, 210, 290, 315, 383, 408, 445, 506, 579, 628, 677, 702, 739, 764] : List Nat).getD ((xs 0 &&& 15).toInt - 0).toNat 0) = 408
      rw [e]
      decide
    · exact lw_5 h
  · refine h_pc (?_ : _ = 445) ?_
    · show (if (xs 0 &&& 15).toInt < (0 : Int) ∨ (13 : Int) < (xs 0 &&& 15).toInt then 801 else ([112, 210, 290, 315, 383, 408, 445, 506, 579, 628, 677, 702, 739, 764] : List Nat).getD ((xs 0 &&& 15).toInt - 0).toNat 0) = 445
      rw [e]
      decide
    · exact lw_6 h
  · refine h_pc (?_ : _ = 506) ?_
    · show (if (xs 0 &&& 15).toInt < (0 : Int) ∨ (13 : Int) < (xs 0 &&& 15).toInt then 801 else ([112, 210, 290, 315, 383, 408, 445, 506, 579, 628, 677, 702, 739, 764] : List Nat).getD ((xs 0 &&& 15).toInt - 0).toNat 0) = 506
      rw [e]
      decide
    · exact lw_7 h
  · refine h_pc (?_ : _ = 579) ?_
    · show (if (xs 0 &&& 15).toInt < (0 : Int) ∨ (13 : Int) < (xs 0 &&& 15).toInt then 801 else ([112, 210, 290, 315, 383, 408, 445, 506, 579, 628, 677, 702, 739, 764] : List Nat).getD ((xs 0 &&& 15).toInt - 0).toNat 0) = 579
      rw [e]
      decide
    · exact lw_8 h
  · refine h_pc (?_ : _ = 628) ?_
    · show (if (xs 0 &&& 15).toInt < (0 : Int) ∨ (13 : Int) < (xs 0 &&& 15).toInt then 801 else ([112, 210, 290, 315, 383, 408, 445, 506, 579, 628, 677, 702, 739, 764] : List Nat).getD ((xs 0 &&& 15).toInt - 0).toNat 0) = 628
      rw [e]
      decide
    · exact lw_9 h
  · refine h_pc (?_ : _ = 677) ?_
    · show (if (xs 0 &&& 15).toInt < (0 : Int) ∨ (13 : Int) < (xs 0 &&& 15).toInt then 801 else ([112, 210, 290, 315, 383, 408, 445, 506, 579, 628, 677, 702, 739, 764] : List Nat).getD ((xs 0 &&& 15).toInt - 0).toNat 0) = 677
      rw [e]
      decide
    · exact lw_10 h
  · refine h_pc (?_ : _ = 702) ?_
    · show (if (xs 0 &&& 15).toInt < (0 : Int) ∨ (13 : Int) < (xs 0 &&& 15).toInt then 801 else ([112, 210, 290, 315, 383, 408, 445, 506, 579, 628, 677, 702, 739, 764] : List Nat).getD ((xs 0 &&& 15).toInt - 0).toNat 0) = 702
      rw [e]
      decide
    · exact lw_11 h
  · refine h_pc (?_ : _ = 739) ?_
    · show (if (xs 0 &&& 15).toInt < (0 : Int) ∨ (13 : Int) < (xs 0 &&& 15).toInt then 801 else ([112, 210, 290, 315, 383, 408, 445, 506, 579, 628, 677, 702, 739, 764] : List Nat).getD ((xs 0 &&& 15).toInt - 0).toNat 0) = 739
      rw [e]
      decide
    · exact lw_12 h
  · refine h_pc (?_ : _ = 764) ?_
    · show (if (xs 0 &&& 15).toInt < (0 : Int) ∨ (13 : Int) < (xs 0 &&& 15).toInt then 801 else ([112, 210, 290, 315, 383, 408, 445, 506, 579, 628, 677, 702, 739, 764] : List Nat).getD ((xs 0 &&& 15).toInt - 0).toNat 0) = 764
      rw [e]
      decide
    · exact lw_13 h
  · refine h_pc (?_ : _ = 801) ?_
    · show (if (xs 0 &&& 15).toInt < (0 : Int) ∨ (13 : Int) < (xs 0 &&& 15).toInt then 801 else ([112, 210, 290, 315, 383, 408, 445, 506, 579, 628, 677, 702, 739, 764] : List Nat).getD ((xs 0 &&& 15).toInt - 0).toNat 0) = 801
      rw [e]
      decide
    · exact lw_x (by rw [hc]; decide) (by rw [hc]; decide)
  · refine h_pc (?_ : _ = 801) ?_
    · show (if (xs 0 &&& 15).toInt < (0 : Int) ∨ (13 : Int) < (xs 0 &&& 15).toInt then 801 else ([112, 210, 290, 315, 383, 408, 445, 506, 579, 628, 677, 702, 739, 764] : List Nat).getD ((xs 0 &&& 15).toInt - 0).toNat 0) = 801
      rw [e]
      decide
    · exact lw_x (by rw [hc]; decide) (by rw [hc]; decide)
set_option maxRecDepth 8000 in
theorem lw_m {L : Nat} (hL : L ≤ 7) {x5 x6 : Option Value} (h : Fr σ) : hG (ra0 L xs) 7 0 σ [some (.retAddr 0), some (.ref 0), some (.ref 176), some (.ref 215), some (.int 0), x5, x6] [] 23 lwP := by
  by_cases h7 : L = 7
  · subst h7
    exact lw_m7 h
  have hc : σ.1 = (216, 250236) := by
    obtain ⟨f1, f2, f3, f5, hc, _⟩ := fr_cls h
    exact hc
  refine h_st rfl rfl ?_
  refine h_st rfl rfl ?_
  refine h_st rfl (e_lenR (by decide)) ?_
  refine h_st rfl rfl ?_
  refine h_st rfl rfl ?_
  refine h_st rfl rfl ?_
  refine h_pc (if_pos (decide_eq_true (show nI L - nI 7 < 0 from pk_sneg (by decide) (by omega)))) ?_
  refine h_st rfl rfl ?_
  exact h_rt rfl rfl (⟨_, _, rfl, rfl, by rw [hc]; decide, by rw [hc]; decide⟩)
set_option maxRecDepth 8000 in
theorem lw_c1 (ra : ae_R) : hE ra 7 1 [.ref 0] ((1, 6), [.inr (7, cd_Net)]) (pV (fun σ' => σ' = fz1)) := ⟨_, gE_of (mo_ev atc_ok ra 7 1000 1 [.ref 0] _ _ (fz_eq fz1_ok)), fz1, rfl, rfl⟩
set_option maxRecDepth 8000 in
theorem lw_c2 (ra : ae_R) : hE ra 7 95 [.ref 176] ((fz1.1.1 + 1, fz1.1.2 + 41), fz1.2 ++ [.inr (8, cd_Model)]) (pV (fun σ' => σ' = fz2)) := ⟨_, gE_of (mo_ev atc_ok ra 7 3000 95 [.ref 176] _ _ (fz_eq fz2_ok.1)), fz2, rfl, rfl⟩
set_option maxRecDepth 8000 in
theorem lw_go {L : Nat} (hL : L ≤ 7) : hG (ra0 L xs) 7 0 ((0, 0), []) (ae_ent [.retAddr 0] 7) [] 0 lwP := by
  refine h_st rfl rfl ?_
  refine h_st rfl rfl ?_
  refine h_cv1 (a0 := .ref 0) rfl (Nat.le_of_ble_eq_true rfl) rfl rfl (lw_c1 _) (fun σ1 e1 => ?_)
  have n1 : σ1.2.length = 176 := by rw [e1]; exact fz1_len
  have k2 : hE (ra0 L xs) 7 95 [.ref 176] ((σ1.1.1 + 1, σ1.1.2 + 41), σ1.2 ++ [.inr (8, cd_Model)]) (pV (fun σ' => σ' = fz2)) := by rw [e1]; exact lw_c2 _
  clear e1
  refine h_st rfl rfl ?_
  refine h_st rfl rfl ?_
  rw [n1]
  refine h_st rfl rfl ?_
  refine h_cv1 (a0 := .ref 176) rfl (Nat.le_of_ble_eq_true rfl) (e_rcv (fs := cd_Model) (by rw [← n1]; simp)) rfl k2 (fun σ2 e2 => ?_)
  have n2 : σ2.2.length = 215 := by rw [e2]; exact fz2_ok.2
  have hF : Fr ((σ2.1.1 + 1, σ2.1.2 + (1 : Int32).toNatClampNeg), σ2.2 ++ [.inl (3, ae_zero 3 (1 : Int32).toNatClampNeg)]) := by
    rw [e2, show (1 : Int32).toNatClampNeg = 1 from by decide]
    exact fz3_ok
  clear e2
  refine h_st rfl rfl ?_
  refine h_st rfl rfl ?_
  refine h_st rfl (e_na (by decide)) ?_
  rw [n2]
  refine h_st rfl rfl ?_
  refine h_st rfl rfl ?_
  refine h_st rfl rfl ?_
  exact lw_m hL hF
theorem pure_ok {L : Nat} {xs : Nat → Int32} (hL : L ≤ 7) : pure_run L xs := by
  obtain ⟨r, ⟨N, hN⟩, σF, x, rfl, rfl, b1, b2⟩ := lw_go (xs := xs) hL
  exact ⟨N, σF, hN N N (Nat.le_refl _) (Nat.le_refl _), b1, b2⟩
end LAW
