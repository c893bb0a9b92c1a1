section SX19
variable {ra : ae_R} {d : Nat} {σ σ0 σ1 σ2 : ae_S} {w w0 w1 w2 : Nat → Nat} {C C' : Nat → Prop} {l i : Nat} {f : Nat → Option Nat} {a : AN} {k : AK} {x : AF} {tm : Int32}
theorem c_26z (h : NT σ w tm) (u v : Int32) : hE ra (d + 2) 26 [.ref 0, .int u, .int v] σ (pR (fun σ' q => σ' = σ ∧ ((∃ nt ln, nt < 2 ∧ ln < 12 ∧ u = nI nt ∧ v = nI ln ∧ q = some (8 + 7 * (12 * nt + ln))) ∨ (q = none ∧ ¬ ((¬ u < 0 ∧ ¬ 2 ≤ u) ∧ ¬ v < 0 ∧ ¬ 12 ≤ v))))) := by
  by_cases c : (¬ u < 0 ∧ ¬ 2 ≤ u) ∧ ¬ v < 0 ∧ ¬ 12 ≤ v
  · obtain ⟨nt, hn, rfl⟩ := i_ix (n := 2) (x := u) (by decide) c.1.1 c.1.2
    obtain ⟨ln, hl, rfl⟩ := i_ix (n := 12) (x := v) (by decide) c.2.1 c.2.2
    refine hE_mono (c_26x h rfl rfl hn hl) (fun r z => ?_)
    obtain ⟨σ', q, er, e1, e2⟩ := z
    exact ⟨σ', q, er, e1, Or.inl ⟨nt, ln, hn, hl, rfl, rfl, e2⟩⟩
  · refine h_in rfl rfl (Nat.le_of_ble_eq_true rfl) ?_
    refine h_st rfl rfl ?_
    refine h_ci1 rfl (Nat.le_of_ble_eq_true rfl) rfl rfl (s_27 u) (fun σ' y hy => ?_)
    obtain ⟨rfl, hy⟩ := hy
    refine h_st rfl rfl ?_
    refine h_br (fun q1 => ?_) (fun q1 => ?_)
    · refine h_st rfl rfl ?_
      exact h_rt rfl rfl (⟨_, none, rfl, rfl, Or.inr ⟨rfl, c⟩⟩)
    · refine h_st rfl rfl ?_
      refine h_st rfl rfl ?_
      refine h_br (fun q2 => ?_) (fun q2 => ?_)
      · refine h_st rfl rfl ?_
        exact h_rt rfl rfl (⟨_, none, rfl, rfl, Or.inr ⟨rfl, c⟩⟩)
      · have hb : ¬ u < 0 ∧ ¬ 2 ≤ u := b_2 hy q1
        refine h_st rfl rfl ?_
        refine h_st rfl rfl ?_
        refine h_st rfl rfl ?_
        refine h_pc (if_pos (decide_eq_true (Decidable.of_not_not (fun z => c ⟨hb, q2, z⟩)))) ?_
        refine h_st rfl rfl ?_
        exact h_rt rfl rfl (⟨_, none, rfl, rfl, Or.inr ⟨rfl, c⟩⟩)
/-- harm -/
theorem c_67n (h : CN σ w f a) (u v pl mk : Int32) : hE ra (d + 3) 67 [.ref 0, .int u, .int v, .int pl, .int mk] σ (pI (fun σ' _ => (σ' = σ ∧ ¬ (((¬ u < 0 ∧ ¬ 2 ≤ u) ∧ ¬ v < 0 ∧ ¬ 12 ≤ v) ∧ ¬ mk < 0 ∧ mk ≤ 255)) ∨ ∃ nt ln p, nt < 2 ∧ ln < 12 ∧ u = nI nt ∧ v = nI ln ∧ (¬ mk < 0 ∧ mk ≤ 255) ∧ p < 2 ^ 31 ∧ pl &&& 2147483647 = nI p ∧ CN σ' w f (setL a (12 * nt + ln) (hrm (nL a (12 * nt + ln)) p mk)))) := by
  refine h_in rfl rfl (Nat.le_of_ble_eq_true rfl) ?_
  refine h_st rfl rfl ?_
  refine h_st rfl rfl ?_
  refine h_st rfl rfl ?_
  refine h_cr3 rfl (Nat.le_of_ble_eq_true rfl) (e_rcv (h.1.1.1)) rfl (c_26z h.1 u v) (fun σ' q hq => ?_)
  obtain ⟨rfl, hq⟩ := hq
  rcases hq with ⟨nt, ln, hn, hl, rfl, rfl, rfl⟩ | ⟨rfl, hno⟩
  · obtain ⟨p, hp, ep⟩ := pk_andE pl (m := 2147483647) 31 (by decide)
    have hA := h.2.2.2.1 (12 * nt + ln) (by omega)
    have hA' := hA
    obtain ⟨fr0, b0, g0, e0, hp0, mk0, x0, hW, -⟩ := hA'
    refine h_st rfl rfl ?_
    refine h_st rfl rfl ?_
    refine h_st rfl rfl ?_
    refine h_st rfl rfl ?_
    refine h_st rfl rfl ?_
    refine h_br (fun q1 => ?_) (fun q1 => ?_)
    · refine h_st rfl rfl ?_
      exact h_rt rfl rfl (⟨_, _, rfl, Or.inl ⟨rfl, fun z => z.2.1 q1⟩⟩)
    · refine h_st rfl rfl ?_
      refine h_st rfl rfl ?_
      refine h_st rfl rfl ?_
      refine h_br (fun q2 => ?_) (fun q2 => ?_)
      · refine h_st rfl rfl ?_
        refine h_st rfl rfl ?_
        refine h_st rfl rfl ?_
        refine h_st rfl rfl ?_
        refine h_st rfl rfl ?_
        refine h_cv3 rfl (Nat.le_of_ble_eq_true rfl) (hW.rcv) rfl (by rw [show (fun x y => x &&& y) pl 2147483647 = nI p from ep]; exact c_68x hA hp mk) (fun σ2 hq2 => ?_)
        obtain ⟨hA2, s2⟩ := hq2
        refine h_st rfl rfl ?_
        exact h_rt rfl rfl (⟨_, _, rfl, Or.inr ⟨nt, ln, p, hn, hl, rfl, rfl, ⟨q1, q2⟩, hp, ep, h.ln s2 (fun c z => Or.inl z) (by omega) hA2 (h.1.sa s2 (by unfold LC; omega) (by unfold LC; omega) (by unfold LC; omega)) (h.2.1.sa s2 (by unfold LC; omega) (by unfold LC; omega))⟩⟩)
      · refine h_st rfl rfl ?_
        exact h_rt rfl rfl (⟨_, _, rfl, Or.inl ⟨rfl, fun z => q2 z.2.2⟩⟩)
  · refine h_st rfl rfl ?_
    refine h_st rfl rfl ?_
    refine h_st rfl rfl ?_
    refine h_st rfl rfl ?_
    exact h_rt rfl rfl (⟨_, _, rfl, Or.inl ⟨rfl, fun z => hno z.1⟩⟩)
/-- a frame that an end system babbles -/
def bbf (l e nt sz : Nat) (n : Int32) : AF := (sz, sel sz (tel (bgn (nI l) (nI e) (nI nt) (nI (sz - 39))) (n &&& 65535) 0 0) (n &&& 255))
abbrev okB (u e l s : Int32) : Prop := (¬ u < 0 ∧ ¬ 2 ≤ u) ∧ (¬ e < 0 ∧ ¬ 4 ≤ e) ∧ (¬ l < 0 ∧ ¬ 8 ≤ l) ∧ ¬ s < 64 ∧ s ≤ 200
theorem c_69n (hck : ra 3 = (16, ckt)) (h : CN σ w f a) (u e v s n : Int32) : hE ra (d + 4) 69 [.ref 0, .int u, .int e, .int v, .int s, .int n] σ (pI (fun σ' y => (σ' = σ ∧ y = 0 ∧ ¬ okB u e v s) ∨ ∃ nt en l sz, nt < 2 ∧ en < 4 ∧ l < 8 ∧ (64 ≤ sz ∧ sz ≤ 200) ∧ u = nI nt ∧ e = nI en ∧ v = nI l ∧ s = nI sz ∧ ((y = 1 ∧ rom (12 * nt + en) 0 (nL a (12 * nt + en))) ∨ (y = 0 ∧ ¬ rom (12 * nt + en) 0 (nL a (12 * nt + en)))) ∧ ∃ w', CN σ' w' f (setL a (12 * nt + en) (enq (12 * nt + en) 0 (bbf l en nt sz n) (nL a (12 * nt + en)))))) := by
  obtain ⟨⟨n0, g0, hD⟩, w4, w5⟩ := h.2.1
  have h0 := h.1.1.1
  refine h_in rfl rfl (Nat.le_of_ble_eq_true rfl) ?_
  refine h_st rfl rfl ?_
  refine h_ci1 rfl (Nat.le_of_ble_eq_true rfl) rfl rfl (s_27 u) (fun σ' y hy => ?_)
  obtain ⟨rfl, hy⟩ := hy
  refine h_st rfl rfl ?_
  refine h_br (fun q1 => ?_) (fun q1 => ?_)
  · refine h_st rfl rfl ?_
    exact h_rt rfl rfl (⟨_, _, rfl, Or.inl ⟨rfl, rfl, fun z => hy.elim (fun y => absurd (y.1.symm.trans q1) (by decide)) (fun y => y.2 z.1)⟩⟩)
  · refine h_st rfl rfl ?_
    refine h_ci1 rfl (Nat.le_of_ble_eq_true rfl) rfl rfl (s_40 e) (fun σ' y2 hy2 => ?_)
    obtain ⟨rfl, hy2⟩ := hy2
    refine h_st rfl rfl ?_
    refine h_br (fun q2 => ?_) (fun q2 => ?_)
    · refine h_st rfl rfl ?_
      exact h_rt rfl rfl (⟨_, _, rfl, Or.inl ⟨rfl, rfl, fun z => hy2.elim (fun y => absurd (y.1.symm.trans q2) (by decide)) (fun y => y.2 z.2.1)⟩⟩)
    · refine h_st rfl rfl ?_
      refine h_ci1 rfl (Nat.le_of_ble_eq_true rfl) rfl rfl (s_38 v) (fun σ' y3 hy3 => ?_)
      obtain ⟨rfl, hy3⟩ := hy3
      refine h_st rfl rfl ?_
      refine h_br (fun q3 => ?_) (fun q3 => ?_)
      · refine h_st rfl rfl ?_
        exact h_rt rfl rfl (⟨_, _, rfl, Or.inl ⟨rfl, rfl, fun z => hy3.elim (fun y => absurd (y.1.symm.trans q3) (by decide)) (fun y => y.2 z.2.2.1)⟩⟩)
      · refine h_st rfl rfl ?_
        refine h_st rfl rfl ?_
        refine h_st rfl rfl ?_
        refine h_br (fun q4 => ?_) (fun q4 => ?_)
        · refine h_st rfl rfl ?_
          exact h_rt rfl rfl (⟨_, _, rfl, Or.inl ⟨rfl, rfl, fun z => z.2.2.2.1 q4⟩⟩)
        · refine h_st rfl rfl ?_
          refine h_st rfl rfl ?_
          refine h_st rfl rfl ?_
          refine h_br (fun q5 => ?_) (fun q5 => ?_)
          · obtain ⟨nt, hnt, rfl⟩ := i_ix (n := 2) (x := u) (by decide) (b_2 hy q1).1 (b_2 hy q1).2
            obtain ⟨en, hen, rfl⟩ := i_ix (n := 4) (x := e) (by decide) (b_2 hy2 q2).1 (b_2 hy2 q2).2
            obtain ⟨l, hl, rfl⟩ := i_ix (n := 8) (x := v) (by decide) (b_2 hy3 q3).1 (b_2 hy3 q3).2
            obtain ⟨sz, hsz, rfl⟩ := nI_of2 (x := s) (M := 200) (n := 200) (by decide) (fun z => q4 (Int32.lt_trans z (by decide))) q5
            have hs64 : 64 ≤ sz := Nat.le_of_not_lt (fun z => q4 (nI_lt (b := 64) z (by decide)))
            have es : nI sz - 39 = nI (sz - 39) := pk_sub (b := 39) (by omega)
            have ef : fsz (sz - 39) = sz := by unfold fsz; split <;> omega
            refine h_st rfl rfl ?_
            refine h_st rfl (e_get h0 rfl) ?_
            refine h_st rfl rfl ?_
            refine h_st rfl rfl ?_
            refine h_st rfl rfl ?_
            refine h_st rfl rfl ?_
            refine h_st rfl rfl ?_
            refine h_st rfl rfl ?_
            refine h_cv5 rfl (Nat.le_of_ble_eq_true rfl) (e_rcv (hD.1)) rfl (by rw [show (fun x y => x - y) (nI sz) 39 = nI (sz - 39) from es]; exact c_16x hD (by omega) (nI l) (nI en) (nI nt)) (fun σ1 z1 => ?_)
            obtain ⟨f1, o1⟩ := z1
            rw [ef] at f1
            refine h_st rfl rfl ?_
            refine h_st rfl (e_get ((o1.2.2 0 (by decide) (by decide)).trans h0) rfl) ?_
            refine h_st rfl rfl ?_
            refine h_st rfl rfl ?_
            refine h_st rfl rfl ?_
            refine h_st rfl rfl ?_
            refine h_st rfl rfl ?_
            refine h_cv4 rfl (Nat.le_of_ble_eq_true rfl) (e_rcv (f1.1)) rfl (c_19x f1 hs64 (n &&& 65535) 0 0) (fun σ2 z2 => ?_)
            obtain ⟨f2, o2⟩ := z2
            replace o2 := o1.trans o2
            refine h_st rfl rfl ?_
            refine h_st rfl (e_get ((o2.2.2 0 (by decide) (by decide)).trans h0) rfl) ?_
            refine h_st rfl rfl ?_
            refine h_st rfl rfl ?_
            refine h_st rfl rfl ?_
            refine h_cv2 rfl (Nat.le_of_ble_eq_true rfl) (e_rcv (f2.1)) rfl (c_21x hck f2 hs64 (n &&& 255)) (fun σ3 z3 => ?_)
            obtain ⟨f3, o3⟩ := z3
            replace o3 := o2.trans o3
            have s3 := Sa.op (w := w) o3
            rw [w4, w5] at s3
            have h3 := h.dr s3 (fun c z => z) ⟨⟨_, _, f3⟩, w4, w5⟩
            refine h_st rfl rfl ?_
            refine h_st rfl rfl ?_
            refine h_st rfl rfl ?_
            refine h_st rfl rfl ?_
            refine h_st rfl rfl ?_
            refine h_st rfl (e_get ((o3.2.2 0 (by decide) (by decide)).trans h0) rfl) ?_
            refine h_ci5 rfl (Nat.le_of_ble_eq_true rfl) (e_rcv (h3.1.1.1)) rfl (c_25n (x := bbf l en nt sz n) rfl rfl hnt (by omega) h3 f3 hs64) (fun σ4 y4 hy4 => ?_)
            obtain ⟨w4', h4, -, hy4⟩ := hy4
            exact h_rt rfl (hy4.elim (fun z => by rw [z.1]; rfl) (fun z => by rw [z.1]; rfl)) (⟨_, _, rfl, Or.inr ⟨nt, en, l, sz, hnt, hen, hl, ⟨hs64, hsz⟩, rfl, rfl, rfl, rfl, hy4, w4', h4⟩⟩)
          · refine h_st rfl rfl ?_
            exact h_rt rfl rfl (⟨_, _, rfl, Or.inl ⟨rfl, rfl, fun z => q5 z.2.2.2.2⟩⟩)
end SX19
