section SX24
variable {ra : ae_R} {d : Nat} {σ σ0 σ1 σ2 : ae_S} {w w0 w1 w2 : Nat → Nat} {l i nt ln : Nat} {f : Nat → Option Nat} {a : AN} {k : AK}
abbrev okl (u v : Int32) : Prop := (¬ u < 0 ∧ ¬ 2 ≤ u) ∧ ¬ v < 0 ∧ ¬ 12 ≤ v
def lnA (u v : Int32) : Nat := 12 * u.toNatClampNeg + v.toNatClampNeg
theorem lnA_e (h1 : nt < 2) (h2 : ln < 12) : lnA (nI nt) (nI ln) = 12 * nt + ln := by
  unfold lnA
  rw [nI_clamp (by omega), nI_clamp (by omega)]
theorem okl_e (h1 : nt < 2) (h2 : ln < 12) : okl (nI nt) (nI ln) := ⟨⟨nI_pos (by omega), nI_ge (b := 2) h1 (by decide)⟩, nI_pos (by omega), nI_ge (b := 12) h2 (by decide)⟩
/-- what waits before a line -/
def wtA (a : AN) (u v k : Int32) : Int32 := if okl u v ∧ ¬ k < 0 ∧ k ≤ 1 then (if k = 1 then nI (nL a (lnA u v)).2.1.length else nI (nL a (lnA u v)).1.length) else -1
theorem c_71n (h : CN σ w f a) (u v k : Int32) : hE ra (d + 3) 71 [.ref 0, .int u, .int v, .int k] σ (pI (fun σ' y => σ' = σ ∧ y = wtA a u v k)) := by
  refine h_in rfl rfl (Nat.le_of_ble_eq_true rfl) ?_
  refine h_st rfl rfl ?_
  refine h_st rfl rfl ?_
  refine h_st rfl rfl ?_
  refine h_cr3 rfl (Nat.le_of_ble_eq_true rfl) (e_rcv (h.1.1.1)) rfl (c_26z h.1 u v) (fun σ' q hq => ?_)
  obtain ⟨rfl, hq⟩ := hq
  rcases hq with ⟨nt, ln, hn, hl, rfl, rfl, rfl⟩ | ⟨rfl, hno⟩
  · obtain ⟨fr0, b0, g0, e0, hp0, mk0, x0, hW, hO, -⟩ := h.2.2.2.1 (12 * nt + ln) (by omega)
    have h2 := hW.2.1
    obtain ⟨-, a3, f3, r3, -⟩ := hW.2.2.1
    obtain ⟨-, a4, f4, r4, -⟩ := hW.2.2.2.1
    refine h_st rfl rfl ?_
    refine h_st rfl rfl ?_
    refine h_st rfl rfl ?_
    refine h_st rfl rfl ?_
    refine h_st rfl rfl ?_
    refine h_br (fun q1 => ?_) (fun q1 => ?_)
    · refine h_st rfl rfl ?_
      exact h_rt rfl rfl (⟨_, _, rfl, rfl, by unfold wtA; rw [if_neg (fun z => z.2.1 q1)]⟩)
    · refine h_st rfl rfl ?_
      refine h_st rfl rfl ?_
      refine h_st rfl rfl ?_
      refine h_br (fun q2 => ?_) (fun q2 => ?_)
      · refine h_st rfl rfl ?_
        refine h_st rfl rfl ?_
        refine h_st rfl rfl ?_
        refine h_br (fun q3 => ?_) (fun q3 => ?_)
        · refine h_st rfl rfl ?_
          refine h_st rfl (e_get h2 rfl) ?_
          refine h_st rfl (e_get r3 rfl) ?_
          exact h_rt rfl rfl (⟨_, _, rfl, rfl, by unfold wtA; rw [if_pos ⟨okl_e hn hl, q1, q2⟩, if_neg q3, lnA_e hn hl]⟩)
        · refine h_st rfl rfl ?_
          refine h_st rfl (e_get h2 rfl) ?_
          refine h_st rfl (e_get r4 rfl) ?_
          refine h_st rfl rfl ?_
          exact h_rt rfl rfl (⟨_, _, rfl, rfl, by unfold wtA; rw [if_pos ⟨okl_e hn hl, q1, q2⟩, if_pos (Decidable.of_not_not q3), lnA_e hn hl]⟩)
      · refine h_st rfl rfl ?_
        exact h_rt rfl rfl (⟨_, _, rfl, rfl, by unfold wtA; rw [if_neg (fun z => q2 z.2.2)]⟩)
  · refine h_st rfl rfl ?_
    refine h_st rfl rfl ?_
    refine h_st rfl rfl ?_
    refine h_st rfl rfl ?_
    exact h_rt rfl rfl (⟨_, _, rfl, rfl, by unfold wtA; rw [if_neg (fun z => hno z.1)]⟩)
/-- a byte of a frame, or none -/
def byA (x : AF) (k : Int32) : Int32 := if k < 0 ∨ nI x.1 ≤ k then -1 else x.2 k.toNatClampNeg
theorem c_35y {p pb : Nat} {x : AF} (h : FX σ p pb x.1 x.2) (k : Int32) : hE ra (d + 1) 35 [.ref p, .int k] σ (pI (fun σ' y => σ' = σ ∧ y = byA x k)) := by
  by_cases c : k < 0 ∨ nI x.1 ≤ k
  · refine hE_mono (c_35n h c) (fun r z => ?_)
    obtain ⟨σ', y, er, e1, e2⟩ := z
    exact ⟨σ', y, er, e1, by unfold byA; rw [if_pos c]; exact e2⟩
  · obtain ⟨j, hj, rfl⟩ := i_nn (fun z => c (Or.inl z))
    have hjn : j < x.1 := Nat.lt_of_not_le (fun z => c (Or.inr (nI_le z hj)))
    refine hE_mono (c_35x h rfl hjn) (fun r z => ?_)
    obtain ⟨σ', y, er, e1, e2⟩ := z
    exact ⟨σ', y, er, e1, by unfold byA; rw [if_neg c, nI_clamp hj]; exact e2⟩
/-- what is on a line -/
def onA (o : Option (AF × Nat)) (k : Int32) : Int32 := match o with
  | none => -1
  | some (x, _) => if k = -1 then nI x.1 else byA x k
def olA (a : AN) (u v k : Int32) : Int32 := if okl u v then onA (nL a (lnA u v)).2.2.1 k else -1
theorem c_70n (h : CN σ w f a) (u v k : Int32) : hE ra (d + 3) 70 [.ref 0, .int u, .int v, .int k] σ (pI (fun σ' y => σ' = σ ∧ y = olA a u v k)) := by
  refine h_in rfl rfl (Nat.le_of_ble_eq_true rfl) ?_
  refine h_st rfl rfl ?_
  refine h_st rfl rfl ?_
  refine h_st rfl rfl ?_
  refine h_cr3 rfl (Nat.le_of_ble_eq_true rfl) (e_rcv (h.1.1.1)) rfl (c_26z h.1 u v) (fun σ' q hq => ?_)
  obtain ⟨rfl, hq⟩ := hq
  rcases hq with ⟨nt, ln, hn, hl, rfl, rfl, rfl⟩ | ⟨rfl, hno⟩
  · obtain ⟨fr0, b0, g0, e0, hp0, mk0, x0, hW, hO, -⟩ := h.2.2.2.1 (12 * nt + ln) (by omega)
    have h2 := hW.2.1
    obtain ⟨-, pb0, -, hF⟩ := hW.2.2.2.2
    have eo : olA a (nI nt) (nI ln) k = onA (nL a (12 * nt + ln)).2.2.1 k := by
      unfold olA
      rw [if_pos (okl_e hn hl), lnA_e hn hl]
    rw [eo]
    rcases hO with ⟨eO, rfl⟩ | ⟨t0, eO, rfl, -⟩
    · refine h_st rfl rfl ?_
      refine h_st rfl rfl ?_
      refine h_st rfl rfl ?_
      refine h_st rfl rfl ?_
      refine h_st rfl (e_get h2 rfl) ?_
      refine h_st rfl rfl ?_
      refine h_pc (if_neg (by decide)) ?_
      refine h_st rfl rfl ?_
      exact h_rt rfl rfl (⟨_, _, rfl, rfl, by rw [eO]; rfl⟩)
    · rw [eO]
      refine h_st rfl rfl ?_
      refine h_st rfl rfl ?_
      refine h_st rfl rfl ?_
      refine h_st rfl rfl ?_
      refine h_st rfl (e_get h2 rfl) ?_
      refine h_st rfl rfl ?_
      refine h_pc (if_pos (by decide)) ?_
      refine h_st rfl rfl ?_
      refine h_st rfl rfl ?_
      refine h_st rfl rfl ?_
      refine h_br (fun q1 => ?_) (fun q1 => ?_)
      · refine h_st rfl rfl ?_
        refine h_st rfl (e_get h2 rfl) ?_
        refine h_st rfl rfl ?_
        refine h_ci2 rfl (Nat.le_of_ble_eq_true rfl) (e_rcv (hF.1)) rfl (c_35y hF k) (fun σ3 y3 hy3 => ?_)
        obtain ⟨rfl, rfl⟩ := hy3
        exact h_rt rfl rfl (⟨_, _, rfl, rfl, (if_neg q1).symm⟩)
      · refine h_st rfl rfl ?_
        refine h_st rfl (e_get h2 rfl) ?_
        refine h_st rfl (e_get hF.1 rfl) ?_
        refine h_st rfl rfl ?_
        exact h_rt rfl rfl (⟨_, _, rfl, rfl, (if_pos (Decidable.of_not_not q1)).symm⟩)
  · refine h_st rfl rfl ?_
    refine h_st rfl rfl ?_
    refine h_st rfl rfl ?_
    refine h_st rfl rfl ?_
    exact h_rt rfl rfl (⟨_, _, rfl, rfl, by unfold olA; rw [if_neg hno]⟩)
/-- a link's account -/
def acA (a : AN) (u v : Int32) : Int32 := match kat a v with
  | none => -1
  | some (_, k) => if ¬ u < 0 ∧ ¬ 2 ≤ u then kac k u.toNatClampNeg else -1
theorem acA_n {u v : Int32} (h : kat a v = none) : acA a u v = -1 := by
  unfold acA
  rw [h]
theorem acA_s {u v : Int32} (h : kat a v = some (l, k)) : acA a u v = if ¬ u < 0 ∧ ¬ 2 ≤ u then kac k u.toNatClampNeg else -1 := by
  unfold acA
  rw [h]
theorem c_73n (h : CN σ w f a) (u v : Int32) : hE ra (d + 3) 73 [.ref 0, .int u, .int v] σ (pI (fun σ' y => σ' = σ ∧ y = acA a u v)) := by
  refine h_in rfl rfl (Nat.le_of_ble_eq_true rfl) ?_
  refine h_st rfl rfl ?_
  refine h_st rfl rfl ?_
  refine h_cr2 rfl (Nat.le_of_ble_eq_true rfl) (e_rcv (h.1.1.1)) rfl (c_37z h v) (fun σ' q hq => ?_)
  obtain ⟨rfl, hq⟩ := hq
  rcases hq with ⟨rfl, hkat⟩ | ⟨r, l, k, rfl, hl, hvl, hkat, hf, hk⟩
  · refine h_st rfl rfl ?_
    refine h_st rfl rfl ?_
    refine h_st rfl rfl ?_
    refine h_st rfl rfl ?_
    refine h_st rfl rfl ?_
    exact h_rt rfl rfl (⟨_, _, rfl, rfl, (acA_n hkat).symm⟩)
  · obtain ⟨q', po, ac, wa, fi, se, pf, e1, hL, hpf, hsq, hPT⟩ := (h.2.2.2.2.2 l hl).2 k hk
    rw [hf] at e1
    injection e1 with e1
    subst e1
    rw [acA_s hkat]
    refine h_st rfl rfl ?_
    refine h_st rfl rfl ?_
    refine h_st rfl rfl ?_
    refine h_st rfl rfl ?_
    refine h_ci1 rfl (Nat.le_of_ble_eq_true rfl) rfl rfl (s_27 u) (fun σ3 y3 hy3 => ?_)
    obtain ⟨rfl, hy3⟩ := hy3
    refine h_st rfl rfl ?_
    refine h_br (fun q1 => ?_) (fun q1 => ?_)
    · have hb := b_2 hy3 q1
      obtain ⟨nt, hnt, rfl⟩ := i_ix (n := 2) (x := u) (by decide) hb.1 hb.2
      obtain ⟨fa, h4, h5⟩ := hL.fa hnt
      have hin : ¬ (nI nt < 0 ∨ 2 ≤ (nI nt).toNatClampNeg) := nI_in hnt (by decide)
      have en : (nI nt).toNatClampNeg = nt := nI_clamp (by omega)
      have efa : fa (nI nt).toNatClampNeg = kac k nt := by rw [en]; exact h5
      rw [if_pos hb, en]
      refine h_st rfl rfl ?_
      refine h_st rfl (e_get hL.2.1 rfl) ?_
      refine h_st rfl rfl ?_
      refine h_st rfl ((e_ia h4 hin).trans (by rw [efa])) ?_
      exact h_rt rfl rfl (⟨_, _, rfl, rfl, rfl⟩)
    · refine h_st rfl rfl ?_
      refine h_st rfl rfl ?_
      exact h_rt rfl rfl (⟨_, _, rfl, rfl, (if_neg (fun z => q1 (hy3.elim (fun y => by rw [y.1]; decide) (fun y => absurd z y.2)))).symm⟩)
/-- what a port shows -/
def psA (P : AP) (tm : Int32) : Int32 := if pqu P = 0 then (if (pks P).length = 0 then -1 else tm - pca P) else nI (pks P).length
def ptA (a : AN) (e v : Int32) : Int32 := match pat a e v with
  | none => -1
  | some (_, _, p) => psA p (nT a)
theorem ptA_n {u v : Int32} (h : pat a u v = none) : ptA a u v = -1 := by
  unfold ptA
  rw [h]
theorem ptA_s {u v : Int32} {e : Nat} {p : AP} (h : pat a u v = some (l, e, p)) : ptA a u v = psA p (nT a) := by
  unfold ptA
  rw [h]
theorem c_66n {c p : Nat} {P : AP} (h : PT σ w c p P) (tm : Int32) : hE ra (d + 1) 66 [.ref p, .int tm] σ (pI (fun σ' y => σ' = σ ∧ y = psA P tm)) := by
  obtain ⟨la, be, ke, fk, n, ib, bn, fs, x0, h, hb⟩ := h
  obtain ⟨-, h1, ⟨hn, h2, h3⟩, -⟩ := h
  have hn4 : (pks P).length ≤ 4 := by omega
  refine h_in rfl rfl (Nat.le_of_ble_eq_true rfl) ?_
  refine h_st rfl rfl ?_
  refine h_st rfl (e_get h1 rfl) ?_
  refine h_st rfl rfl ?_
  refine h_br (fun q1 => ?_) (fun q1 => ?_)
  · refine h_st rfl rfl ?_
    refine h_st rfl (e_get h1 rfl) ?_
    refine h_st rfl rfl ?_
    refine h_br (fun q2 => ?_) (fun q2 => ?_)
    · refine h_st rfl rfl ?_
      refine h_st rfl rfl ?_
      refine h_st rfl (e_get h1 rfl) ?_
      refine h_st rfl rfl ?_
      exact h_rt rfl rfl (⟨_, _, rfl, rfl, by unfold psA; rw [if_pos q1, if_neg (fun z => q2 (by rw [z]; rfl))]⟩)
    · refine h_st rfl rfl ?_
      refine h_st rfl rfl ?_
      exact h_rt rfl rfl (⟨_, _, rfl, rfl, by unfold psA; rw [if_pos q1, if_pos (Decidable.of_not_not (fun z => nI_ne0 (by omega) (by omega) (Decidable.of_not_not q2)))]⟩)
  · refine h_st rfl rfl ?_
    refine h_st rfl (e_get h1 rfl) ?_
    exact h_rt rfl rfl (⟨_, _, rfl, rfl, by unfold psA; rw [if_neg q1]⟩)
theorem c_64n (h : CN σ w f a) (e v : Int32) : hE ra (d + 4) 64 [.ref 0, .int e, .int v] σ (pI (fun σ' y => σ' = σ ∧ y = ptA a e v)) := by
  have h0 := h.1.1.1
  refine h_in rfl rfl (Nat.le_of_ble_eq_true rfl) ?_
  refine h_st rfl rfl ?_
  refine h_st rfl rfl ?_
  refine h_st rfl rfl ?_
  refine h_cr3 rfl (Nat.le_of_ble_eq_true rfl) (e_rcv (h0)) rfl (c_65n h e v) (fun σ' q hq => ?_)
  obtain ⟨rfl, hq⟩ := hq
  rcases hq with ⟨rfl, hpat⟩ | ⟨r, l, en, p, k, ql, po, ac, wa, fi, se, pf, rfl, hl, hen, hpat, hnp, -, hPT, -⟩
  · refine h_st rfl rfl ?_
    refine h_st rfl rfl ?_
    refine h_st rfl rfl ?_
    refine h_st rfl rfl ?_
    refine h_st rfl rfl ?_
    exact h_rt rfl rfl (⟨_, _, rfl, rfl, (ptA_n hpat).symm⟩)
  · rw [ptA_s hpat]
    have hPT' := hPT
    obtain ⟨la, be, ke, fk, n, ib, bn, fs, x0, hx, hb⟩ := hPT'
    refine h_st rfl rfl ?_
    refine h_st rfl rfl ?_
    refine h_st rfl rfl ?_
    refine h_st rfl rfl ?_
    refine h_st rfl rfl ?_
    refine h_st rfl (e_get h0 rfl) ?_
    refine h_ci2 rfl (Nat.le_of_ble_eq_true rfl) (e_rcv (hx.2.1)) rfl (c_66n hPT (nT a)) (fun σ3 y3 hy3 => ?_)
    obtain ⟨rfl, rfl⟩ := hy3
    exact h_rt rfl rfl (⟨_, _, rfl, rfl, rfl⟩)
end SX24
