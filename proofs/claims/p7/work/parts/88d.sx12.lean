section SX12
variable {ra : ae_R} {d : Nat} {σ σ0 σ1 σ2 : ae_S} {w w0 w1 w2 : Nat → Nat} {C C' : Nat → Prop} {c p : Nat} {P P' : AP} {la be ke fk n : Nat} {ib bn : Int32} {fs : Nat → Option Nat} {x y : AF} {tm : Int32} {fr fb nf m : Nat} {g : Nat → Int32}
def bgx (P : AP) (nu pl : Int32) : Option AF := if pl = 0 then some (0, fun _ => 0) else match pbg P with
  | some (m, x) => if nu = m ∧ pl = nI x.1 then some x else none
  | none => none
def wbg (P : AP) (o : Option (Int32 × AF)) : AP := (P.1, P.2.1, P.2.2.1, o, P.2.2.2.2)
/-- a fragment of m bytes is put to a datagram x -/
def jn1 (P : AP) (g : Nat → Int32) (m : Nat) (tm : Int32) (x : AF) : AP := if mof g then wbg P (some (pa g 18, app x g m)) else if whl (app x g m) ∧ (pqu P = 0 ∨ (pks P).length < 4) then kp (wbg P none) (x.1 + m) tm else wbg P none
def jn (P : AP) (g : Nat → Int32) (m : Nat) (tm : Int32) : AP := match bgx P (pa g 18) (g 21 * 8) with
  | none => wbg P none
  | some x => if x.1 + m ≤ 1000 then jn1 P g m tm x else wbg P none
/-- the begun datagram is another -/
theorem PTx.dg {bb : Nat} {s : Nat} (h : PTx σ w c p P la be ke fk n ib bn fs x) (wbb : w bb = c + 5) (hy : DX σ1 be bb y.1 y.2) (ho : Op be bb σ σ1) : PTx σ1 w c p P la be ke fk n ib bn fs y ∧ Sa (fun k => k = c + 4 ∨ k = c + 5) σ w σ1 w := by
  obtain ⟨⟨a1, a2, a3⟩, h1, ⟨hn, h2, h3⟩, ⟨fa, h4, h5⟩, h6, ⟨wb, bb', wbb', h7⟩, h8, h9⟩ := h
  have s := Sa.op (w := w) ho
  rw [wb, wbb] at s
  have hn4 : 1 ≤ n ∧ n ≤ 4 := by omega
  refine ⟨⟨⟨a1, a2, a3⟩, s.at h1 (by omega), ⟨hn, h2, h3⟩, ⟨fa, s.at h4 (by omega), h5⟩, s.at h6 (by omega), ⟨wb, bb, wbb, hy⟩, fun j q hj hq => ?_, fun j s' hj => ?_⟩, s⟩
  · obtain ⟨u, hu⟩ := h8 j q hj hq
    exact ⟨u, hu.sa s (by omega) (by omega)⟩
  · obtain ⟨q, u, z1, z2, z3⟩ := h9 j s' hj
    exact ⟨q, u, z1, z2.sa s (by omega) (by omega), z3⟩
theorem c_47az {pl : Int32} {x5 : Option Value} (hF : FX σ fr fb nf g) (hnf : 64 ≤ nf) (hm : pa g 16 - 20 = nI m) (hmf : m + 39 ≤ nf) (hcf : w fr < 2500 ∧ w fb < 2500) (hc : 3000 ≤ c) (h : PTx σ w c p P la be ke fk n 1 (pa g 18) fs x) (hx : x.1 + m ≤ 1000) (s0 : Sa (PC c) σ0 w0 σ w) : hG ra (d + 3) 47 σ [some (.ref p), some (.ref fr), some (.int tm), some (.int pl), some (.int (pa g 16 - 20)), x5] [] 105 (pI (fun σ' v => ∃ w', PT σ' w' c p (jn1 P g m tm x) ∧ Sa (PC c) σ0 w0 σ' w' ∧ (v = -1 ∨ ∃ r, v = nI r ∧ r < 12))) := by
  have h' := h
  obtain ⟨⟨a1, a2, a3⟩, h1, ⟨hn, h2, h3⟩, -, h6, ⟨wb, bb, wbb, h7⟩, -⟩ := h'
  have dne : ∀ u v : Nat, w u ≠ w v → u ≠ v := fun u v h e => h (by rw [e])
  refine h_st rfl rfl ?_
  refine h_st rfl (e_get h1 rfl) ?_
  refine h_st rfl rfl ?_
  refine h_st rfl rfl ?_
  refine h_cv3 rfl (Nat.le_of_ble_eq_true rfl) (e_rcv (h7.1)) rfl (c_50z hm h7 hF hx hmf (dne _ _ (by omega)) (dne _ _ (by omega)) (dne _ _ (by omega)) (dne _ _ (by omega))) (fun σ2 hq => ?_)
  obtain ⟨hD, hO⟩ := hq
  obtain ⟨g1, s1⟩ := h.dg (s := 0) wbb hD hO
  have hF2 := hF.sa s1 (by omega) (by omega)
  have m1 : Sa (PC c) σ w σ2 w := s1.mono (fun k z => by unfold PC; omega)
  refine h_st rfl rfl ?_
  refine h_ci1 rfl (Nat.le_of_ble_eq_true rfl) (e_rcv (hF2.1)) rfl (c_51x hF2 hnf) (fun σ3 v hv => ?_)
  obtain ⟨rfl, hv⟩ := hv
  refine h_st rfl rfl ?_
  refine h_br (fun q => ?_) (fun q => ?_)
  · have hmo : ¬ mof g := hv.elim (fun z => absurd (z.1.symm.trans q) (by decide)) (fun z => z.2)
    obtain ⟨g2, s2⟩ := g1.put (P' := wbg P none) (ib' := 0) (bn' := pa g 18) rfl rfl rfl
    refine h_st rfl rfl ?_
    refine h_st rfl rfl ?_
    refine h_st rfl (e_put g1.2.1 rfl (Nat.le_of_ble_eq_true rfl)) ?_
    refine hG_eq (σ1 := (σ3.1, σ3.2.set p (PtC (wbg P none) la be ke fk 0 (pa g 18)))) rfl ?_
    generalize ((σ3.1, σ3.2.set p (PtC (wbg P none) la be ke fk 0 (pa g 18))) : ae_S) = σ4 at g2 s2
    have m2 : Sa (PC c) σ0 w0 σ4 w := s0.trans (m1.trans (s2.mono (fun k z => by unfold PC; omega)))
    have g2' := g2
    obtain ⟨-, v1, -, -, -, ⟨_, bb2, wbb2, v7⟩, -⟩ := g2'
    refine h_st rfl rfl ?_
    refine h_st rfl (e_get v1 rfl) ?_
    refine h_ci1 rfl (Nat.le_of_ble_eq_true rfl) (e_rcv (v7.1)) rfl (c_52z v7) (fun σ5 u hu => ?_)
    obtain ⟨rfl, hu⟩ := hu
    refine h_st rfl rfl ?_
    refine h_br (fun q2 => ?_) (fun q2 => ?_)
    · refine h_st rfl rfl ?_
      exact h_rt rfl rfl (⟨_, _, rfl, w, by unfold jn1; rw [if_neg hmo, if_neg (fun z => hu.elim (fun y => absurd (y.1.symm.trans q2) (by decide)) (fun y => y.2 z.1))]; exact ⟨la, be, ke, fk, n, 0, pa g 18, fs, _, g2, Or.inl ⟨rfl, rfl⟩⟩, m2, Or.inr ⟨10, rfl, by decide⟩⟩)
    · have hwh : whl (app x g m) := b_2 hu q2
      refine h_st rfl rfl ?_
      refine h_st rfl rfl ?_
      refine h_ci2 rfl (Nat.le_of_ble_eq_true rfl) (e_rcv (g2.2.1)) rfl (c_54z (tm := tm) g2) (fun σ6 v6 hv6 => ?_)
      refine h_st rfl rfl ?_
      rcases hv6 with ⟨rfl, rfl, hno⟩ | ⟨rfl, hyes, w6, be6, fs6, y6, g6, s6⟩
      · exact h_rt rfl rfl (⟨_, _, rfl, w, by unfold jn1; rw [if_neg hmo, if_neg (fun z => hno z.2)]; exact ⟨la, be, ke, fk, n, 0, pa g 18, fs, _, g2, Or.inl ⟨rfl, rfl⟩⟩, m2, Or.inr ⟨11, rfl, by decide⟩⟩)
      · exact h_rt rfl rfl (⟨_, _, rfl, w6, by unfold jn1; rw [if_neg hmo, if_pos ⟨hwh, hyes⟩]; exact ⟨la, be6, ke, fk, n, 0, pa g 18, fs6, y6, g6, Or.inl ⟨rfl, rfl⟩⟩, m2.trans s6, Or.inl rfl⟩)
  · refine h_st rfl rfl ?_
    exact h_rt rfl rfl (⟨_, _, rfl, w, by unfold jn1; rw [if_pos (b_2 hv q)]; exact ⟨la, be, ke, fk, n, 1, pa g 18, fs, _, g1, Or.inr ⟨rfl, rfl⟩⟩, s0.trans m1, Or.inl rfl⟩)
theorem c_47fz {pl : Int32} (h : PTx σ w c p P la be ke fk n ib bn fs x) {x5 : Int32} : hG ra d 47 σ [some (.ref p), some (.ref fr), some (.int tm), some (.int pl), some (.int (pa g 16 - 20)), some (.int x5)] [.ref p] 71 (pI (fun σ' v => ∃ w', PT σ' w' c p (wbg P none) ∧ Sa (PC c) σ w σ' w' ∧ (v = -1 ∨ ∃ r, v = nI r ∧ r < 12))) := by
  obtain ⟨g2, s2⟩ := h.put (P' := wbg P none) (ib' := 0) (bn' := bn) rfl rfl rfl
  refine h_st rfl rfl ?_
  refine h_st rfl (e_put h.2.1 rfl (Nat.le_of_ble_eq_true rfl)) ?_
  refine hG_eq (σ1 := (σ.1, σ.2.set p (PtC (wbg P none) la be ke fk 0 bn))) rfl ?_
  generalize ((σ.1, σ.2.set p (PtC (wbg P none) la be ke fk 0 bn)) : ae_S) = σ4 at g2 s2
  refine h_st rfl rfl ?_
  refine h_st rfl (e_get g2.2.1 rfl) ?_
  refine h_st rfl rfl ?_
  refine h_pc (if_neg (by decide)) ?_
  refine h_st rfl rfl ?_
  exact h_rt rfl rfl (⟨_, _, rfl, w, ⟨la, be, ke, fk, n, 0, bn, fs, x, g2, Or.inl ⟨rfl, rfl⟩⟩, s2.mono (fun k z => by unfold PC; omega), Or.inr ⟨10, rfl, by decide⟩⟩)
theorem c_47z (hF : FX σ fr fb nf g) (hnf : 64 ≤ nf) (hm : pa g 16 - 20 = nI m) (hmf : m + 39 ≤ nf) (hcf : w fr < 2500 ∧ w fb < 2500) (hc : 3000 ≤ c) {pl : Nat} (hpl : g 21 * 8 = nI pl) (hpl2 : pl < 2100) (h : PT σ w c p P) : hE ra (d + 4) 47 [.ref p, .ref fr, .int tm] σ (pI (fun σ' v => ∃ w', PT σ' w' c p (jn P g m tm) ∧ Sa (PC c) σ w σ' w' ∧ (v = -1 ∨ ∃ r, v = nI r ∧ r < 12))) := by
  obtain ⟨la, be, ke, fk, n, ib, bn, fs, x, h, hb⟩ := h
  have h' := h
  obtain ⟨⟨a1, a2, a3⟩, h1, ⟨hn, h2, h3⟩, -, h6, ⟨wb, bb, wbb, h7⟩, -⟩ := h'
  have hnf2 := hF.2.1.1
  have hx1 := h7.2.1.1
  have esum : ∀ k, k < 2100 → ((1000 : Int32) < nI k + nI m ↔ ¬ k + m ≤ 1000) := fun k hk => by
    rw [nI_add, show (1000 : Int32) = nI 1000 from rfl, nI_ltI (by decide) (by omega)]
    omega
  refine h_in rfl rfl (Nat.le_of_ble_eq_true rfl) ?_
  refine h_st rfl rfl ?_
  refine h_ci1 rfl (Nat.le_of_ble_eq_true rfl) (e_rcv (hF.1)) rfl (c_48x hF hnf) (fun σ' y hy => ?_)
  obtain ⟨rfl, rfl⟩ := hy
  refine h_st rfl rfl ?_
  refine h_st rfl rfl ?_
  refine h_ci1 rfl (Nat.le_of_ble_eq_true rfl) (e_rcv (hF.1)) rfl (c_42x hF hnf) (fun σ' y hy => ?_)
  obtain ⟨rfl, rfl⟩ := hy
  refine h_st rfl rfl ?_
  refine h_st rfl rfl ?_
  refine h_st rfl rfl ?_
  refine h_br (fun q0 => ?_) (fun q0 => ?_)
  · have ebx : bgx P (pa g 18) (g 21 * 8) = some (0, fun _ => 0) := if_pos q0
    have ej : jn P g m tm = jn1 P g m tm (0, fun _ => 0) := by
      unfold jn
      rw [ebx]
      exact if_pos (by show 0 + m ≤ 1000; omega)
    rw [ej]
    obtain ⟨g1, s1⟩ := h.put (P' := P) (ib' := 1) (bn' := bn) rfl rfl rfl
    have hno : ¬ ((1000 : Int32) < g 21 * 8 + (pa g 16 - 20)) := by
      rw [q0, hm, show (0 : Int32) + nI m = nI 0 + nI m from rfl]
      exact fun z => (esum 0 (by decide)).mp z (by omega)
    refine h_st rfl rfl ?_
    refine h_st rfl rfl ?_
    refine h_st rfl rfl ?_
    refine h_st rfl rfl ?_
    refine h_st rfl rfl ?_
    refine h_st rfl rfl ?_
    refine h_pc (if_neg (by decide)) ?_
    refine h_st rfl rfl ?_
    refine h_st rfl rfl ?_
    refine h_st rfl rfl ?_
    refine h_st rfl rfl ?_
    refine h_st rfl rfl ?_
    refine h_pc (if_neg (fun z9 => (hno) (of_decide_eq_true z9))) ?_
    refine h_st rfl rfl ?_
    refine h_st rfl rfl ?_
    refine h_st rfl (e_put h1 rfl (Nat.le_of_ble_eq_true rfl)) ?_
    refine hG_eq (σ1 := (σ'.1, σ'.2.set p (PtC P la be ke fk 1 bn))) rfl ?_
    generalize ((σ'.1, σ'.2.set p (PtC P la be ke fk 1 bn)) : ae_S) = σ1 at g1 s1
    have hF1 := hF.sa s1 (by omega) (by omega)
    have g1' := g1
    obtain ⟨-, v1, -, -, -, ⟨_, bb1, wbb1, v7⟩, -⟩ := g1'
    have o2 : Op be bb1 σ1 (σ1.1, σ1.2.set be (.inr (0, [.ref bb1, .int (nI 0)]))) := ⟨rfl, List.length_set, fun q a _ => st_ne (Ne.symm a)⟩
    have v7' : DX (σ1.1, σ1.2.set be (.inr (0, [.ref bb1, .int (nI 0)]))) be bb1 0 (fun _ => 0) := ⟨st_get v7.1, ⟨by omega, v7.2.1.2⟩, v7.2.2.choose, (st_ne v7.2.1.2).trans v7.2.2.choose_spec.1, v7.2.2.choose_spec.2.1, fun _ z => absurd z (Nat.not_lt_zero _)⟩
    obtain ⟨g2, s2⟩ := g1.dg (s := 0) (y := (0, fun _ => 0)) wbb1 v7' o2
    refine h_st rfl rfl ?_
    refine h_st rfl (e_get v1 rfl) ?_
    refine h_st rfl rfl ?_
    refine h_pc (if_pos (by decide)) ?_
    refine h_st rfl rfl ?_
    refine h_st rfl rfl ?_
    refine h_pc (if_neg (fun z9 => (fun z => z q0) (of_decide_eq_true z9))) ?_
    refine h_st rfl rfl ?_
    refine h_st rfl (e_get v1 rfl) ?_
    refine h_st rfl rfl ?_
    refine h_st rfl (e_put v7.1 rfl (Nat.le_of_ble_eq_true rfl)) ?_
    refine hG_eq (σ1 := (σ1.1, σ1.2.set be (.inr (0, [.ref bb1, .int (nI 0)])))) rfl ?_
    generalize ((σ1.1, σ1.2.set be (.inr (0, [.ref bb1, .int (nI 0)]))) : ae_S) = σ2 at g2 s2
    have hF2 := hF1.sa s2 (by omega) (by omega)
    obtain ⟨g3, s3⟩ := g2.put (P' := P) (ib' := 1) (bn' := pa g 18) rfl rfl rfl
    refine h_st rfl rfl ?_
    refine h_st rfl rfl ?_
    refine h_ci1 rfl (Nat.le_of_ble_eq_true rfl) (e_rcv (hF2.1)) rfl (c_49x hF2 hnf) (fun σ3 y hy => ?_)
    obtain ⟨rfl, rfl⟩ := hy
    refine h_st rfl (e_put g2.2.1 rfl (Nat.le_of_ble_eq_true rfl)) ?_
    refine hG_eq (σ1 := (σ3.1, σ3.2.set p (PtC P la be ke fk 1 (pa g 18)))) rfl ?_
    exact c_47az (hF2.sa s3 (by omega) (by omega)) hnf hm hmf hcf hc g3 (by show 0 + m ≤ 1000; omega) ((s1.mono (fun k z => by unfold PC; omega)).trans ((s2.mono (fun k z => by unfold PC; omega)).trans (s3.mono (fun k z => by unfold PC; omega))))
  · rcases hb with ⟨eb, ei⟩ | ⟨ei, eb⟩
    · subst ei
      have ebx : bgx P (pa g 18) (g 21 * 8) = none := by
        unfold bgx
        rw [if_neg q0, eb]
        try rfl
      have ej : jn P g m tm = wbg P none := by
        unfold jn
        rw [ebx]
      rw [ej]
      have e := c_47fz (ra := ra) (d := d + 3) (pl := g 21 * 8) (fr := fr) (g := g) (tm := tm) (x5 := 0) h
      refine h_st rfl rfl ?_
      refine h_st rfl (e_get h1 rfl) ?_
      refine h_st rfl rfl ?_
      refine h_pc (if_pos (by decide)) ?_
      refine h_st rfl rfl ?_
      refine h_st rfl rfl ?_
      refine h_st rfl rfl ?_
      refine h_st rfl rfl ?_
      refine h_st rfl rfl ?_
      refine h_pc (if_pos (by decide)) ?_
      exact e
    · subst ei
      refine h_st rfl rfl ?_
      refine h_st rfl (e_get h1 rfl) ?_
      refine h_st rfl rfl ?_
      refine h_pc (if_neg (by decide)) ?_
      refine h_st rfl rfl ?_
      refine h_ci1 rfl (Nat.le_of_ble_eq_true rfl) (e_rcv (hF.1)) rfl (c_49x hF hnf) (fun σ' y hy => ?_)
      obtain ⟨rfl, rfl⟩ := hy
      refine h_st rfl rfl ?_
      refine h_st rfl (e_get h1 rfl) ?_
      refine h_st rfl rfl ?_
      refine h_br (fun q1 => ?_) (fun q1 => ?_)
      · have ebx : bgx P (pa g 18) (g 21 * 8) = none := by
          unfold bgx
          rw [if_neg q0, eb]
          exact if_neg (fun z => q1 z.1)
        have ej : jn P g m tm = wbg P none := by
          unfold jn
          rw [ebx]
        rw [ej]
        have e := c_47fz (ra := ra) (d := d + 3) (pl := g 21 * 8) (fr := fr) (g := g) (tm := tm) (x5 := 0) h
        refine h_st rfl rfl ?_
        refine h_st rfl rfl ?_
        refine h_st rfl rfl ?_
        refine h_st rfl rfl ?_
        refine h_st rfl rfl ?_
        refine h_pc (if_pos (by decide)) ?_
        exact e
      · replace q1 := Decidable.of_not_not q1
        refine h_st rfl rfl ?_
        refine h_st rfl rfl ?_
        refine h_st rfl (e_get h1 rfl) ?_
        refine h_st rfl (e_get h7.1 rfl) ?_
        refine h_st rfl rfl ?_
        refine h_br (fun q2 => ?_) (fun q2 => ?_)
        · have ebx : bgx P (pa g 18) (g 21 * 8) = none := by
            unfold bgx
            rw [if_neg q0, eb]
            exact if_neg (fun z => q2 z.2)
          have ej : jn P g m tm = wbg P none := by
            unfold jn
            rw [ebx]
          rw [ej]
          have e := c_47fz (ra := ra) (d := d + 3) (pl := g 21 * 8) (fr := fr) (g := g) (tm := tm) (x5 := 0) h
          refine h_st rfl rfl ?_
          refine h_st rfl rfl ?_
          refine h_st rfl rfl ?_
          refine h_st rfl rfl ?_
          refine h_st rfl rfl ?_
          refine h_pc (if_pos (by decide)) ?_
          exact e
        · replace q2 := Decidable.of_not_not q2
          have ebx : bgx P (pa g 18) (g 21 * 8) = some x := by
            unfold bgx
            rw [if_neg q0, eb]
            exact if_pos ⟨q1, q2⟩
          have hsum : ((1000 : Int32) < g 21 * 8 + (pa g 16 - 20)) ↔ ¬ x.1 + m ≤ 1000 := by
            rw [q2, hm]
            exact esum _ (by omega)
          refine h_st rfl rfl ?_
          refine h_st rfl rfl ?_
          refine h_st rfl rfl ?_
          refine h_st rfl rfl ?_
          refine h_st rfl rfl ?_
          refine h_st rfl rfl ?_
          refine h_pc (if_neg (by decide)) ?_
          refine h_st rfl rfl ?_
          refine h_st rfl rfl ?_
          refine h_st rfl rfl ?_
          refine h_st rfl rfl ?_
          refine h_st rfl rfl ?_
          refine h_br (fun q3 => ?_) (fun q3 => ?_)
          · have ej : jn P g m tm = wbg P none := by
              unfold jn
              rw [ebx]
              exact if_neg (hsum.mp q3)
            rw [ej]
            exact c_47fz (ra := ra) (d := d + 3) (pl := g 21 * 8) (fr := fr) (g := g) (tm := tm) (x5 := 1) h
          · have hle : x.1 + m ≤ 1000 := Decidable.of_not_not (fun z => q3 (hsum.mpr z))
            have ej : jn P g m tm = jn1 P g m tm x := by
              unfold jn
              rw [ebx]
              exact if_pos hle
            rw [ej]
            obtain ⟨g1, s1⟩ := h.put (P' := P) (ib' := 1) (bn' := pa g 18) rfl rfl rfl
            refine h_st rfl rfl ?_
            refine h_st rfl rfl ?_
            refine h_st rfl (e_put h1 rfl (Nat.le_of_ble_eq_true rfl)) ?_
            refine hG_eq (σ1 := (σ'.1, σ'.2.set p (PtC P la be ke fk 1 (pa g 18)))) (by rw [q1]; rfl) ?_
            generalize ((σ'.1, σ'.2.set p (PtC P la be ke fk 1 (pa g 18))) : ae_S) = σ1 at g1 s1
            refine h_st rfl rfl ?_
            refine h_st rfl (e_get g1.2.1 rfl) ?_
            refine h_st rfl rfl ?_
            refine h_pc (if_pos (by decide)) ?_
            refine h_st rfl rfl ?_
            refine h_st rfl rfl ?_
            refine h_pc (if_pos (decide_eq_true (q0))) ?_
            exact c_47az (hF.sa s1 (by omega) (by omega)) hnf hm hmf hcf hc g1 hle (s1.mono (fun k z => by unfold PC; omega))
end SX12
