section SX10
variable {ra : ae_R} {d : Nat} {σ σ0 σ1 σ2 : ae_S} {w w0 w1 w2 : Nat → Nat} {C C' : Nat → Prop} {c p : Nat} {P P' : AP} {la be ke fk n : Nat} {ib bn : Int32} {fs : Nat → Option Nat} {x : AF} {tm : Int32}
/-- a port: its object, its parts by their codes, the begun datagram -/
def PTx (σ : ae_S) (w : Nat → Nat) (c p : Nat) (P : AP) (la be ke fk n : Nat) (ib bn : Int32) (fs : Nat → Option Nat) (x : AF) : Prop := (w p = c ∧ w la = c + 1 ∧ w ke = c + 2) ∧ σ.2[p]? = some (PtC P la be ke fk ib bn) ∧ (((pqu P = 1 ∧ n = 4) ∨ (pqu P = 0 ∧ n = 1)) ∧ fk < n ∧ (pks P).length ≤ n) ∧ (∃ fa, σ.2[la]? = some (.inl (0, 2, .inl fa)) ∧ fa 0 = pla P 0 ∧ fa 1 = pla P 1) ∧ σ.2[ke]? = some (.inl (9, rfs n fs)) ∧ Dw σ w be (c + 4) x ∧ (∀ j q, j < n → fs j = some q → ∃ x, Dw σ w q (c + 6 + 2 * j) x) ∧ ∀ j s, (pks P)[j]? = some s → ∃ q x, fs ((fk + j) % n) = some q ∧ Dw σ w q (c + 6 + 2 * ((fk + j) % n)) x ∧ x.1 = s
def bgC (o : Option (Int32 × AF)) (ib bn : Int32) (x : AF) : Prop := (o = none ∧ ib = 0) ∨ (ib = 1 ∧ o = some (bn, x))
def PT (σ : ae_S) (w : Nat → Nat) (c p : Nat) (P : AP) : Prop := ∃ la be ke fk n ib bn fs x, PTx σ w c p P la be ke fk n ib bn fs x ∧ bgC (pbg P) ib bn x
def PC (c : Nat) : Nat → Prop := fun k => c ≤ k ∧ k < c + 16
theorem PTx.sa (h : PTx σ w c p P la be ke fk n ib bn fs x) (hs : Sa C σ w σ1 w1) (hc : ∀ k, PC c k → ¬ C k) : PTx σ1 w1 c p P la be ke fk n ib bn fs x := by
  obtain ⟨⟨a1, a2, a3⟩, h1, ⟨hn, h2, h3⟩, ⟨fa, h4, h5⟩, h6, h7, h8, h9⟩ := h
  have hn4 : 1 ≤ n ∧ n ≤ 4 := by omega
  have hm : ∀ j, (fk + j) % n < 4 := fun j => Nat.lt_of_lt_of_le (Nat.mod_lt _ hn4.1) hn4.2
  have c1 : ¬ C (w p) := hc _ (by unfold PC; omega)
  have c2 : ¬ C (w la) := hc _ (by unfold PC; omega)
  have c3 : ¬ C (w ke) := hc _ (by unfold PC; omega)
  refine ⟨⟨(hs.wt h1 c1).trans a1, (hs.wt h4 c2).trans a2, (hs.wt h6 c3).trans a3⟩, hs.at h1 c1, ⟨hn, h2, h3⟩, ⟨fa, hs.at h4 c2, h5⟩, hs.at h6 c3, h7.sa hs (hc _ (by unfold PC; omega)) (hc _ (by unfold PC; omega)), fun j q hj hq => ?_, fun j s hj => ?_⟩
  · obtain ⟨y, hy⟩ := h8 j q hj hq
    exact ⟨y, hy.sa hs (hc _ (by unfold PC; omega)) (hc _ (by unfold PC; omega))⟩
  · obtain ⟨q, y, e1, e2, e3⟩ := h9 j s hj
    have := hm j
    exact ⟨q, y, e1, e2.sa hs (hc _ (by unfold PC; omega)) (hc _ (by unfold PC; omega)), e3⟩
theorem PT.sa (h : PT σ w c p P) (hs : Sa C σ w σ1 w1) (hc : ∀ k, PC c k → ¬ C k) : PT σ1 w1 c p P := by
  obtain ⟨la, be, ke, fk, n, ib, bn, fs, x, h1, h2⟩ := h
  exact ⟨la, be, ke, fk, n, ib, bn, fs, x, h1.sa hs hc, h2⟩
theorem PTx.rcv {as : List Value} (h : PTx σ w c p P la be ke fk n ib bn fs x) : ae_rcv σ (some 5) (.ref p :: as) = true := e_rcv h.2.1
/-- the port's own cell is set -/
theorem PTx.put {ib' bn' : Int32} (h : PTx σ w c p P la be ke fk n ib bn fs x) (e1 : pqu P' = pqu P) (e2 : pla P' = pla P) (e3 : pks P' = pks P) : PTx (σ.1, σ.2.set p (PtC P' la be ke fk ib' bn')) w c p P' la be ke fk n ib' bn' fs x ∧ Sa (fun k => k = c) σ w (σ.1, σ.2.set p (PtC P' la be ke fk ib' bn')) w := by
  obtain ⟨⟨a1, a2, a3⟩, h1, ⟨hn, h2, h3⟩, ⟨fa, h4, h5⟩, h6, h7, h8, h9⟩ := h
  have s := Sa.set (σ := σ) (w := w) (p := p) (y := PtC P' la be ke fk ib' bn')
  rw [a1] at s
  refine ⟨⟨⟨a1, a2, a3⟩, st_get h1, ⟨by rw [e1]; exact hn, h2, by rw [e3]; exact h3⟩, ⟨fa, s.at h4 (by omega), by rw [e2]; exact h5⟩, s.at h6 (by omega), h7.sa s (by omega) (by omega), fun j q hj hq => ?_, fun j s' hj => ?_⟩, s⟩
  · obtain ⟨y, hy⟩ := h8 j q hj hq
    exact ⟨y, hy.sa s (by omega) (by omega)⟩
  · rw [e3] at hj
    obtain ⟨q, y, z1, z2, z3⟩ := h9 j s' hj
    exact ⟨q, y, z1, z2.sa s (by omega) (by omega), z3⟩
def pl1 (P : AP) (nt : Nat) (s : Int32) : AP := (P.1, upd (pla P) nt s, P.2.2)
def ptk (P : AP) (s tm : Int32) : AP := (P.1, P.2.1, (s, tm), P.2.2.2)
/-- what came last is told -/
theorem PTx.last {nt : Nat} {s : Int32} {fa : Nat → Int32} (h : PTx σ w c p P la be ke fk n ib bn fs x) (hn2 : nt < 2) (ha : σ.2[la]? = some (.inl (0, 2, .inl fa))) : PTx (σ.1, σ.2.set la (.inl (0, 2, .inl (upd fa nt s)))) w c p (pl1 P nt s) la be ke fk n ib bn fs x ∧ Sa (fun k => k = c + 1) σ w (σ.1, σ.2.set la (.inl (0, 2, .inl (upd fa nt s)))) w := by
  obtain ⟨⟨a1, a2, a3⟩, h1, ⟨hn, h2, h3⟩, ⟨fa', h4, h5⟩, h6, h7, h8, h9⟩ := h
  rw [ha] at h4
  injection h4 with h4
  injection h4 with h4
  injection h4 with h4 h4'
  injection h4' with h4 h4'
  injection h4' with h4
  subst h4
  have s' := Sa.set (σ := σ) (w := w) (p := la) (y := .inl (0, 2, .inl (upd fa nt s)))
  rw [a2] at s'
  refine ⟨⟨⟨a1, a2, a3⟩, s'.at h1 (by omega), ⟨hn, h2, h3⟩, ⟨_, st_get ha, ?_⟩, s'.at h6 (by omega), h7.sa s' (by omega) (by omega), fun j q hj hq => ?_, fun j s2 hj => ?_⟩, s'⟩
  · show upd fa nt s 0 = upd (pla P) nt s 0 ∧ upd fa nt s 1 = upd (pla P) nt s 1
    unfold upd
    rw [h5.1, h5.2]
    exact ⟨rfl, rfl⟩
  · obtain ⟨y, hy⟩ := h8 j q hj hq
    exact ⟨y, hy.sa s' (by omega) (by omega)⟩
  · obtain ⟨q, y, z1, z2, z3⟩ := h9 j s2 hj
    exact ⟨q, y, z1, z2.sa s' (by omega) (by omega), z3⟩
theorem c_44z {nt : Nat} {i s : Int32} (ei : i = nI nt) (h : PTx σ w c p P la be ke fk n ib bn fs x) (hn2 : nt < 2) : hE ra (d + 3) 44 [.ref p, .int i, .int s, .int tm] σ (pI (fun σ' v => Sa (PC c) σ w σ' w ∧ ((v = 8 ∧ ¬ ior s (pla P nt) ∧ PTx σ' w c p (pl1 P nt s) la be ke fk n ib bn fs x) ∨ (v = 9 ∧ ior s (pla P nt) ∧ ¬ tbt (pts P) (pta P) (psk P) s tm ∧ PTx σ' w c p (pl1 P nt s) la be ke fk n ib bn fs x) ∨ (v = -1 ∧ ior s (pla P nt) ∧ tbt (pts P) (pta P) (psk P) s tm ∧ PTx σ' w c p (ptk (pl1 P nt s) s tm) la be ke fk n ib bn fs x)))) := by
  subst ei
  have h' := h
  obtain ⟨-, h1, -, ⟨fa, h4, h5⟩, -⟩ := h'
  have hin : ¬ (nI nt < 0 ∨ 2 ≤ (nI nt).toNatClampNeg) := nI_in hn2 (by decide)
  have en : (nI nt).toNatClampNeg = nt := nI_clamp (by omega)
  have efa : fa (nI nt).toNatClampNeg = pla P nt := by
    rw [en]
    rcases (show nt = 0 ∨ nt = 1 by omega) with z | z <;> rw [z]
    · exact h5.1
    · exact h5.2
  refine h_in rfl rfl (Nat.le_of_ble_eq_true rfl) ?_
  refine h_st rfl rfl ?_
  refine h_st rfl (e_get h1 rfl) ?_
  refine h_st rfl rfl ?_
  refine h_st rfl ((e_ia h4 hin).trans (by rw [efa])) ?_
  refine h_st rfl rfl ?_
  refine h_st rfl rfl ?_
  refine h_st rfl (e_get h1 rfl) ?_
  refine h_st rfl rfl ?_
  refine h_st rfl rfl ?_
  refine h_st rfl ((e_ias h4 hin).trans (by rw [en])) ?_
  obtain ⟨g, s1⟩ := h.last (s := s) hn2 h4
  generalize ((σ.1, σ.2.set la (.inl (0, 2, .inl (upd fa nt s)))) : ae_S) = σ1 at g s1
  have m1 : Sa (PC c) σ w σ1 w := s1.mono (fun k z => by unfold PC; omega)
  refine h_st rfl rfl ?_
  refine h_st rfl rfl ?_
  refine h_ci2 rfl (Nat.le_of_ble_eq_true rfl) rfl rfl (c_45z s (pla P nt)) (fun σ' y hy => ?_)
  obtain ⟨rfl, hy⟩ := hy
  refine h_st rfl rfl ?_
  refine h_br (fun q => ?_) (fun q => ?_)
  · refine h_st rfl rfl ?_
    refine h_st rfl rfl ?_
    refine h_st rfl rfl ?_
    refine h_ci3 rfl (Nat.le_of_ble_eq_true rfl) (e_rcv (g.2.1)) rfl (c_46z g.2.1 s tm) (fun σ' y2 hy2 => ?_)
    obtain ⟨rfl, hy2⟩ := hy2
    refine h_st rfl rfl ?_
    refine h_br (fun q2 => ?_) (fun q2 => ?_)
    · refine h_st rfl rfl ?_
      refine h_st rfl rfl ?_
      refine h_st rfl (e_put g.2.1 rfl (Nat.le_of_ble_eq_true rfl)) ?_
      refine h_st rfl rfl ?_
      refine h_st rfl rfl ?_
      refine h_st rfl (e_put (st_get g.2.1) rfl (Nat.le_of_ble_eq_true rfl)) ?_
      refine hG_eq (σ1 := (σ'.1, σ'.2.set p (PtC (ptk (pl1 P nt s) s tm) la be ke fk ib bn))) (Prod.ext rfl (List.set_set ..)) ?_
      obtain ⟨g2, s2⟩ := g.put (P' := ptk (pl1 P nt s) s tm) (ib' := ib) (bn' := bn) rfl rfl rfl
      refine h_st rfl rfl ?_
      exact h_rt rfl rfl (⟨_, _, rfl, m1.trans (s2.mono (fun k z => by unfold PC; omega)), Or.inr (Or.inr ⟨rfl, b_2 hy q, b_2 hy2 q2, g2⟩)⟩)
    · refine h_st rfl rfl ?_
      exact h_rt rfl rfl (⟨_, _, rfl, m1, Or.inr (Or.inl ⟨rfl, b_2 hy q, hy2.elim (fun z => absurd (z.1.symm.trans (Decidable.of_not_not q2)) (by decide)) (fun z => z.2), g⟩)⟩)
  · refine h_st rfl rfl ?_
    exact h_rt rfl rfl (⟨_, _, rfl, m1, Or.inl ⟨rfl, hy.elim (fun z => absurd (z.1.symm.trans (Decidable.of_not_not q)) (by decide)) (fun z => z.2), g⟩⟩)
end SX10
