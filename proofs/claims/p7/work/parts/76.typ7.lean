section TY7
variable {ra : ae_R} {d : Nat} {σ σ0 : ae_S} {p : Nat} {K K0 : Nat → Nat} {b : Bool} {s t : Nat}
theorem c_93 (hT : Ty σ K) (hp : K p = 23) : hE ra (d + 1) 93 [.ref p] σ (pR (fun σ' q => (∀ r, q = some r → K r = 7) ∧ Ex b 0 0 K σ K σ')) := by
  have hx := Ex.refl (b := b) hT
  obtain ⟨n, z, sk, la, ts, ta, ib, bn, be, ke, fk, kc, ca, hc, hzn, hla, hbe, hke⟩ := hT.k23 hp
  have hn16 : n ≤ 16 := by omega
  obtain ⟨f, hs, hf⟩ := hT.kD hn16 hke
  have hin : ¬ (nI fk < 0 ∨ n ≤ (nI fk).toNatClampNeg) := nI_in hzn.2.1 (by omega)
  have ej : (nI fk).toNatClampNeg = fk := nI_clamp (by omega)
  have er : nI fk + 1 - (nI fk + 1) / 4 * 4 = nI ((fk + 1) % 4) := by rw [nI_1]; exact pk_rem (a := fk + 1) (d := 4) (by omega) (by decide) (by decide)
  have hlt : (fk + 1) % 4 < 4 := Nat.mod_lt _ (by decide)
  cases hv : f (nI fk).toNatClampNeg with
  | none =>
    refine h_in rfl rfl (Nat.le_of_ble_eq_true rfl) ?_
    refine h_st rfl rfl ?_
    refine h_st rfl (e_get hc rfl) ?_
    refine h_st rfl rfl ?_
    refine h_br (fun q1 => ?_) (fun q1 => ?_)
    · refine h_st rfl rfl ?_
      refine h_st rfl (e_get hc rfl) ?_
      refine h_st rfl rfl ?_
      refine h_st rfl (e_get hc rfl) ?_
      refine h_st rfl ((e_aa hs (by decide) hin).trans (by rw [hv])) ?_
      refine h_st rfl rfl ?_
      refine h_st rfl rfl ?_
      refine h_st rfl (e_get hc rfl) ?_
      refine h_st rfl rfl ?_
      refine h_br (fun q2 => ?_) (fun q2 => ?_)
      · refine h_st rfl rfl ?_
        exact h_rt rfl rfl (⟨_, none, rfl, (fun r hr => by cases hr), hx⟩)
      · obtain ⟨z1, rfl⟩ : z = 1 ∧ n = 4 := hzn.1.elim id (fun v => absurd v.1 q2)
        obtain ⟨k', rfl⟩ : ∃ k', kc = k' + 1 := ⟨kc - 1, by cases kc with | zero => exact absurd nI_0 q1 | succ m => rfl⟩
        refine h_st rfl rfl ?_
        refine h_st rfl rfl ?_
        refine h_st rfl (e_get hc rfl) ?_
        refine h_st rfl rfl ?_
        refine h_st rfl rfl ?_
        refine y_putI (nI_pred k') rfl hx hc hp (by omega) (ncs (by omega)) (rfl) (Nat.le_of_ble_eq_true rfl) (ok_23 ⟨_, _, _, _, _, _, _, _, _, _, _, _, _, rfl, ⟨hzn.1, hzn.2.1, by omega⟩, hla, hbe, hke⟩) (fun σ2 hx2 g2 ho => ?_)
        replace hc := g2
        clear g2 ho
        replace hx := hx2
        clear hx2
        refine h_st rfl rfl ?_
        refine h_st rfl rfl ?_
        refine h_st rfl (e_get hc rfl) ?_
        refine h_st rfl rfl ?_
        refine h_st rfl rfl ?_
        refine h_st rfl rfl ?_
        refine h_st rfl (e_dv (by decide)) ?_
        refine y_putI (er) rfl hx hc hp (by omega) (ncs (by omega)) (rfl) (Nat.le_of_ble_eq_true rfl) (ok_23 ⟨_, _, _, _, _, _, _, _, _, _, _, _, _, rfl, ⟨hzn.1, hlt, by omega⟩, hla, hbe, hke⟩) (fun σ2 hx2 g2 ho => ?_)
        replace hc := g2
        clear g2 ho
        replace hx := hx2
        clear hx2
        refine h_st rfl rfl ?_
        exact h_rt rfl rfl (⟨_, none, rfl, (fun r hr => by cases hr), hx⟩)
    · refine h_st rfl rfl ?_
      exact h_rt rfl rfl (⟨_, none, rfl, (fun r hr => by cases hr), hx⟩)
  | some r0 =>
    refine h_in rfl rfl (Nat.le_of_ble_eq_true rfl) ?_
    refine h_st rfl rfl ?_
    refine h_st rfl (e_get hc rfl) ?_
    refine h_st rfl rfl ?_
    refine h_br (fun q1 => ?_) (fun q1 => ?_)
    · refine h_st rfl rfl ?_
      refine h_st rfl (e_get hc rfl) ?_
      refine h_st rfl rfl ?_
      refine h_st rfl (e_get hc rfl) ?_
      refine h_st rfl ((e_aa hs (by decide) hin).trans (by rw [hv])) ?_
      refine h_st rfl rfl ?_
      refine h_st rfl rfl ?_
      refine h_st rfl (e_get hc rfl) ?_
      refine h_st rfl rfl ?_
      refine h_br (fun q2 => ?_) (fun q2 => ?_)
      · refine h_st rfl rfl ?_
        exact h_rt rfl rfl (⟨_, some r0, rfl, (fun r hr => by cases hr; exact hf fk r0 hzn.2.1 (by rw [← ej]; exact hv)), hx⟩)
      · obtain ⟨z1, rfl⟩ : z = 1 ∧ n = 4 := hzn.1.elim id (fun v => absurd v.1 q2)
        obtain ⟨k', rfl⟩ : ∃ k', kc = k' + 1 := ⟨kc - 1, by cases kc with | zero => exact absurd nI_0 q1 | succ m => rfl⟩
        refine h_st rfl rfl ?_
        refine h_st rfl rfl ?_
        refine h_st rfl (e_get hc rfl) ?_
        refine h_st rfl rfl ?_
        refine h_st rfl rfl ?_
        refine y_putI (nI_pred k') rfl hx hc hp (by omega) (ncs (by omega)) (rfl) (Nat.le_of_ble_eq_true rfl) (ok_23 ⟨_, _, _, _, _, _, _, _, _, _, _, _, _, rfl, ⟨hzn.1, hzn.2.1, by omega⟩, hla, hbe, hke⟩) (fun σ2 hx2 g2 ho => ?_)
        replace hc := g2
        clear g2 ho
        replace hx := hx2
        clear hx2
        refine h_st rfl rfl ?_
        refine h_st rfl rfl ?_
        refine h_st rfl (e_get hc rfl) ?_
        refine h_st rfl rfl ?_
        refine h_st rfl rfl ?_
        refine h_st rfl rfl ?_
        refine h_st rfl (e_dv (by decide)) ?_
        refine y_putI (er) rfl hx hc hp (by omega) (ncs (by omega)) (rfl) (Nat.le_of_ble_eq_true rfl) (ok_23 ⟨_, _, _, _, _, _, _, _, _, _, _, _, _, rfl, ⟨hzn.1, hlt, by omega⟩, hla, hbe, hke⟩) (fun σ2 hx2 g2 ho => ?_)
        replace hc := g2
        clear g2 ho
        replace hx := hx2
        clear hx2
        refine h_st rfl rfl ?_
        exact h_rt rfl rfl (⟨_, some r0, rfl, (fun r hr => by cases hr; exact hf fk r0 hzn.2.1 (by rw [← ej]; exact hv)), hx⟩)
    · refine h_st rfl rfl ?_
      exact h_rt rfl rfl (⟨_, none, rfl, (fun r hr => by cases hr), hx⟩)
theorem DR.same {σ' : ae_S} {pb k : Nat} (h : DR σ p pb k) (e1 : σ'.2[p]? = σ.2[p]?) (e2 : σ'.2[pb]? = σ.2[pb]?) : DR σ' p pb k := by
  obtain ⟨h1, h2, f, h3, h4⟩ := h
  exact ⟨e1.trans h1, h2, f, e2.trans h3, h4⟩
theorem c_47c {n fr : Nat} {z sk ts ta ib bn ca tm x3 x4 : Int32} {la be ke fk kc : Nat} {x5 : Option Value} (hx : Ex b 0 0 K0 σ0 K σ) (hp : K p = 23) (hfr : K fr = 5) (hc : σ.2[p]? = some (.inr (5, [.int z, .int sk, .ref la, .int ts, .int ta, .int ib, .int bn, .ref be, .ref ke, .int (nI fk), .int (nI kc), .int ca]))) (hzn : ((z = 1 ∧ n = 4) ∨ (z = 0 ∧ n = 1)) ∧ fk < n ∧ kc ≤ n) (hla : K la = 20) (hbe : K be = 7) (hke : K ke = 300 + n) : hG ra (d + 2) 47 σ [some (.ref p), some (.ref fr), some (.int tm), some (.int x3), some (.int x4), x5] [] 105 (pI (fun σ' v => (∃ K', Ex b 0 0 K0 σ0 K' σ') ∧ (v = -1 ∨ ∃ r, v = nI r ∧ r < 12))) := by
  obtain ⟨bb, bk, hD, hb8⟩ := hx.ty.dr hbe
  obtain ⟨fb, fk', hF, hfb⟩ := hx.ty.fr hfr
  refine h_st rfl rfl ?_
  refine h_st rfl (e_get hc rfl) ?_
  refine h_st rfl rfl ?_
  refine h_st rfl rfl ?_
  refine h_cv3 rfl (Nat.le_of_ble_eq_true rfl) (e_rcv hD.1) rfl (c_50 hD hF (kne hfr hbe (by decide)) (kne hfr hb8 (by decide)) (kne hfb hbe (by decide)) (kne hfb hb8 (by decide))) (fun σ2 hq => ?_)
  obtain ⟨k2, hD2, o2⟩ := hq
  replace hx := hx.opD hbe hb8 hD hD2 o2
  replace hc := (o2.2.2 p (kne hp hbe (by decide)) (kne hp hb8 (by decide))).trans hc
  replace hF := hF.same (o2.2.2 _ (kne hfr hbe (by decide)) (kne hfr hb8 (by decide))) (o2.2.2 _ (kne hfb hbe (by decide)) (kne hfb hb8 (by decide)))
  refine h_st rfl rfl ?_
  refine h_ci1 rfl (Nat.le_of_ble_eq_true rfl) (e_rcv hF.1) rfl (c_51 hF) (fun σ' y hy => ?_)
  subst hy
  refine h_st rfl rfl ?_
  refine h_br (fun q1 => ?_) (fun q1 => ?_)
  · refine h_st rfl rfl ?_
    refine h_st rfl rfl ?_
    refine y_put rfl hx hc hp (by omega) (ncs (by omega)) (rfl) (Nat.le_of_ble_eq_true rfl) (ok_23 ⟨_, _, _, _, _, _, _, _, _, _, _, _, _, rfl, hzn, hla, hbe, hke⟩) (fun σ2 hx2 g2 ho => ?_)
    replace hD2 := hD2.same (ho _ (kne hbe hp (by decide))) (ho _ (kne hb8 hp (by decide)))
    replace hc := g2
    clear g2 ho
    replace hx := hx2
    clear hx2
    refine h_st rfl rfl ?_
    refine h_st rfl (e_get hc rfl) ?_
    refine h_ci1 rfl (Nat.le_of_ble_eq_true rfl) (e_rcv hD2.1) rfl (c_52 hD2) (fun σ' y hy => ?_)
    subst hy
    refine h_st rfl rfl ?_
    refine h_br (fun q2 => ?_) (fun q2 => ?_)
    · refine h_st rfl rfl ?_
      exact h_rt rfl rfl (⟨_, _, rfl, ⟨K, hx⟩, Or.inr ⟨10, rfl, by decide⟩⟩)
    · refine h_st rfl rfl ?_
      refine h_st rfl rfl ?_
      refine h_ci2 rfl (Nat.le_of_ble_eq_true rfl) (e_rcv hc) rfl (c_54 (b := b) hx.ty hp _) (fun σ3 v hv => ?_)
      obtain ⟨⟨K3, e3⟩, hv⟩ := hv
      refine h_st rfl rfl ?_
      exact h_rt rfl rfl (⟨_, _, rfl, ⟨K3, hx.trans e3⟩, hv⟩)
  · refine h_st rfl rfl ?_
    exact h_rt rfl rfl (⟨_, _, rfl, ⟨K, hx⟩, Or.inl rfl⟩)
theorem c_47b {n fr : Nat} {z sk ts ta ib bn ca tm x3 x4 : Int32} {la be ke fk kc : Nat} {v5 : Int32} (hx : Ex b 0 0 K0 σ0 K σ) (hp : K p = 23) (hfr : K fr = 5) (hc : σ.2[p]? = some (.inr (5, [.int z, .int sk, .ref la, .int ts, .int ta, .int ib, .int bn, .ref be, .ref ke, .int (nI fk), .int (nI kc), .int ca]))) (hzn : ((z = 1 ∧ n = 4) ∨ (z = 0 ∧ n = 1)) ∧ fk < n ∧ kc ≤ n) (hla : K la = 20) (hbe : K be = 7) (hke : K ke = 300 + n) : hG ra (d + 2) 47 σ [some (.ref p), some (.ref fr), some (.int tm), some (.int x3), some (.int x4), some (.int v5)] [] 51 (pI (fun σ' v => (∃ K', Ex b 0 0 K0 σ0 K' σ') ∧ (v = -1 ∨ ∃ r, v = nI r ∧ r < 12))) := by
  obtain ⟨bb, bk, hD, hb8⟩ := hx.ty.dr hbe
  have hdc := hD.1
  have hne := kne hbe hp (by decide)
  have hgo : ∀ σ, Ex b 0 0 K0 σ0 K σ → σ.2[p]? = some (.inr (5, [.int z, .int sk, .ref la, .int ts, .int ta, .int 1, .int bn, .ref be, .ref ke, .int (nI fk), .int (nI kc), .int ca])) → σ.2[be]? = some (.inr (0, [.ref bb, .int (nI bk)])) → hG ra (d + 2) 47 σ [some (.ref p), some (.ref fr), some (.int tm), some (.int x3), some (.int x4), some (.int v5)] [] 85 (pI (fun σ' v => (∃ K', Ex b 0 0 K0 σ0 K' σ') ∧ (v = -1 ∨ ∃ r, v = nI r ∧ r < 12))) := by
    intro σ hx hc hdc
    obtain ⟨fb, fk', hF, hfb⟩ := hx.ty.fr hfr
    refine h_st rfl rfl ?_
    refine h_st rfl rfl ?_
    refine h_br (fun q => ?_) (fun q => ?_)
    · exact c_47c hx hp hfr hc hzn hla hbe hke
    · refine h_st rfl rfl ?_
      refine h_st rfl (e_get hc rfl) ?_
      refine h_st rfl rfl ?_
      refine y_put rfl hx hdc hbe (by omega) (ncs (by omega)) (rfl) (Nat.le_of_ble_eq_true rfl) (ok_7 ⟨bb, 0, rfl, by omega, hb8⟩) (fun σ2 hx2 g2 ho => ?_)
      replace hc := (ho p (Ne.symm hne)).trans hc
      replace hF := hF.same (ho _ (kne hfr hbe (by decide))) (ho _ (kne hfb hbe (by decide)))
      replace hdc := g2
      clear g2 ho
      replace hx := hx2
      clear hx2
      refine h_st rfl rfl ?_
      refine h_st rfl rfl ?_
      refine h_ci1 rfl (Nat.le_of_ble_eq_true rfl) (e_rcv hF.1) rfl (c_49 hF) (fun σ' y hy => ?_)
      subst hy
      refine y_put rfl hx hc hp (by omega) (ncs (by omega)) (rfl) (Nat.le_of_ble_eq_true rfl) (ok_23 ⟨_, _, _, _, _, _, _, _, _, _, _, _, _, rfl, hzn, hla, hbe, hke⟩) (fun σ2 hx2 g2 ho => ?_)
      replace hc := g2
      clear g2 ho
      replace hx := hx2
      clear hx2
      exact c_47c hx hp hfr hc hzn hla hbe hke
  refine h_st rfl rfl ?_
  refine h_st rfl rfl ?_
  refine h_st rfl rfl ?_
  refine h_br (fun q1 => ?_) (fun q1 => ?_)
  · refine h_st rfl rfl ?_
    refine y_put rfl hx hc hp (by omega) (ncs (by omega)) (rfl) (Nat.le_of_ble_eq_true rfl) (ok_23 ⟨_, _, _, _, _, _, _, _, _, _, _, _, _, rfl, hzn, hla, hbe, hke⟩) (fun σ2 hx2 g2 ho => ?_)
    replace hc := g2
    clear g2 ho
    replace hx := hx2
    clear hx2
    refine h_st rfl rfl ?_
    refine h_st rfl (e_get hc rfl) ?_
    refine h_st rfl rfl ?_
    refine h_pc (if_neg (by decide)) ?_
    refine h_st rfl rfl ?_
    exact h_rt rfl rfl (⟨_, _, rfl, ⟨K, hx⟩, Or.inr ⟨10, rfl, by decide⟩⟩)
  · refine h_st rfl rfl ?_
    refine h_st rfl rfl ?_
    refine h_st rfl rfl ?_
    refine h_st rfl rfl ?_
    refine h_st rfl rfl ?_
    refine h_br (fun q2 => ?_) (fun q2 => ?_)
    · refine h_st rfl rfl ?_
      refine y_put rfl hx hc hp (by omega) (ncs (by omega)) (rfl) (Nat.le_of_ble_eq_true rfl) (ok_23 ⟨_, _, _, _, _, _, _, _, _, _, _, _, _, rfl, hzn, hla, hbe, hke⟩) (fun σ2 hx2 g2 ho => ?_)
      replace hc := g2
      clear g2 ho
      replace hx := hx2
      clear hx2
      refine h_st rfl rfl ?_
      refine h_st rfl (e_get hc rfl) ?_
      refine h_st rfl rfl ?_
      refine h_pc (if_neg (by decide)) ?_
      refine h_st rfl rfl ?_
      exact h_rt rfl rfl (⟨_, _, rfl, ⟨K, hx⟩, Or.inr ⟨10, rfl, by decide⟩⟩)
    · refine h_st rfl rfl ?_
      refine h_st rfl rfl ?_
      refine y_put rfl hx hc hp (by omega) (ncs (by omega)) (rfl) (Nat.le_of_ble_eq_true rfl) (ok_23 ⟨_, _, _, _, _, _, _, _, _, _, _, _, _, rfl, hzn, hla, hbe, hke⟩) (fun σ2 hx2 g2 ho => ?_)
      replace hdc := (ho be hne).trans hdc
      replace hc := g2
      clear g2 ho
      replace hx := hx2
      clear hx2
      refine h_st rfl rfl ?_
      refine h_st rfl (e_get hc rfl) ?_
      refine h_st rfl rfl ?_
      refine h_pc (if_pos (by decide)) ?_
      exact hgo _ hx hc hdc
theorem c_47 {fr : Nat} (hT : Ty σ K) (hp : K p = 23) (hfr : K fr = 5) (tm : Int32) : hE ra (d + 3) 47 [.ref p, .ref fr, .int tm] σ (pI (fun σ' v => (∃ K', Ex b 0 0 K σ K' σ') ∧ (v = -1 ∨ ∃ r, v = nI r ∧ r < 12))) := by
  have hx := Ex.refl (b := b) hT
  obtain ⟨n, z, sk, la, ts, ta, ib, bn, be, ke, fk, kc, ca, hc, hzn, hla, hbe, hke⟩ := hT.k23 hp
  obtain ⟨fb, fk', hF, hfb⟩ := hT.fr hfr
  obtain ⟨bb, bk, hD, hb8⟩ := hT.dr hbe
  refine h_in rfl rfl (Nat.le_of_ble_eq_true rfl) ?_
  refine h_st rfl rfl ?_
  refine h_ci1 rfl (Nat.le_of_ble_eq_true rfl) (e_rcv hF.1) rfl (c_48 hF) (fun σ' y hy => ?_)
  subst hy
  refine h_st rfl rfl ?_
  refine h_st rfl rfl ?_
  refine h_ci1 rfl (Nat.le_of_ble_eq_true rfl) (e_rcv hF.1) rfl (c_42 hF) (fun σ' y hy => ?_)
  subst hy
  refine h_st rfl rfl ?_
  refine h_st rfl rfl ?_
  refine h_st rfl rfl ?_
  refine h_br (fun q1 => ?_) (fun q1 => ?_)
  · refine h_st rfl rfl ?_
    refine h_st rfl rfl ?_
    refine h_st rfl rfl ?_
    exact c_47b hx hp hfr hc hzn hla hbe hke
  · refine h_st rfl rfl ?_
    refine h_st rfl (e_get hc rfl) ?_
    refine h_st rfl rfl ?_
    refine h_br (fun q2 => ?_) (fun q2 => ?_)
    · refine h_st rfl rfl ?_
      refine h_st rfl rfl ?_
      exact c_47b hx hp hfr hc hzn hla hbe hke
    · refine h_st rfl rfl ?_
      refine h_ci1 rfl (Nat.le_of_ble_eq_true rfl) (e_rcv hF.1) rfl (c_49 hF) (fun σ' y hy => ?_)
      subst hy
      refine h_st rfl rfl ?_
      refine h_st rfl (e_get hc rfl) ?_
      refine h_st rfl rfl ?_
      refine h_br (fun q3 => ?_) (fun q3 => ?_)
      · refine h_st rfl rfl ?_
        refine h_st rfl rfl ?_
        exact c_47b hx hp hfr hc hzn hla hbe hke
      · refine h_st rfl rfl ?_
        refine h_st rfl rfl ?_
        refine h_st rfl (e_get hc rfl) ?_
        refine h_st rfl (e_get hD.1 rfl) ?_
        refine h_st rfl rfl ?_
        refine h_br (fun q4 => ?_) (fun q4 => ?_)
        · refine h_st rfl rfl ?_
          refine h_st rfl rfl ?_
          exact c_47b hx hp hfr hc hzn hla hbe hke
        · refine h_st rfl rfl ?_
          refine h_st rfl rfl ?_
          refine h_st rfl rfl ?_
          exact c_47b hx hp hfr hc hzn hla hbe hke
def S0 (K : Nat → Nat) : Prop := K 0 = 1 ∧ K 1 = 2 ∧ K 2 = 3 ∧ K 3 = 4 ∧ K 4 = 5 ∧ K 6 = 7
theorem Ex.s0 {K' : Nat → Nat} {σ' : ae_S} (h : Ex b s t K σ K' σ') (hS : S0 K) : S0 K' := ⟨h.kd hS.1 (by decide), h.kd hS.2.1 (by decide), h.kd hS.2.2.1 (by decide), h.kd hS.2.2.2.1 (by decide), h.kd hS.2.2.2.2.1 (by decide), h.kd hS.2.2.2.2.2 (by decide)⟩
theorem c_37t (hT : Ty σ K) (hS : S0 K) (l : Int32) : hE ra (d + 2) 37 [.ref 0, .int l] σ (pR (fun σ' q => σ' = σ ∧ ((q = none ∧ ¬ (¬ l < 0 ∧ ¬ 8 ≤ l)) ∨ ∃ j f, j < 8 ∧ l = nI j ∧ σ.2[1]? = some (.inl (4, rfs 8 f)) ∧ q = f j ∧ ∀ r, q = some r → K r = 18))) := by
  obtain ⟨tm, h0⟩ := hT.k1 hS.1
  obtain ⟨f, hs, hf⟩ := hT.k2 hS.2.1
  refine h_in rfl rfl (Nat.le_of_ble_eq_true rfl) ?_
  refine h_st rfl rfl ?_
  refine h_ci1 rfl (Nat.le_of_ble_eq_true rfl) rfl rfl (s_38 l) (fun σ' b1 hq => ?_)
  obtain ⟨rfl, hb1⟩ := hq
  refine h_st rfl rfl ?_
  refine h_br (fun q1 => ?_) (fun q1 => ?_)
  · refine h_st rfl rfl ?_
    exact h_rt rfl rfl (⟨_, none, rfl, rfl, Or.inl ⟨rfl, fun z => absurd q1 (b_1 hb1 z)⟩⟩)
  · obtain ⟨j, hj, rfl⟩ := i_ix (n := 8) (by decide) (b_2 hb1 q1).1 (b_2 hb1 q1).2
    refine h_st rfl rfl ?_
    refine h_st rfl (e_get h0 rfl) ?_
    refine h_st rfl rfl ?_
    refine h_st rfl (e_aa hs (by decide) (nI_in hj (by decide))) ?_
    refine h_st rfl rfl ?_
    exact h_rt rfl (k_rv _) (⟨_, f (nI j).toNatClampNeg, rfl, rfl, Or.inr ⟨j, f, hj, rfl, hs, by rw [nI_clamp (by omega)], fun r hr => hf j r hj (by rw [nI_clamp (by omega)] at hr; exact hr)⟩⟩)
theorem c_37k {l : Int32} {q : Option Nat} {A : Prop} (h : (q = none ∧ A) ∨ ∃ j f, j < 8 ∧ l = nI j ∧ σ.2[1]? = some (.inl (4, rfs 8 f)) ∧ q = f j ∧ ∀ r, q = some r → K r = 18) : ∀ r, q = some r → K r = 18 := by
  intro r hr
  rcases h with ⟨rfl, _⟩ | ⟨j, f, _, _, _, _, h⟩
  · cases hr
  · exact h r hr
theorem c_65t (hT : Ty σ K) (hS : S0 K) (e l : Int32) : hE ra (d + 3) 65 [.ref 0, .int e, .int l] σ (pR (fun σ' q => σ' = σ ∧ ∀ r, q = some r → K r = 23)) := by
  have hx := Ex.refl (b := true) hT
  refine h_in rfl rfl (Nat.le_of_ble_eq_true rfl) ?_
  refine h_st rfl rfl ?_
  refine h_st rfl rfl ?_
  refine h_cr2 rfl (Nat.le_of_ble_eq_true rfl) (rcv1 hx.ty hS.1) rfl (c_37t hx.ty hS l) (fun σ' q9 hq => ?_)
  obtain ⟨rfl, hq⟩ := hq
  have hK := c_37k hq
  rcases q9 with _ | r
  · refine h_st rfl rfl ?_
    refine h_st rfl rfl ?_
    refine h_st rfl rfl ?_
    refine h_st rfl rfl ?_
    refine h_st rfl rfl ?_
    exact h_rt rfl rfl (⟨_, none, rfl, rfl, fun r hr => by cases hr⟩)
  · have hKr := hK r rfl
    refine h_st rfl rfl ?_
    refine h_st rfl rfl ?_
    refine h_st rfl rfl ?_
    refine h_st rfl rfl ?_
    refine h_st rfl rfl ?_
    refine h_cr2 rfl (Nat.le_of_ble_eq_true rfl) (rcv18 hx.ty hKr) rfl (c_39 hx.ty hKr e) (fun σ' q8 hq8 => ?_)
    obtain ⟨rfl, hq8⟩ := hq8
    exact h_rt rfl (k_rv _) (⟨_, q8, rfl, rfl, hq8⟩)
theorem c_26t (hT : Ty σ K) (hS : S0 K) (n l : Int32) : hE ra (d + 2) 26 [.ref 0, .int n, .int l] σ (pR (fun σ' q => σ' = σ ∧ ((q = none ∧ ¬ ((¬ n < 0 ∧ ¬ 2 ≤ n) ∧ ¬ l < 0 ∧ ¬ 12 ≤ l)) ∨ (((¬ n < 0 ∧ ¬ 2 ≤ n) ∧ ¬ l < 0 ∧ ¬ 12 ≤ l) ∧ ∃ r, q = some r ∧ K r = 16)))) := by
  obtain ⟨tm, h0⟩ := hT.k1 hS.1
  obtain ⟨f, hs, hf⟩ := hT.k3 hS.2.2.1
  refine h_in rfl rfl (Nat.le_of_ble_eq_true rfl) ?_
  refine h_st rfl rfl ?_
  refine h_ci1 rfl (Nat.le_of_ble_eq_true rfl) rfl rfl (s_27 n) (fun σ' b1 hq => ?_)
  obtain ⟨rfl, hb1⟩ := hq
  refine h_st rfl rfl ?_
  refine h_br (fun q1 => ?_) (fun q1 => ?_)
  · refine h_st rfl rfl ?_
    exact h_rt rfl rfl (⟨_, none, rfl, rfl, Or.inl ⟨rfl, fun z => absurd q1 (b_1 hb1 z.1)⟩⟩)
  · refine h_st rfl rfl ?_
    refine h_st rfl rfl ?_
    refine h_br (fun q2 => ?_) (fun q2 => ?_)
    · refine h_st rfl rfl ?_
      exact h_rt rfl rfl (⟨_, none, rfl, rfl, Or.inl ⟨rfl, fun z => z.2.1 q2⟩⟩)
    · refine h_st rfl rfl ?_
      refine h_st rfl rfl ?_
      refine h_st rfl rfl ?_
      refine h_br (fun q3 => ?_) (fun q3 => ?_)
      · refine h_st rfl rfl ?_
        exact h_rt rfl rfl (⟨_, none, rfl, rfl, Or.inl ⟨rfl, fun z => z.2.2 q3⟩⟩)
      · have hn := b_2 hb1 q1
        obtain ⟨a, ha, ea⟩ := i_ix (n := 2) (by decide) hn.1 hn.2
        obtain ⟨c, hc, ec⟩ := i_ix (n := 12) (by decide) q2 q3
        have hx : n * 12 + l = nI (a * 12 + c) := by rw [ea, ec, show (12 : Int32) = nI 12 from rfl, pk_mul, nI_add]
        have hin : ¬ (n * 12 + l < 0 ∨ 24 ≤ (n * 12 + l).toNatClampNeg) := by rw [hx]; exact nI_in (by omega) (by decide)
        obtain ⟨r, hr, hKr⟩ := hf (a * 12 + c) (by omega)
        have hv : f (n * 12 + l).toNatClampNeg = some r := by rw [hx, nI_clamp (by omega)]; exact hr
        refine h_st rfl rfl ?_
        refine h_st rfl (e_get h0 rfl) ?_
        refine h_st rfl rfl ?_
        refine h_st rfl rfl ?_
        refine h_st rfl rfl ?_
        refine h_st rfl rfl ?_
        refine h_st rfl rfl ?_
        refine h_st rfl ((e_aa hs (by decide) hin).trans (by rw [hv])) ?_
        refine h_st rfl rfl ?_
        exact h_rt rfl rfl (⟨_, some r, rfl, rfl, Or.inr ⟨⟨hn, q2, q3⟩, r, rfl, hKr⟩⟩)
theorem c_63t (hT : Ty σ K) (hS : S0 K) (x : Int32) : hE ra (d + 2) 63 [.ref 0, .int x] σ (pI (fun σ' _ => σ' = σ)) := by
  obtain ⟨tm, h0⟩ := hT.k1 hS.1
  obtain ⟨bb, bk, hD, hb8⟩ := hT.dr hS.2.2.2.2.2
  refine h_in rfl rfl (Nat.le_of_ble_eq_true rfl) ?_
  refine h_st rfl rfl ?_
  refine h_st rfl rfl ?_
  refine h_br (fun q1 => ?_) (fun q1 => ?_)
  · refine h_st rfl rfl ?_
    exact h_rt rfl rfl (⟨_, _, rfl, rfl⟩)
  · refine h_st rfl rfl ?_
    refine h_st rfl rfl ?_
    refine h_st rfl (e_get h0 rfl) ?_
    refine h_st rfl (e_get hD.1 rfl) ?_
    refine h_st rfl rfl ?_
    refine h_st rfl rfl ?_
    refine h_st rfl rfl ?_
    refine h_br (fun q2 => ?_) (fun q2 => ?_)
    · refine h_st rfl rfl ?_
      refine h_st rfl (e_get h0 rfl) ?_
      refine h_st rfl rfl ?_
      refine h_st rfl rfl ?_
      refine h_st rfl rfl ?_
      refine h_ci2 rfl (Nat.le_of_ble_eq_true rfl) (e_rcv hD.1) rfl (c_53 hD _) (fun σ' y hy => ?_)
      subst hy
      exact h_rt rfl rfl (⟨_, _, rfl, rfl⟩)
    · refine h_st rfl rfl ?_
      exact h_rt rfl rfl (⟨_, _, rfl, rfl⟩)
theorem c_64t (hT : Ty σ K) (hS : S0 K) (e l : Int32) : hE ra (d + 4) 64 [.ref 0, .int e, .int l] σ (pI (fun σ' _ => σ' = σ)) := by
  have hx := Ex.refl (b := true) hT
  obtain ⟨tm, h0⟩ := hT.k1 hS.1
  refine h_in rfl rfl (Nat.le_of_ble_eq_true rfl) ?_
  refine h_st rfl rfl ?_
  refine h_st rfl rfl ?_
  refine h_st rfl rfl ?_
  refine h_cr3 rfl (Nat.le_of_ble_eq_true rfl) (rcv1 hx.ty hS.1) rfl (c_65t hx.ty hS _ _) (fun σ' q9 hq => ?_)
  obtain ⟨rfl, hK⟩ := hq
  rcases q9 with _ | r
  · refine h_st rfl rfl ?_
    refine h_st rfl rfl ?_
    refine h_st rfl rfl ?_
    refine h_st rfl rfl ?_
    refine h_st rfl rfl ?_
    exact h_rt rfl rfl (⟨_, _, rfl, rfl⟩)
  · have hKr := hK r rfl
    refine h_st rfl rfl ?_
    refine h_st rfl rfl ?_
    refine h_st rfl rfl ?_
    refine h_st rfl rfl ?_
    refine h_st rfl rfl ?_
    refine h_st rfl (e_get h0 rfl) ?_
    refine h_ci2 rfl (Nat.le_of_ble_eq_true rfl) (rcv23 hx.ty hKr) rfl (c_66 hx.ty hKr _) (fun σ' y hy => ?_)
    subst hy
    exact h_rt rfl rfl (⟨_, _, rfl, rfl⟩)
theorem c_67t (hT : Ty σ K) (hS : S0 K) (n l pl mk : Int32) : hE ra (d + 3) 67 [.ref 0, .int n, .int l, .int pl, .int mk] σ (pI (fun σ' x => Ex b 0 0 K σ K σ' ∧ ((x = 1 ∧ (((¬ n < 0 ∧ ¬ 2 ≤ n) ∧ ¬ l < 0 ∧ ¬ 12 ≤ l) ∧ ¬ mk < 0 ∧ mk ≤ 255)) ∨ (x = 0 ∧ ¬ (((¬ n < 0 ∧ ¬ 2 ≤ n) ∧ ¬ l < 0 ∧ ¬ 12 ≤ l) ∧ ¬ mk < 0 ∧ mk ≤ 255))))) := by
  have hx := Ex.refl (b := b) hT
  refine h_in rfl rfl (Nat.le_of_ble_eq_true rfl) ?_
  refine h_st rfl rfl ?_
  refine h_st rfl rfl ?_
  refine h_st rfl rfl ?_
  refine h_cr3 rfl (Nat.le_of_ble_eq_true rfl) (rcv1 hx.ty hS.1) rfl (c_26t hx.ty hS n l) (fun σ' q9 hq => ?_)
  obtain ⟨rfl, hq⟩ := hq
  rcases hq with ⟨rfl, hq⟩ | ⟨hq, r, rfl, hKr⟩
  · refine h_st rfl rfl ?_
    refine h_st rfl rfl ?_
    refine h_st rfl rfl ?_
    refine h_st rfl rfl ?_
    exact h_rt rfl rfl (⟨_, _, rfl, hx, Or.inr ⟨rfl, fun z => hq z.1⟩⟩)
  · refine h_st rfl rfl ?_
    refine h_st rfl rfl ?_
    refine h_st rfl rfl ?_
    refine h_st rfl rfl ?_
    refine h_st rfl rfl ?_
    refine h_br (fun q1 => ?_) (fun q1 => ?_)
    · refine h_st rfl rfl ?_
      exact h_rt rfl rfl (⟨_, _, rfl, hx, Or.inr ⟨rfl, fun z => z.2.1 q1⟩⟩)
    · refine h_st rfl rfl ?_
      refine h_st rfl rfl ?_
      refine h_st rfl rfl ?_
      refine h_br (fun q2 => ?_) (fun q2 => ?_)
      · refine h_st rfl rfl ?_
        refine h_st rfl rfl ?_
        refine h_st rfl rfl ?_
        refine h_st rfl rfl ?_
        refine h_st rfl rfl ?_
        refine h_cv3 rfl (Nat.le_of_ble_eq_true rfl) (rcv16 hx.ty hKr) rfl (c_68t (b := b) hx.ty hKr _ _) (fun σ3 ex => ?_)
        refine h_st rfl rfl ?_
        exact h_rt rfl rfl (⟨_, _, rfl, hx.trans ex, Or.inl ⟨rfl, hq, q1, q2⟩⟩)
      · refine h_st rfl rfl ?_
        exact h_rt rfl rfl (⟨_, _, rfl, hx, Or.inr ⟨rfl, fun z => q2 z.2.2⟩⟩)
theorem c_70t (hT : Ty σ K) (hS : S0 K) (n l k : Int32) : hE ra (d + 3) 70 [.ref 0, .int n, .int l, .int k] σ (pI (fun σ' _ => σ' = σ)) := by
  have hx := Ex.refl (b := true) hT
  refine h_in rfl rfl (Nat.le_of_ble_eq_true rfl) ?_
  refine h_st rfl rfl ?_
  refine h_st rfl rfl ?_
  refine h_st rfl rfl ?_
  refine h_cr3 rfl (Nat.le_of_ble_eq_true rfl) (rcv1 hx.ty hS.1) rfl (c_26t hx.ty hS n l) (fun σ' q9 hq => ?_)
  obtain ⟨rfl, hq⟩ := hq
  rcases hq with ⟨rfl, hq⟩ | ⟨hq, r, rfl, hKr⟩
  · refine h_st rfl rfl ?_
    refine h_st rfl rfl ?_
    refine h_st rfl rfl ?_
    refine h_st rfl rfl ?_
    exact h_rt rfl rfl (⟨_, _, rfl, rfl⟩)
  · refine h_st rfl rfl ?_
    refine h_st rfl rfl ?_
    refine h_st rfl rfl ?_
    obtain ⟨n6, m6, r6, h6, z6, fr, bb, g6, e6, hpl, mk, hl, hnm, hr6, hh6, hf6⟩ := hx.ty.k16 hKr
    obtain ⟨fb, fk', hF, hfb⟩ := hx.ty.fr hf6
    refine h_st rfl rfl ?_
    refine h_st rfl (e_get hl rfl) ?_
    refine h_st rfl rfl ?_
    refine h_br (fun q1 => ?_) (fun q1 => ?_)
    · refine h_st rfl rfl ?_
      refine h_st rfl rfl ?_
      refine h_st rfl rfl ?_
      refine h_br (fun q2 => ?_) (fun q2 => ?_)
      · refine h_st rfl rfl ?_
        refine h_st rfl (e_get hl rfl) ?_
        refine h_st rfl rfl ?_
        refine h_ci2 rfl (Nat.le_of_ble_eq_true rfl) (e_rcv hF.1) rfl (c_35 hF _) (fun σ' y hy => ?_)
        subst hy
        exact h_rt rfl rfl (⟨_, _, rfl, rfl⟩)
      · refine h_st rfl rfl ?_
        refine h_st rfl (e_get hl rfl) ?_
        refine h_st rfl (e_get hF.1 rfl) ?_
        refine h_st rfl rfl ?_
        exact h_rt rfl rfl (⟨_, _, rfl, rfl⟩)
    · refine h_st rfl rfl ?_
      exact h_rt rfl rfl (⟨_, _, rfl, rfl⟩)
theorem c_71t (hT : Ty σ K) (hS : S0 K) (n l k : Int32) : hE ra (d + 3) 71 [.ref 0, .int n, .int l, .int k] σ (pI (fun σ' _ => σ' = σ)) := by
  have hx := Ex.refl (b := true) hT
  refine h_in rfl rfl (Nat.le_of_ble_eq_true rfl) ?_
  refine h_st rfl rfl ?_
  refine h_st rfl rfl ?_
  refine h_st rfl rfl ?_
  refine h_cr3 rfl (Nat.le_of_ble_eq_true rfl) (rcv1 hx.ty hS.1) rfl (c_26t hx.ty hS n l) (fun σ' q9 hq => ?_)
  obtain ⟨rfl, hq⟩ := hq
  rcases hq with ⟨rfl, hq⟩ | ⟨hq, r, rfl, hKr⟩
  · refine h_st rfl rfl ?_
    refine h_st rfl rfl ?_
    refine h_st rfl rfl ?_
    refine h_st rfl rfl ?_
    exact h_rt rfl rfl (⟨_, _, rfl, rfl⟩)
  · refine h_st rfl rfl ?_
    refine h_st rfl rfl ?_
    refine h_st rfl rfl ?_
    obtain ⟨n6, m6, r6, h6, z6, fr, bb, g6, e6, hpl, mk, hl, hnm, hr6, hh6, hf6⟩ := hx.ty.k16 hKr
    obtain ⟨qa, aa, ba, ha1, -⟩ := hx.ty.kR hnm.1 hr6
    obtain ⟨qb, ab, bb', hb1, -⟩ := hx.ty.kR hnm.2 hh6
    refine h_st rfl rfl ?_
    refine h_st rfl rfl ?_
    refine h_br (fun q1 => ?_) (fun q1 => ?_)
    · refine h_st rfl rfl ?_
      exact h_rt rfl rfl (⟨_, _, rfl, rfl⟩)
    · refine h_st rfl rfl ?_
      refine h_st rfl rfl ?_
      refine h_st rfl rfl ?_
      refine h_br (fun q2 => ?_) (fun q2 => ?_)
      · refine h_st rfl rfl ?_
        refine h_st rfl rfl ?_
        refine h_st rfl rfl ?_
        refine h_br (fun q3 => ?_) (fun q3 => ?_)
        · refine h_st rfl rfl ?_
          refine h_st rfl (e_get hl rfl) ?_
          refine h_st rfl (e_get ha1 rfl) ?_
          exact h_rt rfl rfl (⟨_, _, rfl, rfl⟩)
        · refine h_st rfl rfl ?_
          refine h_st rfl (e_get hl rfl) ?_
          refine h_st rfl (e_get hb1 rfl) ?_
          refine h_st rfl rfl ?_
          exact h_rt rfl rfl (⟨_, _, rfl, rfl⟩)
      · refine h_st rfl rfl ?_
        exact h_rt rfl rfl (⟨_, _, rfl, rfl⟩)
theorem c_72t (hT : Ty σ K) (hS : S0 K) (l : Int32) : hE ra (d + 3) 72 [.ref 0, .int l] σ (pI (fun σ' _ => σ' = σ)) := by
  have hx := Ex.refl (b := true) hT
  refine h_in rfl rfl (Nat.le_of_ble_eq_true rfl) ?_
  refine h_st rfl rfl ?_
  refine h_st rfl rfl ?_
  refine h_cr2 rfl (Nat.le_of_ble_eq_true rfl) (rcv1 hx.ty hS.1) rfl (c_37t hx.ty hS l) (fun σ' q9 hq => ?_)
  obtain ⟨rfl, hq⟩ := hq
  have hK := c_37k hq
  rcases q9 with _ | r
  · refine h_st rfl rfl ?_
    refine h_st rfl rfl ?_
    refine h_st rfl rfl ?_
    refine h_st rfl rfl ?_
    refine h_st rfl rfl ?_
    exact h_rt rfl rfl (⟨_, _, rfl, rfl⟩)
  · have hKr := hK r rfl
    refine h_st rfl rfl ?_
    refine h_st rfl rfl ?_
    refine h_st rfl rfl ?_
    obtain ⟨nu, so, ga, mo, hi, qu, pa, po, ac, wa, fi, co, me, se, op, hk, hb, h19, h20, h21⟩ := hx.ty.k18 hKr
    refine h_st rfl rfl ?_
    refine h_st rfl (e_get hk rfl) ?_
    exact h_rt rfl rfl (⟨_, _, rfl, rfl⟩)
theorem c_73t (hT : Ty σ K) (hS : S0 K) (n l : Int32) : hE ra (d + 3) 73 [.ref 0, .int n, .int l] σ (pI (fun σ' _ => σ' = σ)) := by
  have hx := Ex.refl (b := true) hT
  refine h_in rfl rfl (Nat.le_of_ble_eq_true rfl) ?_
  refine h_st rfl rfl ?_
  refine h_st rfl rfl ?_
  refine h_cr2 rfl (Nat.le_of_ble_eq_true rfl) (rcv1 hx.ty hS.1) rfl (c_37t hx.ty hS l) (fun σ' q9 hq => ?_)
  obtain ⟨rfl, hq⟩ := hq
  have hK := c_37k hq
  rcases q9 with _ | r
  · refine h_st rfl rfl ?_
    refine h_st rfl rfl ?_
    refine h_st rfl rfl ?_
    refine h_st rfl rfl ?_
    refine h_st rfl rfl ?_
    exact h_rt rfl rfl (⟨_, _, rfl, rfl⟩)
  · have hKr := hK r rfl
    refine h_st rfl rfl ?_
    refine h_st rfl rfl ?_
    refine h_st rfl rfl ?_
    refine h_st rfl rfl ?_
    refine h_ci1 rfl (Nat.le_of_ble_eq_true rfl) rfl rfl (s_27 n) (fun σ' b1 hq => ?_)
    obtain ⟨rfl, hb1⟩ := hq
    refine h_st rfl rfl ?_
    refine h_br (fun q1 => ?_) (fun q1 => ?_)
    · obtain ⟨nu, so, ga, mo, hi, qu, pa, po, ac, wa, fi, co, me, se, op, hk, hb, h19, h20, h21⟩ := hx.ty.k18 hKr
      obtain ⟨f, hf⟩ := hx.ty.k20 h20
      obtain ⟨j, hj, rfl⟩ := i_ix (n := 2) (by decide) (b_2 hb1 q1).1 (b_2 hb1 q1).2
      refine h_st rfl rfl ?_
      refine h_st rfl (e_get hk rfl) ?_
      refine h_st rfl rfl ?_
      refine h_st rfl (e_ia hf (nI_in hj (by decide))) ?_
      exact h_rt rfl rfl (⟨_, _, rfl, rfl⟩)
    · refine h_st rfl rfl ?_
      refine h_st rfl rfl ?_
      exact h_rt rfl rfl (⟨_, _, rfl, rfl⟩)
theorem c_74t (hT : Ty σ K) (hS : S0 K) (x : Int32) : hE ra (d + 1) 74 [.ref 0, .int x] σ (pI (fun σ' _ => σ' = σ)) := by
  obtain ⟨tm, h0⟩ := hT.k1 hS.1
  obtain ⟨f, hf⟩ := hT.k4 hS.2.2.2.1
  refine h_in rfl rfl (Nat.le_of_ble_eq_true rfl) ?_
  refine h_st rfl rfl ?_
  refine h_st rfl rfl ?_
  refine h_br (fun q1 => ?_) (fun q1 => ?_)
  · refine h_st rfl rfl ?_
    refine h_st rfl rfl ?_
    exact h_rt rfl rfl (⟨_, _, rfl, rfl⟩)
  · refine h_st rfl rfl ?_
    refine h_st rfl rfl ?_
    refine h_st rfl rfl ?_
    refine h_br (fun q2 => ?_) (fun q2 => ?_)
    · obtain ⟨j, hj, rfl⟩ := i_ix (n := 12) (by decide) q1 (Int32.not_le.mpr q2)
      refine h_st rfl rfl ?_
      refine h_st rfl (e_get h0 rfl) ?_
      refine h_st rfl rfl ?_
      refine h_st rfl (e_ia hf (nI_in hj (by decide))) ?_
      exact h_rt rfl rfl (⟨_, _, rfl, rfl⟩)
    · refine h_st rfl rfl ?_
      refine h_st rfl rfl ?_
      exact h_rt rfl rfl (⟨_, _, rfl, rfl⟩)
theorem c_78l (hT : Ty σ K) (hS : S0 K) {ln : Int32} {P : ae_S × ae_O → Prop} (hx9 : ∀ x2 x6, hG ra (d + 1) 78 σ [some (.ref 0), some (.int ln), some (.int x2), some (.ref 1), some (.int (nI 8)), some (.int (nI 8)), x6] [] 63 P) : ∀ (m j : Nat) (x2 : Int32) (x6 : Option Value), j + m = 8 → hG ra (d + 1) 78 σ [some (.ref 0), some (.int ln), some (.int x2), some (.ref 1), some (.int (nI 8)), some (.int (nI j)), x6] [] 14 P := by
  have hx := Ex.refl (b := true) hT
  obtain ⟨f, hs, hf⟩ := hT.k2 hS.2.1
  intro m
  induction m with
  | zero =>
    intro j x2 x6 hj
    have hj : j = 8 := by omega
    subst hj
    refine h_st rfl rfl ?_
    refine h_st rfl rfl ?_
    refine h_st rfl rfl ?_
    refine h_pc (if_pos (decide_eq_true (nI_le (Nat.le_refl 8) (by decide)))) ?_
    exact hx9 _ _
  | succ m ih =>
    intro j x2 x6 hj
    have ih1 := fun x2 x6 => ih (j + 1) x2 x6 (by omega)
    simp only [← nI_1] at ih1
    have hin : ¬ (nI j < 0 ∨ 8 ≤ (nI j).toNatClampNeg) := nI_in (by omega) (by decide)
    cases hv : f (nI j).toNatClampNeg with
    | none =>
      refine h_st rfl rfl ?_
      refine h_st rfl rfl ?_
      refine h_st rfl rfl ?_
      refine h_pc (if_neg (fun z9 => (nI_ge (show j < 8 by omega) (by decide)) (of_decide_eq_true z9))) ?_
      refine h_st rfl rfl ?_
      refine h_st rfl rfl ?_
      refine h_st rfl ((e_aa hs (by decide) hin).trans (by rw [hv])) ?_
      refine h_st rfl rfl ?_
      refine h_st rfl rfl ?_
      refine h_st rfl rfl ?_
      refine h_st rfl rfl ?_
      refine h_st rfl rfl ?_
      exact ih1 _ _
    | some r =>
      have hKr : K r = 18 := hf j r (by omega) (by rw [nI_clamp (by omega)] at hv; exact hv)
      obtain ⟨nu, so, ga, mo, hi, qu, pa, po, ac, wa, fi, co, me, se, op, hk, hb, h19, h20, h21⟩ := hx.ty.k18 hKr
      refine h_st rfl rfl ?_
      refine h_st rfl rfl ?_
      refine h_st rfl rfl ?_
      refine h_pc (if_neg (fun z9 => (nI_ge (show j < 8 by omega) (by decide)) (of_decide_eq_true z9))) ?_
      refine h_st rfl rfl ?_
      refine h_st rfl rfl ?_
      refine h_st rfl ((e_aa hs (by decide) hin).trans (by rw [hv])) ?_
      refine h_st rfl rfl ?_
      refine h_st rfl rfl ?_
      refine h_st rfl rfl ?_
      refine h_st rfl rfl ?_
      refine h_st rfl rfl ?_
      refine h_ci2 rfl (Nat.le_of_ble_eq_true rfl) (e_rcv hk) rfl (c_56 hx.ty hKr _) (fun σ' y hy => ?_)
      subst hy
      refine h_st rfl rfl ?_
      refine h_br (fun q => ?_) (fun q => ?_)
      · refine h_st rfl rfl ?_
        refine h_st rfl rfl ?_
        exact ih1 _ _
      · refine h_st rfl rfl ?_
        refine h_st rfl rfl ?_
        refine h_st rfl (e_get hk rfl) ?_
        refine h_st rfl rfl ?_
        refine h_st rfl rfl ?_
        refine h_st rfl rfl ?_
        refine h_st rfl rfl ?_
        refine h_st rfl rfl ?_
        refine h_st rfl (e_dv (by decide)) ?_
        refine h_st rfl rfl ?_
        refine h_st rfl rfl ?_
        refine h_st rfl rfl ?_
        refine h_st rfl rfl ?_
        exact ih1 _ _
theorem c_78 (hT : Ty σ K) (hS : S0 K) (ln : Int32) : hE ra (d + 2) 78 [.ref 0, .int ln] σ (pI (fun σ' _ => σ' = σ)) := by
  obtain ⟨tm, h0⟩ := hT.k1 hS.1
  obtain ⟨f, hs, hf⟩ := hT.k2 hS.2.1
  refine h_in rfl rfl (Nat.le_of_ble_eq_true rfl) ?_
  refine h_st rfl rfl ?_
  refine h_st rfl rfl ?_
  refine h_st rfl rfl ?_
  refine h_st rfl (e_get h0 rfl) ?_
  refine h_st rfl rfl ?_
  refine h_st rfl rfl ?_
  refine h_st rfl (e_len hs (by decide)) ?_
  refine h_st rfl rfl ?_
  refine h_st rfl rfl ?_
  refine h_st rfl rfl ?_
  refine c_78l hT hS (fun x2 x6 => ?_) 8 0 _ _ rfl
  refine h_st rfl rfl ?_
  exact h_rt rfl rfl (⟨_, _, rfl, rfl⟩)
theorem c_75l (hT : Ty σ K) (hS : S0 K) {l e x4 : Int32} {r : Nat} {P : ae_S × ae_O → Prop} (hx9 : ∀ x5 : Int32, hG ra (d + 2) 75 σ [some (.ref 0), some (.int l), some (.int e), some (.ref r), some (.int x4), some (.int x5), some (.int (nI 12))] [] 70 P) : ∀ (m j : Nat) (x5 : Int32), j + m = 12 → hG ra (d + 2) 75 σ [some (.ref 0), some (.int l), some (.int e), some (.ref r), some (.int x4), some (.int x5), some (.int (nI j))] [] 36 P := by
  intro m
  induction m with
  | zero =>
    intro j x5 hj
    have hj : j = 12 := by omega
    subst hj
    refine h_st rfl rfl ?_
    refine h_st rfl rfl ?_
    refine h_st rfl rfl ?_
    refine h_pc (if_pos (decide_eq_true (nI_le (Nat.le_refl 12) (by decide)))) ?_
    exact hx9 _
  | succ m ih =>
    intro j x5 hj
    have ih1 := fun x5 => ih (j + 1) x5 (by omega)
    simp only [← nI_1] at ih1
    refine h_st rfl rfl ?_
    refine h_st rfl rfl ?_
    refine h_st rfl rfl ?_
    refine h_pc (if_neg (fun z9 => (nI_ge (show j < 12 by omega) (by decide)) (of_decide_eq_true z9))) ?_
    refine h_st rfl rfl ?_
    refine h_st rfl rfl ?_
    refine h_st rfl rfl ?_
    refine h_st rfl rfl ?_
    refine h_st rfl rfl ?_
    refine h_st rfl rfl ?_
    refine h_br (fun q => ?_) (fun q => ?_)
    · refine h_st rfl rfl ?_
      refine h_st rfl rfl ?_
      exact ih1 _
    · refine h_st rfl rfl ?_
      refine h_st rfl rfl ?_
      refine h_st rfl rfl ?_
      refine h_ci2 rfl (Nat.le_of_ble_eq_true rfl) (rcv1 hT hS.1) rfl (c_78 hT hS _) (fun σ' y hy => ?_)
      subst hy
      refine h_st rfl rfl ?_
      refine h_st rfl rfl ?_
      refine h_st rfl rfl ?_
      refine h_st rfl rfl ?_
      exact ih1 _
theorem c_39e (hT : Ty σ K) (hS : S0 K) (hp : K p = 18) (x : Int32) : hE ra (d + 2) 39 [.ref p, .int x] σ (pR (fun σ' q => σ' = σ ∧ ∀ r, q = some r → K r = 23 ∧ ∃ j, j < 4 ∧ x = nI j)) := by
  obtain ⟨nu, so, ga, mo, hi, qu, pa, po, ac, wa, fi, co, me, se, op, hk, hb, h19, h20, h21⟩ := hT.k18 hp
  obtain ⟨f, hs, hf⟩ := hT.k19 h19
  refine h_in rfl rfl (Nat.le_of_ble_eq_true rfl) ?_
  refine h_st rfl rfl ?_
  refine h_ci1 rfl (Nat.le_of_ble_eq_true rfl) rfl rfl (s_40 x) (fun σ' b1 hq => ?_)
  obtain ⟨rfl, hb1⟩ := hq
  refine h_st rfl rfl ?_
  refine h_br (fun q1 => ?_) (fun q1 => ?_)
  · refine h_st rfl rfl ?_
    exact h_rt rfl rfl (⟨_, none, rfl, rfl, fun r hr => by cases hr⟩)
  · obtain ⟨j, hj, rfl⟩ := i_ix (n := 4) (by decide) (b_2 hb1 q1).1 (b_2 hb1 q1).2
    refine h_st rfl rfl ?_
    refine h_st rfl (e_get hk rfl) ?_
    refine h_st rfl rfl ?_
    refine h_st rfl (e_aa hs (by decide) (nI_in hj (by decide))) ?_
    refine h_st rfl rfl ?_
    exact h_rt rfl (k_rv _) (⟨_, f (nI j).toNatClampNeg, rfl, rfl, fun r hr => ⟨hf j r hj (by rw [nI_clamp (by omega)] at hr; exact hr), j, hj, rfl⟩⟩)
theorem c_75t (hT : Ty σ K) (hS : S0 K) (l e : Int32) : hE ra (d + 3) 75 [.ref 0, .int l, .int e] σ (pI (fun σ' _ => σ' = σ)) := by
  have hx := Ex.refl (b := true) hT
  refine h_in rfl rfl (Nat.le_of_ble_eq_true rfl) ?_
  refine h_st rfl rfl ?_
  refine h_st rfl rfl ?_
  refine h_cr2 rfl (Nat.le_of_ble_eq_true rfl) (rcv1 hx.ty hS.1) rfl (c_37t hx.ty hS l) (fun σ' q9 hq => ?_)
  obtain ⟨rfl, hq⟩ := hq
  have hK := c_37k hq
  rcases q9 with _ | r
  · refine h_st rfl rfl ?_
    refine h_st rfl rfl ?_
    refine h_st rfl rfl ?_
    refine h_st rfl rfl ?_
    exact h_rt rfl rfl (⟨_, _, rfl, rfl⟩)
  · have hKr := hK r rfl
    refine h_st rfl rfl ?_
    refine h_st rfl rfl ?_
    refine h_st rfl rfl ?_
    refine h_st rfl rfl ?_
    refine h_st rfl rfl ?_
    refine h_cr2 rfl (Nat.le_of_ble_eq_true rfl) (rcv18 hx.ty hKr) rfl (c_39e hT hS hKr e) (fun σ' q8 hq8 => ?_)
    obtain ⟨rfl, hq8⟩ := hq8
    rcases q8 with _ | r8
    · refine h_st rfl rfl ?_
      refine h_st rfl rfl ?_
      exact h_rt rfl rfl (⟨_, _, rfl, rfl⟩)
    · obtain ⟨hK8, j, hj, rfl⟩ := hq8 r8 rfl
      refine h_st rfl rfl ?_
      obtain ⟨nu, so, ga, mo, hi, qu, pa, po, ac, wa, fi, co, me, se, op, hk, hb, h19, h20, h21⟩ := hx.ty.k18 hKr
      refine h_st rfl rfl ?_
      refine h_st rfl (e_get hk rfl) ?_
      refine h_st rfl rfl ?_
      refine h_ci2 rfl (Nat.le_of_ble_eq_true rfl) rfl rfl (k_76 hb.1 hj) (fun σ' y hy => ?_)
      subst hy
      refine h_st rfl rfl ?_
      refine h_st rfl rfl ?_
      refine h_st rfl rfl ?_
      refine h_st rfl rfl ?_
      refine h_st rfl rfl ?_
      refine c_75l hT hS (fun x5 => ?_) 12 0 _ rfl
      refine h_st rfl rfl ?_
      exact h_rt rfl rfl (⟨_, _, rfl, rfl⟩)
end TY7
