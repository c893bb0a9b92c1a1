section TY9
variable {ra : ae_R} {d : Nat} {σ σ0 : ae_S} {p : Nat} {K K0 : Nat → Nat} {b : Bool} {s t : Nat}
theorem c_33 (hT : Ty σ K) (hS : S0 K) (hr : (ra 3).1 = 16) {fr a : Nat} {na : Int32} (hfr : K fr = 5) (hna : na = nI a) (ha : a < 2) (e : Int32) : hE ra (d + 4) 33 [.ref 0, .int na, .int e, .ref fr] σ (pI (fun σ' v => (∃ K', Ex b 0 0 K σ K' σ') ∧ (v = -1 ∨ ∃ r, v = nI r ∧ r < 12))) := by
  subst hna
  have hx := Ex.refl (b := b) hT
  obtain ⟨fb, fk, hF, hfb⟩ := hT.fr hfr
  obtain ⟨tm, h0⟩ := hT.k1 hS.1
  refine h_in rfl rfl (Nat.le_of_ble_eq_true rfl) ?_
  refine h_st rfl rfl ?_
  refine h_ci1 rfl (Nat.le_of_ble_eq_true rfl) (e_rcv hF.1) rfl (c_34 hr hF) (fun σ' y hy => ?_)
  subst hy
  refine h_st rfl rfl ?_
  refine h_br (fun q1 => ?_) (fun q1 => ?_)
  · refine h_st rfl rfl ?_
    refine h_st rfl rfl ?_
    refine h_ci1 rfl (Nat.le_of_ble_eq_true rfl) (e_rcv hF.1) rfl (c_36 hF) (fun σ' y hy => ?_)
    subst hy
    refine h_cr2 rfl (Nat.le_of_ble_eq_true rfl) (rcv1 hx.ty hS.1) rfl (c_37t hx.ty hS _) (fun σ' q9 hq => ?_)
    obtain ⟨rfl, hq⟩ := hq
    have hK := c_37k hq
    rcases q9 with _ | r
    · refine h_st rfl rfl ?_
      refine h_st rfl rfl ?_
      refine h_st rfl rfl ?_
      refine h_st rfl rfl ?_
      exact h_rt rfl rfl (⟨_, _, rfl, ⟨K, hx⟩, Or.inr ⟨2, rfl, by decide⟩⟩)
    · have hKr := hK r rfl
      refine h_st rfl rfl ?_
      refine h_st rfl rfl ?_
      refine h_st rfl rfl ?_
      refine h_st rfl rfl ?_
      refine h_st rfl rfl ?_
      refine h_cr2 rfl (Nat.le_of_ble_eq_true rfl) (rcv18 hx.ty hKr) rfl (c_39 hx.ty hKr _) (fun σ' q8 hq8 => ?_)
      obtain ⟨rfl, hq8⟩ := hq8
      rcases q8 with _ | r8
      · refine h_st rfl rfl ?_
        refine h_st rfl rfl ?_
        refine h_st rfl rfl ?_
        refine h_st rfl rfl ?_
        exact h_rt rfl rfl (⟨_, _, rfl, ⟨K, hx⟩, Or.inr ⟨3, rfl, by decide⟩⟩)
      · have hK8 := hq8 r8 rfl
        refine h_st rfl rfl ?_
        refine h_st rfl rfl ?_
        refine h_st rfl rfl ?_
        refine h_st rfl rfl ?_
        refine h_ci1 rfl (Nat.le_of_ble_eq_true rfl) (e_rcv hF.1) rfl (c_41 hF) (fun σ' y hy => ?_)
        subst hy
        refine h_st rfl rfl ?_
        refine h_br (fun q2 => ?_) (fun q2 => ?_)
        · refine h_st rfl rfl ?_
          refine h_st rfl rfl ?_
          refine h_st rfl rfl ?_
          refine h_ci1 rfl (Nat.le_of_ble_eq_true rfl) (e_rcv hF.1) rfl (c_43 hF) (fun σ' y hy => ?_)
          subst hy
          refine h_st rfl rfl ?_
          refine h_st rfl (e_get h0 rfl) ?_
          refine h_ci4 rfl (Nat.le_of_ble_eq_true rfl) (rcv23 hx.ty hK8) rfl (c_44 (b := b) hx.ty hK8 ha _ _) (fun σ4 v4 hv => ?_)
          obtain ⟨ex, hv⟩ := hv
          replace hx := hx.trans ex
          obtain ⟨tm2, h02⟩ := hx.ty.k1 hS.1
          refine h_st rfl rfl ?_
          refine h_st rfl rfl ?_
          refine h_st rfl rfl ?_
          refine h_st rfl rfl ?_
          refine h_br (fun q3 => ?_) (fun q3 => ?_)
          · refine h_st rfl rfl ?_
            exact h_rt rfl rfl (⟨_, _, rfl, ⟨K, hx⟩, hv⟩)
          · refine h_st rfl rfl ?_
            refine h_st rfl rfl ?_
            refine h_st rfl rfl ?_
            refine h_st rfl (e_get h02 rfl) ?_
            refine h_ci3 rfl (Nat.le_of_ble_eq_true rfl) (rcv23 hx.ty hK8) rfl (c_47 (b := b) hx.ty hK8 hfr _) (fun σ5 v5 hv5 => ?_)
            obtain ⟨⟨K5, ex5⟩, hv5⟩ := hv5
            refine h_st rfl rfl ?_
            exact h_rt rfl rfl (⟨_, _, rfl, ⟨K5, hx.trans ex5⟩, hv5⟩)
        · refine h_st rfl rfl ?_
          exact h_rt rfl rfl (⟨_, _, rfl, ⟨K, hx⟩, Or.inr ⟨7, rfl, by decide⟩⟩)
  · refine h_st rfl rfl ?_
    exact h_rt rfl rfl (⟨_, _, rfl, ⟨K, hx⟩, Or.inr ⟨1, rfl, by decide⟩⟩)
theorem c_55l (h1 : (ra 1).1 = 12) (h2 : (ra 2).1 = 12) {fr : Nat} {na ln : Int32} (hS0 : S0 K0) (hfr0 : K0 fr = 5) (hp0 : K0 p = 18) (hln : ¬ (ln < 0 ∨ 12 ≤ ln.toNatClampNeg)) : ∀ (m j : Nat) (σ : ae_S) (K : Nat → Nat), j + m = 12 → Ex b 0 0 K0 σ0 K σ → hG ra (d + 3) 55 σ [some (.ref 0), some (.int na), some (.int ln), some (.ref fr), some (.ref p), some (.int (nI j))] [] 74 (pI (fun σ' v => (∃ K', Ex b 0 0 K0 σ0 K' σ') ∧ (v = -1 ∨ ∃ r, v = nI r ∧ r < 12))) := by
  intro m
  induction m with
  | zero =>
    intro j σ K hj hx
    have hj : j = 12 := by omega
    subst hj
    refine h_st rfl rfl ?_
    refine h_st rfl rfl ?_
    refine h_st rfl rfl ?_
    refine h_pc (if_pos (decide_eq_true (nI_le (Nat.le_refl 12) (by decide)))) ?_
    refine h_st rfl rfl ?_
    exact h_rt rfl rfl (⟨_, _, rfl, ⟨K, hx⟩, Or.inl rfl⟩)
  | succ m ih =>
    intro j σ K hj hx
    have hS := hx.s0 hS0
    have hfr := hx.kd hfr0 (by decide)
    have hp := hx.kd hp0 (by decide)
    have ih1 := fun σ K h1 => ih (j + 1) σ K (by omega) h1
    simp only [← nI_1] at ih1
    have hin : ¬ (nI j < 0 ∨ (ra 1).1 ≤ (nI j).toNatClampNeg) := by rw [h1]; exact nI_in (by omega) (by decide)
    have hin2 : ¬ (ln < 0 ∨ (ra 2).1 ≤ ln.toNatClampNeg) := by rw [h2]; exact hln
    obtain ⟨nu, so, ga, mo, hi, qu, pa, po, ac, wa, fi, co, me, se, op, hk, hb, h19, h20, h21⟩ := hx.ty.k18 hp
    refine h_st rfl rfl ?_
    refine h_st rfl rfl ?_
    refine h_st rfl rfl ?_
    refine h_pc (if_neg (fun z9 => (nI_ge (show j < 12 by omega) (by decide)) (of_decide_eq_true z9))) ?_
    refine h_st rfl rfl ?_
    refine h_st rfl rfl ?_
    refine h_st rfl (e_ro (by decide) hin) ?_
    refine h_st rfl rfl ?_
    refine h_st rfl rfl ?_
    refine h_st rfl (e_ro (by decide) hin2) ?_
    refine h_st rfl rfl ?_
    refine h_br (fun q1 => ?_) (fun q1 => ?_)
    · refine h_st rfl rfl ?_
      refine h_st rfl rfl ?_
      exact ih1 _ _ hx
    · refine h_st rfl rfl ?_
      refine h_st rfl rfl ?_
      refine h_ci2 rfl (Nat.le_of_ble_eq_true rfl) (rcv18 hx.ty hp) rfl (c_56 hx.ty hp _) (fun σ' y hy => ?_)
      subst hy
      refine h_st rfl rfl ?_
      refine h_br (fun q2 => ?_) (fun q2 => ?_)
      · refine h_st rfl rfl ?_
        refine h_st rfl rfl ?_
        exact ih1 _ _ hx
      · refine h_st rfl rfl ?_
        refine h_st rfl rfl ?_
        refine h_st rfl rfl ?_
        refine h_st rfl rfl ?_
        refine h_st rfl (e_get hk rfl) ?_
        refine h_st rfl rfl ?_
        refine h_ci5 rfl (Nat.le_of_ble_eq_true rfl) (rcv1 hx.ty hS.1) rfl (c_25t (b := b) hx.ty hS hfr _ _ _) (fun σ6 y hy => ?_)
        obtain ⟨-, K6, ex⟩ := hy
        refine h_st rfl rfl ?_
        refine h_st rfl rfl ?_
        refine h_st rfl rfl ?_
        exact ih1 _ _ (hx.trans ex)
theorem c_55 (hT : Ty σ K) (hS : S0 K) (hr : (ra 3).1 = 16) (h1 : (ra 1).1 = 12) (h2 : (ra 2).1 = 12) {fr a : Nat} {na ln : Int32} (hfr : K fr = 5) (hna : na = nI a) (ha : a < 2) (hln : ¬ (ln < 0 ∨ 12 ≤ ln.toNatClampNeg)) : hE ra (d + 4) 55 [.ref 0, .int na, .int ln, .ref fr] σ (pI (fun σ' v => (∃ K', Ex b 0 0 K σ K' σ') ∧ (v = -1 ∨ ∃ r, v = nI r ∧ r < 12))) := by
  subst hna
  have hx := Ex.refl (b := b) hT
  obtain ⟨fb, fk, hF, hfb⟩ := hT.fr hfr
  refine h_in rfl rfl (Nat.le_of_ble_eq_true rfl) ?_
  refine h_st rfl rfl ?_
  refine h_ci1 rfl (Nat.le_of_ble_eq_true rfl) (e_rcv hF.1) rfl (c_34 hr hF) (fun σ' y hy => ?_)
  subst hy
  refine h_st rfl rfl ?_
  refine h_br (fun q1 => ?_) (fun q1 => ?_)
  · refine h_st rfl rfl ?_
    refine h_st rfl rfl ?_
    refine h_ci1 rfl (Nat.le_of_ble_eq_true rfl) (e_rcv hF.1) rfl (c_36 hF) (fun σ' y hy => ?_)
    subst hy
    refine h_cr2 rfl (Nat.le_of_ble_eq_true rfl) (rcv1 hx.ty hS.1) rfl (c_37t hx.ty hS _) (fun σ' q9 hq => ?_)
    obtain ⟨rfl, hq⟩ := hq
    have hK := c_37k hq
    rcases q9 with _ | r
    · refine h_st rfl rfl ?_
      refine h_st rfl rfl ?_
      refine h_st rfl rfl ?_
      refine h_st rfl rfl ?_
      exact h_rt rfl rfl (⟨_, _, rfl, ⟨K, hx⟩, Or.inr ⟨2, rfl, by decide⟩⟩)
    · have hKr := hK r rfl
      refine h_st rfl rfl ?_
      refine h_st rfl rfl ?_
      refine h_st rfl rfl ?_
      refine h_st rfl rfl ?_
      refine h_st rfl rfl ?_
      refine h_ci2 rfl (Nat.le_of_ble_eq_true rfl) (rcv18 hx.ty hKr) rfl (c_56 hx.ty hKr _) (fun σ' y hy => ?_)
      subst hy
      refine h_st rfl rfl ?_
      refine h_br (fun q2 => ?_) (fun q2 => ?_)
      · obtain ⟨nu, so, ga, mo, hi, qu, pa, po, ac, wa, fi, co, me, se, op, hk, hb, h19, h20, h21⟩ := hx.ty.k18 hKr
        refine h_st rfl rfl ?_
        refine h_st rfl (e_get hF.1 rfl) ?_
        refine h_st rfl rfl ?_
        refine h_st rfl (e_get hk rfl) ?_
        refine h_st rfl rfl ?_
        refine h_br (fun q3 => ?_) (fun q3 => ?_)
        · refine h_st rfl rfl ?_
          refine h_st rfl rfl ?_
          refine h_st rfl rfl ?_
          refine h_br (fun q4 => ?_) (fun q4 => ?_)
          · refine h_st rfl rfl ?_
            refine h_st rfl rfl ?_
            exact c_55l h1 h2 hS hfr hKr hln 8 4 _ _ rfl hx
          · refine h_st rfl rfl ?_
            refine h_st rfl rfl ?_
            refine h_st rfl rfl ?_
            refine h_st rfl (e_get hF.1 rfl) ?_
            refine h_ci3 rfl (Nat.le_of_ble_eq_true rfl) (rcv18 hx.ty hKr) rfl (c_57 (b := b) hx.ty hKr ha _) (fun σ4 y4 ex => ?_)
            replace hx := hx.trans ex
            refine h_st rfl rfl ?_
            refine h_br (fun q5 => ?_) (fun q5 => ?_)
            · refine h_st rfl rfl ?_
              refine h_st rfl rfl ?_
              exact c_55l h1 h2 hS hfr hKr hln 8 4 _ _ rfl hx
            · refine h_st rfl rfl ?_
              exact h_rt rfl rfl (⟨_, _, rfl, ⟨K, hx⟩, Or.inr ⟨5, rfl, by decide⟩⟩)
        · refine h_st rfl rfl ?_
          exact h_rt rfl rfl (⟨_, _, rfl, ⟨K, hx⟩, Or.inr ⟨4, rfl, by decide⟩⟩)
      · refine h_st rfl rfl ?_
        exact h_rt rfl rfl (⟨_, _, rfl, ⟨K, hx⟩, Or.inr ⟨3, rfl, by decide⟩⟩)
  · refine h_st rfl rfl ?_
    exact h_rt rfl rfl (⟨_, _, rfl, ⟨K, hx⟩, Or.inr ⟨1, rfl, by decide⟩⟩)
theorem c_31l (hr : (ra 3).1 = 16) (h1 : (ra 1).1 = 12) (h2 : (ra 2).1 = 12) (hS0 : S0 K0) : ∀ (m j : Nat) (σ : ae_S) (K : Nat → Nat) (x2 x3 : Option Value), j + m = 24 → Ex b 0 0 K0 σ0 K σ → hG ra (d + 4) 31 σ [some (.ref 0), some (.int (nI j)), x2, x3] [] 2 (pV (fun σ' => ∃ K', Ex b 0 0 K0 σ0 K' σ')) := by
  intro m
  induction m with
  | zero =>
    intro j σ K x2 x3 hj hx
    have hj : j = 24 := by omega
    subst hj
    have hS := hx.s0 hS0
    obtain ⟨tm, h0⟩ := hx.ty.k1 hS.1
    obtain ⟨f, hs, hf⟩ := hx.ty.k3 hS.2.2.1
    refine h_st rfl rfl ?_
    refine h_st rfl rfl ?_
    refine h_st rfl (e_get h0 rfl) ?_
    refine h_st rfl (e_len hs (by decide)) ?_
    refine h_st rfl rfl ?_
    refine h_pc (if_pos (decide_eq_true (nI_le (Nat.le_refl 24) (by decide)))) ?_
    exact h_rv rfl (⟨_, rfl, K, hx⟩)
  | succ m ih =>
    intro j σ K x2 x3 hj hx
    have hS := hx.s0 hS0
    have ej : (nI j).toNatClampNeg = j := nI_clamp (by omega)
    obtain ⟨tm, h0⟩ := hx.ty.k1 hS.1
    obtain ⟨f, hs, hf⟩ := hx.ty.k3 hS.2.2.1
    obtain ⟨q, hq, hKq⟩ := hf j (by omega)
    have hv : f (nI j).toNatClampNeg = some q := by rw [ej]; exact hq
    have ih1 := fun σ K x2 x3 h1 => ih (j + 1) σ K x2 x3 (by omega) h1
    simp only [← nI_1] at ih1
    have hin : ¬ (nI j < 0 ∨ 24 ≤ (nI j).toNatClampNeg) := nI_in (by omega) (by decide)
    have er : nI j - nI j / 12 * 12 = nI (j % 12) := pk_rem (a := j) (d := 12) (by omega) (by decide) (by decide)
    have ed : nI j / 12 = nI (j / 12) := pk_div (a := j) (d := 12) (by omega) (by decide) (by decide)
    have hl12 : ¬ (nI j - nI j / 12 * 12 < 0 ∨ 12 ≤ (nI j - nI j / 12 * 12).toNatClampNeg) := by rw [er]; exact nI_in (Nat.mod_lt _ (by decide)) (by decide)
    have hr2 : ¬ (nI j - nI j / 12 * 12 < 0 ∨ (ra 2).1 ≤ (nI j - nI j / 12 * 12).toNatClampNeg) := by rw [h2]; exact hl12
    refine h_st rfl rfl ?_
    refine h_st rfl rfl ?_
    refine h_st rfl (e_get h0 rfl) ?_
    refine h_st rfl (e_len hs (by decide)) ?_
    refine h_st rfl rfl ?_
    refine h_pc (if_neg (fun z9 => (nI_ge (show j < 24 by omega) (by decide)) (of_decide_eq_true z9))) ?_
    refine h_st rfl rfl ?_
    refine h_st rfl (e_get h0 rfl) ?_
    refine h_st rfl rfl ?_
    refine h_st rfl ((e_aa hs (by decide) hin).trans (by rw [hv])) ?_
    refine h_ci1 rfl (Nat.le_of_ble_eq_true rfl) (rcv16 hx.ty hKq) rfl (c_32 (b := b) hx.ty hKq) (fun σ2 y2 ex => ?_)
    replace hx := hx.trans ex
    clear hv hq hKq hf hs h0 f q tm
    obtain ⟨tm, h0⟩ := hx.ty.k1 hS.1
    obtain ⟨f, hs, hf⟩ := hx.ty.k3 hS.2.2.1
    obtain ⟨q, hq, hKq⟩ := hf j (by omega)
    have hv : f (nI j).toNatClampNeg = some q := by rw [ej]; exact hq
    obtain ⟨n6, m6, r6, h6, z6, fr6, bb6, g6, e6, hpl6, mk6, hl, hnm, hr6, hh6, hf6⟩ := hx.ty.k16 hKq
    refine h_st rfl rfl ?_
    refine h_br (fun q1 => ?_) (fun q1 => ?_)
    · refine h_st rfl rfl ?_
      refine h_st rfl rfl ?_
      refine h_st rfl (e_dv (by decide)) ?_
      refine h_st rfl rfl ?_
      refine h_st rfl rfl ?_
      refine h_st rfl rfl ?_
      refine h_st rfl (e_ro (by decide) hr2) ?_
      refine h_st rfl rfl ?_
      refine h_st rfl rfl ?_
      refine h_br (fun q2 => ?_) (fun q2 => ?_)
      · refine h_st rfl rfl ?_
        refine h_st rfl rfl ?_
        refine h_st rfl rfl ?_
        refine h_st rfl (e_dv (by decide)) ?_
        refine h_st rfl rfl ?_
        refine h_st rfl rfl ?_
        refine h_st rfl (e_get h0 rfl) ?_
        refine h_st rfl rfl ?_
        refine h_st rfl ((e_aa hs (by decide) hin).trans (by rw [hv])) ?_
        refine h_st rfl (e_get hl rfl) ?_
        refine h_ci4 rfl (Nat.le_of_ble_eq_true rfl) (rcv1 hx.ty hS.1) rfl (c_55 (b := b) hx.ty hS hr h1 h2 hf6 ed (by omega) hl12) (fun σ5 v5 hv5 => ?_)
        obtain ⟨⟨K5, ex5⟩, hv5⟩ := hv5
        replace hx := hx.trans ex5
        replace hS := ex5.s0 hS
        refine h_st rfl rfl ?_
        refine h_st rfl rfl ?_
        refine h_st rfl rfl ?_
        refine h_st rfl rfl ?_
        refine h_br (fun q5 => ?_) (fun q5 => ?_)
        · refine h_st rfl rfl ?_
          refine h_st rfl rfl ?_
          exact ih1 _ _ _ _ hx
        · obtain ⟨r, rfl, hr12⟩ := hv5.resolve_left q5
          obtain ⟨tm, h0⟩ := hx.ty.k1 hS.1
          obtain ⟨fd, hd⟩ := hx.ty.k4 hS.2.2.2.1
          refine h_st rfl rfl ?_
          refine h_st rfl (e_get h0 rfl) ?_
          refine h_st rfl rfl ?_
          refine h_st rfl rfl ?_
          refine h_st rfl (e_ia hd (nI_in hr12 (by decide))) ?_
          refine h_st rfl rfl ?_
          refine h_st rfl rfl ?_
          refine y_ias rfl hx hd hS.2.2.2.1 (by omega) (ncs (by omega)) ((nI_in hr12 (by decide))) (fun f' => ok_4 ⟨f', rfl⟩) (fun σ2 hx2 g2 ho => ?_)
          replace hd := g2
          clear g2 ho
          replace hx := hx2
          clear hx2
          refine h_st rfl rfl ?_
          refine h_st rfl rfl ?_
          exact ih1 _ _ _ _ hx
      · refine h_st rfl rfl ?_
        refine h_st rfl rfl ?_
        refine h_st rfl rfl ?_
        refine h_st rfl (e_dv (by decide)) ?_
        refine h_st rfl rfl ?_
        refine h_st rfl rfl ?_
        refine h_st rfl rfl ?_
        refine h_st rfl rfl ?_
        refine h_st rfl (e_get h0 rfl) ?_
        refine h_st rfl rfl ?_
        refine h_st rfl ((e_aa hs (by decide) hin).trans (by rw [hv])) ?_
        refine h_st rfl (e_get hl rfl) ?_
        refine h_ci4 rfl (Nat.le_of_ble_eq_true rfl) (rcv1 hx.ty hS.1) rfl (c_33 (b := b) hx.ty hS hr hf6 ed (by omega) _) (fun σ5 v5 hv5 => ?_)
        obtain ⟨⟨K5, ex5⟩, hv5⟩ := hv5
        replace hx := hx.trans ex5
        replace hS := ex5.s0 hS
        refine h_st rfl rfl ?_
        refine h_st rfl rfl ?_
        refine h_st rfl rfl ?_
        refine h_st rfl rfl ?_
        refine h_st rfl rfl ?_
        refine h_br (fun q5 => ?_) (fun q5 => ?_)
        · refine h_st rfl rfl ?_
          refine h_st rfl rfl ?_
          exact ih1 _ _ _ _ hx
        · obtain ⟨r, rfl, hr12⟩ := hv5.resolve_left q5
          obtain ⟨tm, h0⟩ := hx.ty.k1 hS.1
          obtain ⟨fd, hd⟩ := hx.ty.k4 hS.2.2.2.1
          refine h_st rfl rfl ?_
          refine h_st rfl (e_get h0 rfl) ?_
          refine h_st rfl rfl ?_
          refine h_st rfl rfl ?_
          refine h_st rfl (e_ia hd (nI_in hr12 (by decide))) ?_
          refine h_st rfl rfl ?_
          refine h_st rfl rfl ?_
          refine y_ias rfl hx hd hS.2.2.2.1 (by omega) (ncs (by omega)) ((nI_in hr12 (by decide))) (fun f' => ok_4 ⟨f', rfl⟩) (fun σ2 hx2 g2 ho => ?_)
          replace hd := g2
          clear g2 ho
          replace hx := hx2
          clear hx2
          refine h_st rfl rfl ?_
          refine h_st rfl rfl ?_
          exact ih1 _ _ _ _ hx
    · refine h_st rfl rfl ?_
      refine h_st rfl rfl ?_
      refine h_st rfl rfl ?_
      exact ih1 _ _ _ _ hx
theorem c_31t (hT : Ty σ K) (hS : S0 K) (hr : (ra 3).1 = 16) (h1 : (ra 1).1 = 12) (h2 : (ra 2).1 = 12) : hE ra (d + 5) 31 [.ref 0] σ (pV (fun σ' => ∃ K', Ex b 0 0 K σ K' σ')) := by
  refine h_in rfl rfl (Nat.le_of_ble_eq_true rfl) ?_
  refine h_st rfl rfl ?_
  refine h_st rfl rfl ?_
  exact c_31l hr h1 h2 hS 24 0 _ _ _ _ rfl (Ex.refl hT)
theorem c_58l (hS : S0 K) : ∀ (m j : Nat) (σ : ae_S) (x4 : Option Value), j + m = 24 → Ex b 0 0 K σ0 K σ → hG ra (d + 3) 58 σ [some (.ref 0), some (.ref 2), some (.int (nI 24)), some (.int (nI j)), x4] [] 10 (pV (fun σ' => Ex b 0 0 K σ0 K σ')) := by
  intro m
  induction m with
  | zero =>
    intro j σ x4 hj hx
    have hj : j = 24 := by omega
    subst hj
    refine h_st rfl rfl ?_
    refine h_st rfl rfl ?_
    refine h_st rfl rfl ?_
    refine h_pc (if_pos (decide_eq_true (nI_le (Nat.le_refl 24) (by decide)))) ?_
    exact h_rv rfl (⟨_, rfl, hx⟩)
  | succ m ih =>
    intro j σ x4 hj hx
    have ej : (nI j).toNatClampNeg = j := nI_clamp (by omega)
    obtain ⟨tm, h0⟩ := hx.ty.k1 hS.1
    obtain ⟨f, hs, hf⟩ := hx.ty.k3 hS.2.2.1
    obtain ⟨q, hq, hKq⟩ := hf j (by omega)
    have hv : f (nI j).toNatClampNeg = some q := by rw [ej]; exact hq
    have ih1 := fun σ x4 h1 => ih (j + 1) σ x4 (by omega) h1
    simp only [← nI_1] at ih1
    have hin : ¬ (nI j < 0 ∨ 24 ≤ (nI j).toNatClampNeg) := nI_in (by omega) (by decide)
    obtain ⟨n6, m6, r6, h6, z6, fr6, bb6, g6, e6, hpl6, mk6, hl, hnm, hr6, hh6, hf6⟩ := hx.ty.k16 hKq
    refine h_st rfl rfl ?_
    refine h_st rfl rfl ?_
    refine h_st rfl rfl ?_
    refine h_pc (if_neg (fun z9 => (nI_ge (show j < 24 by omega) (by decide)) (of_decide_eq_true z9))) ?_
    refine h_st rfl rfl ?_
    refine h_st rfl rfl ?_
    refine h_st rfl ((e_aa hs (by decide) hin).trans (by rw [hv])) ?_
    refine h_st rfl rfl ?_
    refine h_st rfl rfl ?_
    refine h_st rfl (e_get hl rfl) ?_
    refine h_st rfl rfl ?_
    refine h_br (fun q1 => ?_) (fun q1 => ?_)
    · refine h_st rfl rfl ?_
      refine h_st rfl rfl ?_
      exact ih1 _ _ hx
    · refine h_st rfl rfl ?_
      refine h_ci1 rfl (Nat.le_of_ble_eq_true rfl) (rcv16 hx.ty hKq) rfl (c_59 (b := b) hx.ty hKq) (fun σ2 y2 ex => ?_)
      replace hx := hx.trans ex
      refine h_st rfl rfl ?_
      refine h_br (fun q2 => ?_) (fun q2 => ?_)
      · refine h_st rfl rfl ?_
        refine h_st rfl rfl ?_
        exact ih1 _ _ hx
      · clear h0
        obtain ⟨tm2, h0⟩ := hx.ty.k1 hS.1
        obtain ⟨fd, hd⟩ := hx.ty.k4 hS.2.2.2.1
        refine h_st rfl rfl ?_
        refine h_st rfl (e_get h0 rfl) ?_
        refine h_st rfl rfl ?_
        refine h_st rfl rfl ?_
        refine h_st rfl (e_ia hd (by decide)) ?_
        refine h_st rfl rfl ?_
        refine h_st rfl rfl ?_
        refine y_ias rfl hx hd hS.2.2.2.1 (by omega) (ncs (by omega)) ((by decide)) (fun f' => ok_4 ⟨f', rfl⟩) (fun σ2 hx2 g2 ho => ?_)
        replace hd := g2
        clear g2 ho
        replace hx := hx2
        clear hx2
        refine h_st rfl rfl ?_
        refine h_st rfl rfl ?_
        exact ih1 _ _ hx
theorem c_58t (hT : Ty σ K) (hS : S0 K) : hE ra (d + 4) 58 [.ref 0] σ (pV (fun σ' => Ex b 0 0 K σ K σ')) := by
  obtain ⟨tm, h0⟩ := hT.k1 hS.1
  obtain ⟨f, hs, hf⟩ := hT.k3 hS.2.2.1
  refine h_in rfl rfl (Nat.le_of_ble_eq_true rfl) ?_
  refine h_st rfl rfl ?_
  refine h_st rfl (e_get h0 rfl) ?_
  refine h_st rfl rfl ?_
  refine h_st rfl rfl ?_
  refine h_st rfl (e_len hs (by decide)) ?_
  refine h_st rfl rfl ?_
  refine h_st rfl rfl ?_
  refine h_st rfl rfl ?_
  exact c_58l hS 24 0 _ _ rfl (Ex.refl hT)
theorem c_6l {n : Nat} {tm x1 : Int32} (hr : (ra 3).1 = 16) (h1 : (ra 1).1 = 12) (h2 : (ra 2).1 = 12) (hn : n ≤ 2000) (hS0 : S0 K0) : ∀ (m j : Nat) (σ : ae_S) (K : Nat → Nat), j + m = n → Ex false 0 0 K0 σ0 K σ → σ.2[0]? = some (.inr (7, [.ref 1, .ref 2, .ref 3, .ref 4, .ref 6, .int (tm + nI j)])) → hG ra (d + 5) 6 σ [some (.ref 0), some (.int x1), some (.int (nI n)), some (.int (nI j))] [] 19 (pI (fun σ' v => ∃ K', Ex false 0 0 K0 σ0 K' σ' ∧ σ'.2[0]? = some (.inr (7, [.ref 1, .ref 2, .ref 3, .ref 4, .ref 6, .int (tm + nI n)])) ∧ v = tm + nI n)) := by
  intro m
  induction m with
  | zero =>
    intro j σ K hj hx h0
    have hj : j = n := by omega
    subst hj
    refine h_st rfl rfl ?_
    refine h_st rfl rfl ?_
    refine h_st rfl rfl ?_
    refine h_pc (if_pos (decide_eq_true (nI_le (Nat.le_refl _) (by omega)))) ?_
    refine h_st rfl rfl ?_
    refine h_st rfl (e_get h0 rfl) ?_
    exact h_rt rfl rfl (⟨_, _, rfl, K, hx, h0, rfl⟩)
  | succ m ih =>
    intro j σ K hj hx h0
    have hS := hx.s0 hS0
    have ih1 := fun σ K h1 => ih (j + 1) σ K (by omega) h1
    simp only [← nI_1] at ih1
    have ea : tm + nI j + (nI n - nI j) = tm + nI n := by rw [pk_sub (by omega), Int32.add_assoc, nI_add]; congr 2; omega
    have eb : tm + nI j + 1 = tm + (nI j + 1) := Int32.add_assoc _ _ _
    refine h_st rfl rfl ?_
    refine h_st rfl rfl ?_
    refine h_st rfl rfl ?_
    refine h_pc (if_neg (fun z9 => (nI_ge (show j < n by omega) (by omega)) (of_decide_eq_true z9))) ?_
    refine h_st rfl rfl ?_
    refine h_ci1 rfl (Nat.le_of_ble_eq_true rfl) (rcv1 hx.ty hS.1) rfl (c_7t hx.ty hS) (fun σ' y hy => ?_)
    subst hy
    refine h_st rfl rfl ?_
    refine h_br (fun q1 => ?_) (fun q1 => ?_)
    · refine h_st rfl rfl ?_
      refine h_cv1 rfl (Nat.le_of_ble_eq_true rfl) (rcv1 hx.ty hS.1) rfl (c_11t hx.ty hS hr) (fun σ2 hq => ?_)
      obtain ⟨K2, ex, hn2⟩ := hq
      replace hx := hx.trans ex
      replace hS := ex.s0 hS
      replace h0 := hn2.trans h0
      refine h_st rfl rfl ?_
      refine h_cv1 rfl (Nat.le_of_ble_eq_true rfl) (rcv1 hx.ty hS.1) rfl (c_31t (b := true) hx.ty hS hr h1 h2) (fun σ3 hq => ?_)
      obtain ⟨K3, ex3⟩ := hq
      replace h0 := (ex3.cs (Or.inl hS.1)).trans h0
      replace hx := hx.trans ex3.weak
      replace hS := ex3.s0 hS
      refine h_st rfl rfl ?_
      refine h_cv1 rfl (Nat.le_of_ble_eq_true rfl) (rcv1 hx.ty hS.1) rfl (c_58t (b := true) hx.ty hS) (fun σ4 ex4 => ?_)
      replace h0 := (ex4.cs (Or.inl hS.1)).trans h0
      replace hx := hx.trans ex4.weak
      refine h_st rfl rfl ?_
      refine h_st rfl rfl ?_
      refine h_cv2 rfl (Nat.le_of_ble_eq_true rfl) (rcv1 hx.ty hS.1) rfl (c_9t hx.ty hS 1) (fun σ5 hq => ?_)
      obtain ⟨ex5, ht⟩ := hq
      replace hx := hx.trans ex5
      replace h0 := ht _ h0
      rw [eb] at h0
      refine h_st rfl rfl ?_
      refine h_st rfl rfl ?_
      exact ih1 _ _ hx h0
    · refine h_st rfl rfl ?_
      refine h_st rfl rfl ?_
      refine h_st rfl rfl ?_
      refine h_st rfl rfl ?_
      refine h_cv2 rfl (Nat.le_of_ble_eq_true rfl) (rcv1 hx.ty hS.1) rfl (c_9t hx.ty hS _) (fun σ5 hq => ?_)
      obtain ⟨ex5, ht⟩ := hq
      replace hx := hx.trans ex5
      replace h0 := ht _ h0
      rw [ea] at h0
      refine h_st rfl rfl ?_
      refine h_st rfl rfl ?_
      refine h_st rfl (e_get h0 rfl) ?_
      exact h_rt rfl rfl (⟨_, _, rfl, K, hx, h0, rfl⟩)
theorem c_6t (hT : Ty σ K) (hS : S0 K) (hr : (ra 3).1 = 16) (h1 : (ra 1).1 = 12) (h2 : (ra 2).1 = 12) {tm : Int32} (h0 : σ.2[0]? = some (.inr (7, [.ref 1, .ref 2, .ref 3, .ref 4, .ref 6, .int tm]))) (x : Int32) : hE ra (d + 6) 6 [.ref 0, .int x] σ (pI (fun σ' v => ∃ K', Ex false 0 0 K σ K' σ' ∧ σ'.2[0]? = some (.inr (7, [.ref 1, .ref 2, .ref 3, .ref 4, .ref 6, .int (tm + (if x < 0 ∨ 2000 < x then (0 : Int32) else x))])) ∧ v = tm + (if x < 0 ∨ 2000 < x then (0 : Int32) else x))) := by
  have e0 : tm + nI 0 = tm := by rw [nI_0, Int32.add_zero]
  have h0' := h0
  rw [← e0] at h0'
  have hz : (x < 0 ∨ 2000 < x) → hG ra (d + 5) 6 σ [some (.ref 0), some (.int x), some (.int 0), some (.int 0)] [] 19 (pI (fun σ' v => ∃ K', Ex false 0 0 K σ K' σ' ∧ σ'.2[0]? = some (.inr (7, [.ref 1, .ref 2, .ref 3, .ref 4, .ref 6, .int (tm + (if x < 0 ∨ 2000 < x then (0 : Int32) else x))])) ∧ v = tm + (if x < 0 ∨ 2000 < x then (0 : Int32) else x))) := by
    intro hc
    rw [if_pos hc]
    exact c_6l hr h1 h2 (Nat.zero_le 2000) hS 0 0 _ _ rfl (Ex.refl hT) h0'
  refine h_in rfl rfl (Nat.le_of_ble_eq_true rfl) ?_
  refine h_st rfl rfl ?_
  refine h_st rfl rfl ?_
  refine h_br (fun q1 => ?_) (fun q1 => ?_)
  · refine h_st rfl rfl ?_
    refine h_st rfl rfl ?_
    refine h_st rfl rfl ?_
    refine h_st rfl rfl ?_
    refine h_st rfl rfl ?_
    exact hz (Or.inl q1)
  · refine h_st rfl rfl ?_
    refine h_st rfl rfl ?_
    refine h_st rfl rfl ?_
    refine h_br (fun q2 => ?_) (fun q2 => ?_)
    · refine h_st rfl rfl ?_
      refine h_st rfl rfl ?_
      refine h_st rfl rfl ?_
      refine h_st rfl rfl ?_
      rw [if_neg (fun z => z.elim q1 (fun z => absurd q2 (Int32.not_le.mpr z)))]
      obtain ⟨n, hn, rfl⟩ := nI_of2 (x := x) (M := 2000) (n := 2000) (by decide) q1 q2
      exact c_6l hr h1 h2 hn hS n 0 _ _ (by omega) (Ex.refl hT) h0'
    · refine h_st rfl rfl ?_
      refine h_st rfl rfl ?_
      refine h_st rfl rfl ?_
      refine h_st rfl rfl ?_
      refine h_st rfl rfl ?_
      exact hz (Or.inr (Int32.not_le.mp q2))
theorem c_69t (hT : Ty σ K) (hS : S0 K) (hr : (ra 3).1 = 16) (n e l sz x : Int32) : hE ra (d + 4) 69 [.ref 0, .int n, .int e, .int l, .int sz, .int x] σ (pI (fun σ' _ => ∃ K', Ex b 0 0 K σ K' σ')) := by
  have hx := Ex.refl (b := b) hT
  obtain ⟨tm, h0⟩ := hT.k1 hS.1
  obtain ⟨pb, k, hF, hpb⟩ := hT.fr hS.2.2.2.2.1
  have d0 := kne hS.1 hS.2.2.2.2.1 (by decide)
  have d1 := kne hS.1 hpb (by decide)
  refine h_in rfl rfl (Nat.le_of_ble_eq_true rfl) ?_
  refine h_st rfl rfl ?_
  refine h_ci1 rfl (Nat.le_of_ble_eq_true rfl) rfl rfl (s_27 n) (fun σ' b1 hq => ?_)
  obtain ⟨rfl, hb1⟩ := hq
  clear hb1
  refine h_st rfl rfl ?_
  refine h_br (fun q1 => ?_) (fun q1 => ?_)
  · refine h_st rfl rfl ?_
    exact h_rt rfl rfl (⟨_, _, rfl, _, hx⟩)
  · refine h_st rfl rfl ?_
    refine h_ci1 rfl (Nat.le_of_ble_eq_true rfl) rfl rfl (s_40 e) (fun σ' b1 hq => ?_)
    obtain ⟨rfl, hb1⟩ := hq
    clear hb1
    refine h_st rfl rfl ?_
    refine h_br (fun q2 => ?_) (fun q2 => ?_)
    · refine h_st rfl rfl ?_
      exact h_rt rfl rfl (⟨_, _, rfl, _, hx⟩)
    · refine h_st rfl rfl ?_
      refine h_ci1 rfl (Nat.le_of_ble_eq_true rfl) rfl rfl (s_38 l) (fun σ' b1 hq => ?_)
      obtain ⟨rfl, hb1⟩ := hq
      clear hb1
      refine h_st rfl rfl ?_
      refine h_br (fun q3 => ?_) (fun q3 => ?_)
      · refine h_st rfl rfl ?_
        exact h_rt rfl rfl (⟨_, _, rfl, _, hx⟩)
      · refine h_st rfl rfl ?_
        refine h_st rfl rfl ?_
        refine h_st rfl rfl ?_
        refine h_br (fun q4 => ?_) (fun q4 => ?_)
        · refine h_st rfl rfl ?_
          exact h_rt rfl rfl (⟨_, _, rfl, _, hx⟩)
        · refine h_st rfl rfl ?_
          refine h_st rfl rfl ?_
          refine h_st rfl rfl ?_
          refine h_br (fun q5 => ?_) (fun q5 => ?_)
          · refine h_st rfl rfl ?_
            refine h_st rfl (e_get h0 rfl) ?_
            refine h_st rfl rfl ?_
            refine h_st rfl rfl ?_
            refine h_st rfl rfl ?_
            refine h_st rfl rfl ?_
            refine h_st rfl rfl ?_
            refine h_st rfl rfl ?_
            refine h_cv5 rfl (Nat.le_of_ble_eq_true rfl) (e_rcv hF.1) rfl (c_16 ⟨⟨_, hF.1⟩, hF.2.1.2, hF.2.2⟩ _ _ _ _) (fun σ2 hq => ?_)
            obtain ⟨k2, hF2, o2⟩ := hq
            replace hx := hx.op hS.2.2.2.2.1 hpb hF hF2 o2
            replace h0 := (o2.2.2 0 d0 d1).trans h0
            replace hF := hF2
            clear hF2 o2
            refine h_st rfl rfl ?_
            refine h_st rfl (e_get h0 rfl) ?_
            refine h_st rfl rfl ?_
            refine h_st rfl rfl ?_
            refine h_st rfl rfl ?_
            refine h_st rfl rfl ?_
            refine h_st rfl rfl ?_
            refine h_cv4 rfl (Nat.le_of_ble_eq_true rfl) (e_rcv hF.1) rfl (c_19 hF _ _ _) (fun σ3 hq => ?_)
            obtain ⟨hF2, o2⟩ := hq
            replace hx := hx.op hS.2.2.2.2.1 hpb hF hF2 o2
            replace h0 := (o2.2.2 0 d0 d1).trans h0
            replace hF := hF2
            clear hF2 o2
            refine h_st rfl rfl ?_
            refine h_st rfl (e_get h0 rfl) ?_
            refine h_st rfl rfl ?_
            refine h_st rfl rfl ?_
            refine h_st rfl rfl ?_
            refine h_cv2 rfl (Nat.le_of_ble_eq_true rfl) (e_rcv hF.1) rfl (c_21 hr hF _) (fun σ5 hq => ?_)
            obtain ⟨hF2, o2⟩ := hq
            replace hx := hx.op hS.2.2.2.2.1 hpb hF hF2 o2
            replace h0 := (o2.2.2 0 d0 d1).trans h0
            replace hF := hF2
            clear hF2 o2
            refine h_st rfl rfl ?_
            refine h_st rfl rfl ?_
            refine h_st rfl rfl ?_
            refine h_st rfl rfl ?_
            refine h_st rfl rfl ?_
            refine h_st rfl (e_get h0 rfl) ?_
            refine h_ci5 rfl (Nat.le_of_ble_eq_true rfl) (rcv1 hx.ty hS.1) rfl (c_25t (b := b) hx.ty hS hS.2.2.2.2.1 _ _ _) (fun σ6 y hy => ?_)
            obtain ⟨hyb, K6, ex⟩ := hy
            exact h_rt rfl (hyb) (⟨_, _, rfl, _, hx.trans ex⟩)
          · refine h_st rfl rfl ?_
            exact h_rt rfl rfl (⟨_, _, rfl, _, hx⟩)
end TY9
