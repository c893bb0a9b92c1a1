section SX16
variable {ra : ae_R} {d : Nat} {σ σ0 σ1 σ2 : ae_S} {w w0 w1 w2 : Nat → Nat} {C C' : Nat → Prop} {l i : Nat} {f : Nat → Option Nat} {a : AN} {k : AK} {x : AF}
def rvA (p : AP) (nt : Nat) (x : AF) (tm : Int32) : AP := if ior (x.2 (x.1 - 5)) (pla p nt) then (if tbt (pts p) (pta p) (psk p) (x.2 (x.1 - 5)) tm then jn (ptk (pl1 p nt (x.2 (x.1 - 5))) (x.2 (x.1 - 5)) tm) x.2 (pa x.2 16 - 20).toNatClampNeg tm else pl1 p nt (x.2 (x.1 - 5))) else pl1 p nt (x.2 (x.1 - 5))
def setP (a : AN) (l e : Nat) (p : AP) : AN := (nT a, nK a, nL a, fun l' e' => if l' = l ∧ e' = e then some p else nP a l' e')
/-- a frame at an end system -/
def ens (a : AN) (nt e : Nat) (x : AF) : AN := if okc x.1 x.2 then (match kat a (lnk x.2) with
  | none => a
  | some (l, _) => match nP a l e with
    | none => a
    | some p => if fom x.1 x.2 then setP a l e (rvA p nt x (nT a)) else a) else a
theorem CN.pt {q e r po ac wa fi : Nat} {se : Int32} {pf : Nat → Option Nat} {p' : AP} (h : CN σ w f a) (hl : l < 8) (he : e < 4) (hf : f l = some q) (hk : nK a l = some k) (hL : LK σ w l q k po ac wa fi se) (hpf : σ.2[po]? = some (.inl (7, rfs 4 pf))) (hsq : rg (dsq k) 256) (hPT : ∀ e, e < 4 → (nP a l e = none → pf e = none) ∧ ∀ p, nP a l e = some p → ∃ r, pf e = some r ∧ PT σ w (lb l + 20 + 40 * e) r p) (hr : pf e = some r) (hp : PT σ1 w1 (lb l + 20 + 40 * e) r p') (s : Sa (PC (lb l + 20 + 40 * e)) σ w σ1 w1) : CN σ1 w1 f (setP a l e p') := by
  have wpo := hL.1.2.1
  have cpo : ¬ PC (lb l + 20 + 40 * e) (w po) := by unfold PC; omega
  refine h.lk (k := k) s (fun c z => by unfold PC at z; omega) hl ⟨fun z => ?_, fun k2 hk2 => ?_⟩ (fun j hj => rfl) (fun j hj => ?_)
  · rw [hk] at z
    cases z
  · rw [hk] at hk2
    cases hk2
    refine ⟨q, po, ac, wa, fi, se, pf, hf, hL.sa s (fun c z1 z2 z => by unfold PC at z; omega) (s.wt hpf cpo), s.at hpf cpo, hsq, fun e' he' => ?_⟩
    by_cases c : e' = e
    · subst c
      refine ⟨fun z => ?_, fun p hp2 => ?_⟩
      · have z' : (if l = l ∧ e' = e' then some p' else nP a l e') = none := z
        rw [if_pos ⟨rfl, rfl⟩] at z'
        cases z'
      · have z' : (if l = l ∧ e' = e' then some p' else nP a l e') = some p := hp2
        rw [if_pos ⟨rfl, rfl⟩] at z'
        cases z'
        exact ⟨r, hr, hp⟩
    · refine ⟨fun z => ?_, fun p hp2 => ?_⟩
      · have z' : (if l = l ∧ e' = e then some p' else nP a l e') = none := z
        rw [if_neg (fun u => c u.2)] at z'
        exact (hPT e' he').1 z'
      · have z' : (if l = l ∧ e' = e then some p' else nP a l e') = some p := hp2
        rw [if_neg (fun u => c u.2)] at z'
        obtain ⟨r', h6, h7⟩ := (hPT e' he').2 p z'
        exact ⟨r', h6, h7.sa s (fun c' z z2 => by unfold PC at z z2; omega)⟩
  · funext e'
    exact if_neg (fun u => hj u.1)
theorem FX.rgN {p pb n j : Nat} {g : Nat → Int32} (h : FX σ p pb n g) (hj : j < n) : ∃ b, b < 256 ∧ g j = nI b := by
  obtain ⟨b, hb, e⟩ := pk_andE (g j) (m := 255) 8 (by decide)
  exact ⟨b, hb, (h.rg hj).symm.trans e⟩
theorem c_33n (hck : ra 3 = (16, ckt)) {nt e fr fb ci : Nat} {u v : Int32} (eu : u = nI nt) (ev : v = nI e) (hnt : nt < 2) (he : e < 4) (h : CN σ w f a) (hF : FX σ fr fb x.1 x.2) (hx : 64 ≤ x.1) (w1 : w fr = 100 * ci + 10) (w2 : w fb = 100 * ci + 11) (hci : ci < 24) : hE ra (d + 5) 33 [.ref 0, .int u, .int v, .ref fr] σ (pI (fun σ' v => (∃ w', CN σ' w' f (ens a nt e x)) ∧ (v = -1 ∨ ∃ r, v = nI r ∧ r < 12))) := by
  subst eu
  subst ev
  have hx2 := hF.2.1.1
  have h0 := h.1.1.1
  refine h_in rfl rfl (Nat.le_of_ble_eq_true rfl) ?_
  refine h_st rfl rfl ?_
  refine h_ci1 rfl (Nat.le_of_ble_eq_true rfl) (e_rcv (hF.1)) rfl (c_34x hck hF hx) (fun σ' y hy => ?_)
  obtain ⟨rfl, hy⟩ := hy
  refine h_st rfl rfl ?_
  refine h_br (fun q0 => ?_) (fun q0 => ?_)
  · have hok : okc x.1 x.2 := b_2 hy q0
    have ep : ens a nt e x = (match kat a (lnk x.2) with | none => a | some (l, _) => match nP a l e with | none => a | some p => if fom x.1 x.2 then setP a l e (rvA p nt x (nT a)) else a) := if_pos hok
    refine h_st rfl rfl ?_
    refine h_st rfl rfl ?_
    refine h_ci1 rfl (Nat.le_of_ble_eq_true rfl) (e_rcv (hF.1)) rfl (c_36x hF hx) (fun σ' y1 hy1 => ?_)
    obtain ⟨rfl, rfl⟩ := hy1
    refine h_cr2 rfl (Nat.le_of_ble_eq_true rfl) (e_rcv (h0)) rfl (c_37z h (lnk x.2)) (fun σ' q hq => ?_)
    obtain ⟨rfl, hq⟩ := hq
    rcases hq with ⟨rfl, hkat⟩ | ⟨r, l, k, rfl, hl, -, hkat, hf, hk⟩
    · rw [hkat] at ep
      refine h_st rfl rfl ?_
      refine h_st rfl rfl ?_
      refine h_st rfl rfl ?_
      refine h_st rfl rfl ?_
      exact h_rt rfl rfl (⟨_, _, rfl, ⟨w, by rw [ep]; exact h⟩, Or.inr ⟨2, rfl, by decide⟩⟩)
    · rw [hkat] at ep
      obtain ⟨q', po, ac, wa, fi, se, pf, e1, hL, hpf, hsq, hPT⟩ := (h.2.2.2.2.2 l hl).2 k hk
      rw [hf] at e1
      injection e1 with e1
      subst e1
      replace ep : ens a nt e x = (match nP a l e with | none => a | some p => if fom x.1 x.2 then setP a l e (rvA p nt x (nT a)) else a) := ep
      refine h_st rfl rfl ?_
      refine h_st rfl rfl ?_
      refine h_st rfl rfl ?_
      refine h_st rfl rfl ?_
      refine h_st rfl rfl ?_
      refine h_cr2 rfl (Nat.le_of_ble_eq_true rfl) (hL.rcv) rfl (c_39x hL.2.1 hpf (nI e)) (fun σ2 q2 hq2 => ?_)
      obtain ⟨rfl, hq2⟩ := hq2
      have eq2 : q2 = pf e := by
        rcases hq2 with z | ⟨k', z1, z2, z3⟩
        · exact absurd ⟨nI_pos (by omega), nI_ge (b := 4) he (by decide)⟩ z.2
        · rw [z3, (nI_eq (by omega) (by omega)).mp z2]
      subst eq2
      cases hp : nP a l e with
      | none =>
        rw [hp] at ep
        rw [(hPT e he).1 hp]
        refine h_st rfl rfl ?_
        refine h_st rfl rfl ?_
        refine h_st rfl rfl ?_
        refine h_st rfl rfl ?_
        exact h_rt rfl rfl (⟨_, _, rfl, ⟨w, by rw [ep]; exact h⟩, Or.inr ⟨3, rfl, by decide⟩⟩)
      | some p =>
        rw [hp] at ep
        replace ep : ens a nt e x = (if fom x.1 x.2 then setP a l e (rvA p nt x (nT a)) else a) := ep
        obtain ⟨r', hr', hPt⟩ := (hPT e he).2 p hp
        rw [hr']
        refine h_st rfl rfl ?_
        refine h_st rfl rfl ?_
        refine h_st rfl rfl ?_
        refine h_st rfl rfl ?_
        refine h_ci1 rfl (Nat.le_of_ble_eq_true rfl) (e_rcv (hF.1)) rfl (c_41x hF hx) (fun σ3 y3 hy3 => ?_)
        obtain ⟨rfl, hy3⟩ := hy3
        refine h_st rfl rfl ?_
        refine h_br (fun q4 => ?_) (fun q4 => ?_)
        · have hfm : fom x.1 x.2 := b_2 hy3 q4
          rw [if_pos hfm] at ep
          have hPt' := hPt
          obtain ⟨la, be, ke, fk, n, ib, bn, fs, y, hPx, hbg⟩ := hPt'
          obtain ⟨m, hm, em⟩ := nI_of hfm.2.2.2.2.2.1
          have hmf : m + 39 ≤ x.1 := by
            have z := hfm.2.2.2.2.2.2
            rw [em, show (39 : Int32) = nI 39 from rfl, pk_sub (by omega)] at z
            have := Nat.le_of_not_lt (fun u => z (nI_lt u (by omega)))
            omega
          obtain ⟨b, hb, eb⟩ := hF.rgN (j := 21) (by omega)
          have epl : x.2 21 * 8 = nI (b * 8) := by rw [eb]; exact pk_mul b 8
          have hlb : 3000 ≤ lb l := by unfold lb; omega
          refine h_st rfl rfl ?_
          refine h_st rfl rfl ?_
          refine h_st rfl rfl ?_
          refine h_ci1 rfl (Nat.le_of_ble_eq_true rfl) (e_rcv (hF.1)) rfl (c_43x hF hx) (fun σ4 s hs => ?_)
          obtain ⟨rfl, rfl⟩ := hs
          refine h_st rfl rfl ?_
          refine h_st rfl (e_get h0 rfl) ?_
          refine h_ci4 rfl (Nat.le_of_ble_eq_true rfl) (hPx.rcv) rfl (c_44z (tm := nT a) rfl hPx hnt) (fun σ5 v5 hv5 => ?_)
          obtain ⟨s5, hv5⟩ := hv5
          rcases hv5 with ⟨rfl, c1, g5⟩ | ⟨rfl, c1, c2, g5⟩ | ⟨rfl, c1, c2, g5⟩
          · refine h_st rfl rfl ?_
            refine h_st rfl rfl ?_
            refine h_st rfl rfl ?_
            refine h_st rfl rfl ?_
            refine h_pc (if_pos (by decide)) ?_
            refine h_st rfl rfl ?_
            exact h_rt rfl rfl (⟨_, _, rfl, ⟨w, by rw [ep]; unfold rvA; rw [if_neg c1]; exact (h.pt hl he hf hk hL hpf hsq hPT hr' ⟨la, be, ke, fk, n, ib, bn, fs, y, g5, hbg⟩ s5)⟩, Or.inr ⟨8, rfl, by decide⟩⟩)
          · refine h_st rfl rfl ?_
            refine h_st rfl rfl ?_
            refine h_st rfl rfl ?_
            refine h_st rfl rfl ?_
            refine h_pc (if_pos (by decide)) ?_
            refine h_st rfl rfl ?_
            exact h_rt rfl rfl (⟨_, _, rfl, ⟨w, by rw [ep]; unfold rvA; rw [if_pos c1, if_neg c2]; exact (h.pt hl he hf hk hL hpf hsq hPT hr' ⟨la, be, ke, fk, n, ib, bn, fs, y, g5, hbg⟩ s5)⟩, Or.inr ⟨9, rfl, by decide⟩⟩)
          · have h5 := (h.pt hl he hf hk hL hpf hsq hPT hr' ⟨la, be, ke, fk, n, ib, bn, fs, y, g5, hbg⟩ s5)
            have hF5 := hF.sa s5 (by unfold PC; omega) (by unfold PC; omega)
            refine h_st rfl rfl ?_
            refine h_st rfl rfl ?_
            refine h_st rfl rfl ?_
            refine h_st rfl rfl ?_
            refine h_pc (if_neg (by decide)) ?_
            refine h_st rfl rfl ?_
            refine h_st rfl rfl ?_
            refine h_st rfl rfl ?_
            refine h_st rfl (e_get (h5.1.1.1) rfl) ?_
            refine h_ci3 rfl (Nat.le_of_ble_eq_true rfl) (g5.rcv) rfl (c_47z (tm := nT a) hF5 hx em hmf ⟨by omega, by omega⟩ (by omega) epl (by omega) ⟨la, be, ke, fk, n, ib, bn, fs, y, g5, hbg⟩) (fun σ6 v6 hv6 => ?_)
            obtain ⟨w6, g6, s6, hv6⟩ := hv6
            refine h_st rfl rfl ?_
            exact h_rt rfl rfl (⟨_, _, rfl, ⟨w6, by rw [ep]; unfold rvA; rw [if_pos c1, if_pos c2, show (pa x.2 16 - 20).toNatClampNeg = m by rw [em]; exact nI_clamp (by omega)]; exact h.pt hl he hf hk hL hpf hsq hPT hr' g6 (s5.trans s6)⟩, hv6⟩)
        · rw [if_neg (hy3.elim (fun z => absurd (z.1.symm.trans (Decidable.of_not_not q4)) (by decide)) (fun z => z.2))] at ep
          refine h_st rfl rfl ?_
          exact h_rt rfl rfl (⟨_, _, rfl, ⟨w, by rw [ep]; exact h⟩, Or.inr ⟨7, rfl, by decide⟩⟩)
  · refine h_st rfl rfl ?_
    exact h_rt rfl rfl (⟨_, _, rfl, ⟨w, by rw [show ens a nt e x = a from if_neg (hy.elim (fun z => absurd (z.1.symm.trans (Decidable.of_not_not q0)) (by decide)) (fun z => z.2))]; exact h⟩, Or.inr ⟨1, rfl, by decide⟩⟩)
/-- a line moves its frame -/
def mv (a : AN) (i : Nat) : AN := match (nL a i).2.2.1 with
  | none => a
  | some (x, t) => if 8 * (t + 1) < x.1 then setL a i (won (nL a i) (some (x, t + 1))) else if ent (i % 12) = -1 then ens (setL a i (won (nL a i) none)) (i / 12) (i % 12 - 4) x else psw (setL a i (won (nL a i) none)) (i / 12) (i % 12) x
def mva (a : AN) : Nat → AN
  | 0 => a
  | j + 1 => mv (mva a j) j
theorem ent_e : ∀ j, j < 12 → ent j = -1 → 4 ≤ j ∧ j < 8 := by decide
theorem CN.dc (h : CN σ w f a) (g : Nat → Int32) : CN (σ.1, σ.2.set 3 (.inl (0, 12, .inl g))) w f a := by
  obtain ⟨h1, h2, h3, h4, ⟨h5, h6⟩, h7⟩ := h
  obtain ⟨n1, s⟩ := h1.dc g
  exact ⟨n1, h2.sa s (by omega) (by omega), h3.sa s (by omega) (by omega), fun j hj => (h4 j hj).sa s (fun c z => by unfold LC at z; omega), ⟨s.at h5 (by omega), h6⟩, fun l hl => (h7 l hl).sa s (fun c z1 z2 => by unfold lb at z1; omega)⟩
/-- what is dropped is counted -/
theorem c_31d {j : Nat} {x2 x3 : Option Value} {v : Int32} (h : CN σ w f a) (hv : v = -1 ∨ ∃ r, v = nI r ∧ r < 12) {P : ae_S × ae_O → Prop} (hX : ∀ σ' x3, CN σ' w f a → hG ra d 31 σ' [some (.ref 0), some (.int (nI j)), x2, x3] [] 97 P) : hG ra d 31 σ [some (.ref 0), some (.int (nI j)), x2, x3] [.int v] 81 P := by
  obtain ⟨dc, hdc⟩ := h.1.2.2.2.1
  have h0 := h.1.1.1
  rcases hv with rfl | ⟨r, rfl, hr⟩
  · refine h_st rfl rfl ?_
    refine h_st rfl rfl ?_
    refine h_st rfl rfl ?_
    refine h_st rfl rfl ?_
    refine h_pc (if_pos (by decide)) ?_
    exact hX _ _ h
  · refine h_st rfl rfl ?_
    refine h_st rfl rfl ?_
    refine h_st rfl rfl ?_
    refine h_st rfl rfl ?_
    refine h_pc (if_neg (fun z9 => (nI_nm1 (by omega)) (of_decide_eq_true z9))) ?_
    refine h_st rfl rfl ?_
    refine h_st rfl (e_get h0 rfl) ?_
    refine h_st rfl rfl ?_
    refine h_st rfl rfl ?_
    refine h_st rfl (e_ia hdc (nI_in hr (by decide))) ?_
    refine h_st rfl rfl ?_
    refine h_st rfl rfl ?_
    refine h_st rfl (e_ias hdc (nI_in hr (by decide))) ?_
    exact hX _ _ (h.dc _)
theorem c_31ln (hck : ra 3 = (16, ckt)) (hr1 : ra 1 = (12, lvt)) (hr2 : ra 2 = (12, ent)) : ∀ (m j : Nat) (σ : ae_S) (w : Nat → Nat) (x2 x3 : Option Value), j + m = 24 → CN σ w f (mva a j) → hG ra (d + 5) 31 σ [some (.ref 0), some (.int (nI j)), x2, x3] [] 2 (pV (fun σ' => ∃ w', CN σ' w' f (mva a 24))) := by
  have e2 : (ra 2).1 = 12 ∧ (ra 2).2 = ent := by rw [hr2]; exact ⟨rfl, rfl⟩
  intro m
  induction m with
  | zero =>
    intro j σ w x2 x3 hj h
    have hj : j = 24 := by omega
    subst hj
    have h0 := h.1.1.1
    obtain ⟨fl, hfl, -⟩ := h.1.2.1
    refine h_st rfl rfl ?_
    refine h_st rfl rfl ?_
    refine h_st rfl (e_get h0 rfl) ?_
    refine h_st rfl (e_len hfl (by decide)) ?_
    refine h_st rfl rfl ?_
    refine h_pc (if_pos (decide_eq_true (nI_le (Nat.le_refl 24) (by decide)))) ?_
    exact h_rv rfl (⟨_, rfl, w, h⟩)
  | succ m ih =>
    intro j σ w x2 x3 hj h
    have hj24 : j < 24 := by omega
    have ih1 : ∀ σ w x2 x3, CN σ w f (mva a (j + 1)) → hG ra (d + 5) 31 σ [some (.ref 0), some (.int (nI j + 1)), x2, x3] [] 2 (pV (fun σ' => ∃ w', CN σ' w' f (mva a 24))) := fun σ w x2 x3 h => by rw [nI_1]; exact ih (j + 1) σ w x2 x3 (by omega) h
    have hmv : mva a (j + 1) = mv (mva a j) j := rfl
    have h0 := h.1.1.1
    obtain ⟨fl, hfl, hfl2⟩ := h.1.2.1
    have hin : ¬ (nI j < 0 ∨ 24 ≤ (nI j).toNatClampNeg) := nI_in hj24 (by decide)
    have hv : va_rf (fl (nI j).toNatClampNeg) = .ref (8 + 7 * j) := by rw [nI_clamp (by omega), hfl2 _ hj24]; rfl
    have hA := h.2.2.2.1 j hj24
    have hA' := hA
    obtain ⟨fr0, b0, g0, e0, hp0, mk0, x0, hW, -⟩ := hA'
    refine h_st rfl rfl ?_
    refine h_st rfl rfl ?_
    refine h_st rfl (e_get h0 rfl) ?_
    refine h_st rfl (e_len hfl (by decide)) ?_
    refine h_st rfl rfl ?_
    refine h_pc (if_neg (fun z9 => (nI_ge (b := 24) hj24 (by decide)) (of_decide_eq_true z9))) ?_
    refine h_st rfl rfl ?_
    refine h_st rfl (e_get h0 rfl) ?_
    refine h_st rfl rfl ?_
    refine h_st rfl ((e_aa hfl (by decide) hin).trans (by rw [hv])) ?_
    refine h_ci1 rfl (Nat.le_of_ble_eq_true rfl) (hW.rcv) rfl (c_32x hA) (fun σ2 v2 hv2 => ?_)
    obtain ⟨s2, hv2⟩ := hv2
    rcases hv2 with ⟨rfl, en, rfl⟩ | ⟨rfl, x, t, en, hlt, hA2⟩ | ⟨rfl, x, t, en, hge, hA2, fr, b, g, e, hp, mk, pb, k1, k2, k3, k4, hx⟩
    · have es : mva a (j + 1) = mva a j := by rw [hmv]; unfold mv; rw [en]
      refine h_st rfl rfl ?_
      refine h_pc (if_neg (by decide)) ?_
      refine h_st rfl rfl ?_
      refine h_st rfl rfl ?_
      refine h_st rfl rfl ?_
      exact ih1 _ w _ _ (by rw [es]; exact h)
    · have es : mva a (j + 1) = setL (mva a j) j (won (nL (mva a j) j) (some (x, t + 1))) := by
        rw [hmv]
        unfold mv
        rw [en]
        exact if_pos hlt
      have h2 := h.ln s2 (fun c z => Or.inl z) hj24 hA2 (h.1.sa s2 (by unfold LC; omega) (by unfold LC; omega) (by unfold LC; omega)) (h.2.1.sa s2 (by unfold LC; omega) (by unfold LC; omega))
      refine h_st rfl rfl ?_
      refine h_pc (if_neg (by decide)) ?_
      refine h_st rfl rfl ?_
      refine h_st rfl rfl ?_
      refine h_st rfl rfl ?_
      exact ih1 _ w _ _ (by rw [es]; exact h2)
    · have es : mva a (j + 1) = (if ent (j % 12) = -1 then ens (setL (mva a j) j (won (nL (mva a j) j) none)) (j / 12) (j % 12 - 4) x else psw (setL (mva a j) j (won (nL (mva a j) j) none)) (j / 12) (j % 12) x) := by
        rw [hmv]
        unfold mv
        rw [en]
        exact if_neg (by omega)
      have h2 := h.ln s2 (fun c z => Or.inl z) hj24 hA2 (h.1.sa s2 (by unfold LC; omega) (by unfold LC; omega) (by unfold LC; omega)) (h.2.1.sa s2 (by unfold LC; omega) (by unfold LC; omega))
      have hd12 : nI j / 12 = nI (j / 12) := pk_div (d := 12) (by omega) (by decide) (by decide)
      have hm12 : nI j - nI j / 12 * 12 = nI (j % 12) := pk_rem (d := 12) (by omega) (by decide) (by decide)
      have hmod : j % 12 < 12 := Nat.mod_lt _ (by decide)
      have i2 : ¬ ((nI j - nI j / 12 * 12) < 0 ∨ (ra 2).1 ≤ (nI j - nI j / 12 * 12).toNatClampNeg) := by rw [e2.1, hm12]; exact nI_in hmod (by decide)
      have v2 : (ra 2).2 (nI j - nI j / 12 * 12).toNatClampNeg = ent (j % 12) := by rw [e2.2, hm12, nI_clamp (by omega)]
      obtain ⟨fl', hfl', hfl2'⟩ := h2.1.2.1
      have hv' : va_rf (fl' (nI j).toNatClampNeg) = .ref (8 + 7 * j) := by rw [nI_clamp (by omega), hfl2' _ hj24]; rfl
      have h02 := h2.1.1.1
      refine h_st rfl rfl ?_
      refine h_pc (if_pos (by decide)) ?_
      refine h_st rfl rfl ?_
      refine h_st rfl rfl ?_
      refine h_st rfl (e_dv (by decide)) ?_
      refine h_st rfl rfl ?_
      refine h_st rfl rfl ?_
      refine h_st rfl rfl ?_
      refine h_st rfl ((e_ro (by decide) i2).trans (by rw [v2])) ?_
      refine h_st rfl rfl ?_
      refine h_st rfl rfl ?_
      refine h_br (fun q => ?_) (fun q => ?_)
      · refine h_st rfl rfl ?_
        refine h_st rfl rfl ?_
        refine h_st rfl rfl ?_
        refine h_st rfl (e_dv (by decide)) ?_
        refine h_st rfl rfl ?_
        refine h_st rfl rfl ?_
        refine h_st rfl (e_get h02 rfl) ?_
        refine h_st rfl rfl ?_
        refine h_st rfl ((e_aa hfl' (by decide) hin).trans (by rw [hv'])) ?_
        refine h_st rfl (e_get k1 rfl) ?_
        refine h_ci4 rfl (Nat.le_of_ble_eq_true rfl) (e_rcv (h02)) rfl (c_55n (d := d + 1) hck hr1 hr2 hd12 hm12 (by omega) hmod h2 k4 hx k2 k3 hj24) (fun σ3 v3 hv3 => ?_)
        obtain ⟨⟨w3, h3⟩, hv3⟩ := hv3
        refine c_31d (w := w3) (a := mva a (j + 1)) (by rw [es, if_neg q]; exact h3) hv3 (fun σ4 x3 h4 => ?_)
        refine h_st rfl rfl ?_
        refine h_st rfl rfl ?_
        exact ih1 _ w3 _ _ h4
      · refine h_st rfl rfl ?_
        refine h_st rfl rfl ?_
        refine h_st rfl rfl ?_
        refine h_st rfl (e_dv (by decide)) ?_
        refine h_st rfl rfl ?_
        refine h_st rfl rfl ?_
        refine h_st rfl rfl ?_
        refine h_st rfl rfl ?_
        refine h_st rfl (e_get h02 rfl) ?_
        refine h_st rfl rfl ?_
        refine h_st rfl ((e_aa hfl' (by decide) hin).trans (by rw [hv'])) ?_
        refine h_st rfl (e_get k1 rfl) ?_
        refine h_ci4 rfl (Nat.le_of_ble_eq_true rfl) (e_rcv (h02)) rfl (c_33n (d := d) hck hd12 (by rw [hm12, show (4 : Int32) = nI 4 from rfl]; exact pk_sub (ent_e _ hmod (Decidable.of_not_not q)).1) (by omega) (by have := ent_e _ hmod (Decidable.of_not_not q); omega) h2 k4 hx k2 k3 hj24) (fun σ3 v3 hv3 => ?_)
        obtain ⟨⟨w3, h3⟩, hv3⟩ := hv3
        refine h_st rfl rfl ?_
        refine c_31d (w := w3) (a := mva a (j + 1)) (by rw [es, if_pos (Decidable.of_not_not q)]; exact h3) hv3 (fun σ4 x3 h4 => ?_)
        refine h_st rfl rfl ?_
        refine h_st rfl rfl ?_
        exact ih1 _ w3 _ _ h4
theorem c_31n (hck : ra 3 = (16, ckt)) (hr1 : ra 1 = (12, lvt)) (hr2 : ra 2 = (12, ent)) (h : CN σ w f a) : hE ra (d + 6) 31 [.ref 0] σ (pV (fun σ' => ∃ w', CN σ' w' f (mva a 24))) := by
  refine h_in rfl rfl (Nat.le_of_ble_eq_true rfl) ?_
  refine h_st rfl rfl ?_
  refine h_st rfl rfl ?_
  exact c_31ln hck hr1 hr2 24 0 _ w _ _ rfl h
end SX16
