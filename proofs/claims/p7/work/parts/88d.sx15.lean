section SX15
variable {ra : ae_R} {d : Nat} {σ σ0 σ1 σ2 : ae_S} {w w0 w1 w2 : Nat → Nat} {C C' : Nat → Prop} {l i : Nat} {f : Nat → Option Nat} {a : AN} {k : AK} {x : AF}
def lvt : Nat → Int32 := fun j => rv_1.getD j 0
def ent : Nat → Int32 := fun j => rv_2.getD j 0
/-- the link that a frame names -/
def kat (a : AN) (v : Int32) : Option (Nat × AK) := if v < 0 ∨ 8 ≤ v then none else match nK a v.toNatClampNeg with
  | none => none
  | some k => some (v.toNatClampNeg, k)
theorem c_37z (h : CN σ w f a) (v : Int32) : hE ra (d + 2) 37 [.ref 0, .int v] σ (pR (fun σ' q => σ' = σ ∧ ((q = none ∧ kat a v = none) ∨ ∃ r l k, q = some r ∧ l < 8 ∧ v = nI l ∧ kat a v = some (l, k) ∧ f l = some r ∧ nK a l = some k))) := by
  obtain ⟨hN, -, -, -, ⟨hA, -⟩, hC⟩ := h
  refine h_in rfl rfl (Nat.le_of_ble_eq_true rfl) ?_
  refine h_st rfl rfl ?_
  refine h_ci1 rfl (Nat.le_of_ble_eq_true rfl) rfl rfl (s_38 v) (fun σ' y hy => ?_)
  obtain ⟨rfl, hy⟩ := hy
  refine h_st rfl rfl ?_
  refine h_br (fun q => ?_) (fun q => ?_)
  · refine h_st rfl rfl ?_
    exact h_rt rfl rfl (⟨_, none, rfl, rfl, Or.inl ⟨rfl, if_pos (Decidable.of_not_not (fun u => hy.elim (fun z => absurd (z.1.symm.trans q) (by decide)) (fun z => z.2 ⟨fun p => u (Or.inl p), fun p => u (Or.inr p)⟩)))⟩⟩)
  · obtain ⟨j, hj, rfl⟩ := i_ix (n := 8) (x := v) (by decide) (b_2 hy q).1 (b_2 hy q).2
    have hin : ¬ (nI j < 0 ∨ 8 ≤ (nI j).toNatClampNeg) := nI_in hj (by decide)
    have ej : (nI j).toNatClampNeg = j := nI_clamp (by omega)
    refine h_st rfl rfl ?_
    refine h_st rfl (e_get hN.1.1 rfl) ?_
    refine h_st rfl rfl ?_
    refine h_st rfl ((e_aa hA (by decide) hin).trans (by rw [ej])) ?_
    refine h_st rfl rfl ?_
    exact h_rt rfl (k_rv _) (⟨_, f j, rfl, rfl, (by
        have ek : kat a (nI j) = (match nK a j with | none => none | some k => some (j, k)) := by
          unfold kat
          rw [if_neg (fun z => z.elim (b_2 hy q).1 (b_2 hy q).2), ej]
        cases hk : nK a j with
        | none =>
          rw [hk] at ek
          exact Or.inl ⟨(hC j hj).1 hk, ek⟩
        | some k =>
          rw [hk] at ek
          obtain ⟨r, _, _, _, _, _, _, e1, _⟩ := (hC j hj).2 k hk
          exact Or.inr ⟨r, j, k, e1, hj, rfl, ek, e1, hk⟩)⟩)
/-- a link's account is charged -/
def pyk (k : AK) (nt : Nat) (v : Int32) : AK := (k.1, k.2.1, upd (kac k) nt (kac k nt - v))
theorem LK.pay {q po ac wa fi nt : Nat} {se v : Int32} {fa : Nat → Int32} (h : LK σ w l q k po ac wa fi se) (hn2 : nt < 2) (ha : σ.2[ac]? = some (.inl (0, 2, .inl fa))) : LK (σ.1, σ.2.set ac (.inl (0, 2, .inl (upd fa nt (kac k nt - v))))) w l q (pyk k nt v) po ac wa fi se ∧ Sa (fun c => c = lb l + 2) σ w (σ.1, σ.2.set ac (.inl (0, 2, .inl (upd fa nt (kac k nt - v))))) w := by
  obtain ⟨⟨a1, a2, a3, a4⟩, h1, h2, h3, ⟨fa', h4, h5⟩, fw, h6, h7, h8⟩ := h
  rw [ha] at h4
  injection h4 with h4
  injection h4 with h4
  injection h4 with h4 h4'
  injection h4' with h4 h4'
  injection h4' with h4
  subst h4
  have s := Sa.set (σ := σ) (w := w) (p := ac) (y := .inl (0, 2, .inl (upd fa nt (kac k nt - v))))
  rw [a3] at s
  refine ⟨⟨⟨a1, a2, a3, a4⟩, s.at h1 (by omega), h2, h3, ⟨_, st_get ha, ?_⟩, fw, s.at h6 (by omega), fun j hj => ?_, fun j x hx => ?_⟩, s⟩
  · show upd fa nt _ 0 = upd (kac k) nt _ 0 ∧ upd fa nt _ 1 = upd (kac k) nt _ 1
    unfold upd
    rw [h5.1, h5.2]
    exact ⟨rfl, rfl⟩
  · obtain ⟨q', v0, v1, v2, v3, v4, v5, e1, e2, e3⟩ := h7 j hj
    exact ⟨q', v0, v1, v2, v3, v4, v5, e1, e2, s.at e3 (by omega)⟩
  · obtain ⟨e0, q', e1, e2⟩ := h8 j x hx
    obtain ⟨q'', v0, v1, v2, v3, v4, v5, e3, e4, e5⟩ := h7 ((fi + j) % 8) (Nat.mod_lt _ (by decide))
    have e6 : q'' = q' := by
      rw [e1] at e3
      injection e3 with e3
      exact e3.symm
    subst e6
    exact ⟨e0, q'', e1, s.at e2 (by omega)⟩
theorem LK.fa {q po ac wa fi nt : Nat} {se : Int32} (h : LK σ w l q k po ac wa fi se) (hn2 : nt < 2) : ∃ fa, σ.2[ac]? = some (.inl (0, 2, .inl fa)) ∧ fa nt = kac k nt := by
  obtain ⟨_, _, _, _, ⟨fa, h4, h5⟩, _⟩ := h
  refine ⟨fa, h4, ?_⟩
  rcases (show nt = 0 ∨ nt = 1 by omega) with z | z <;> rw [z]
  · exact h5.1
  · exact h5.2
theorem c_57z {q po ac wa fi nt : Nat} {se u s : Int32} (eu : u = nI nt) (hn2 : nt < 2) (h : LK σ w l q k po ac wa fi se) : hE ra (d + 1) 57 [.ref q, .int u, .int s] σ (pI (fun σ' v => (v = 0 ∧ σ' = σ ∧ ¬ s * kga k ≤ kac k nt) ∨ (v = 1 ∧ s * kga k ≤ kac k nt ∧ LK σ' w l q (pyk k nt (s * kga k)) po ac wa fi se ∧ Sa (fun c => c = lb l + 2) σ w σ' w))) := by
  subst eu
  obtain ⟨fa, h4, h5⟩ := h.fa hn2
  have hin : ¬ (nI nt < 0 ∨ 2 ≤ (nI nt).toNatClampNeg) := nI_in hn2 (by decide)
  have en : (nI nt).toNatClampNeg = nt := nI_clamp (by omega)
  have efa : fa (nI nt).toNatClampNeg = kac k nt := by rw [en]; exact h5
  refine h_in rfl rfl (Nat.le_of_ble_eq_true rfl) ?_
  refine h_st rfl rfl ?_
  refine h_st rfl rfl ?_
  refine h_st rfl (e_get h.2.1 rfl) ?_
  refine h_st rfl rfl ?_
  refine h_st rfl rfl ?_
  refine h_st rfl rfl ?_
  refine h_st rfl (e_get h.2.1 rfl) ?_
  refine h_st rfl rfl ?_
  refine h_st rfl ((e_ia h4 hin).trans (by rw [efa])) ?_
  refine h_st rfl rfl ?_
  refine h_st rfl rfl ?_
  refine h_br (fun q => ?_) (fun q => ?_)
  · refine h_st rfl rfl ?_
    refine h_st rfl (e_get h.2.1 rfl) ?_
    refine h_st rfl rfl ?_
    refine h_st rfl rfl ?_
    refine h_st rfl ((e_ia h4 hin).trans (by rw [efa])) ?_
    refine h_st rfl rfl ?_
    refine h_st rfl rfl ?_
    refine h_st rfl ((e_ias h4 hin).trans (by rw [en])) ?_
    refine h_st rfl rfl ?_
    exact h_rt rfl rfl (⟨_, _, rfl, Or.inr ⟨rfl, q, h.pay hn2 h4⟩⟩)
  · refine h_st rfl rfl ?_
    exact h_rt rfl rfl (⟨_, _, rfl, Or.inl ⟨rfl, rfl, q⟩⟩)
theorem c_56z {q po ac wa fi : Nat} {se u : Int32} (h : LK σ w l q k po ac wa fi se) : hE ra (d + 1) 56 [.ref q, .int u] σ (pI (fun σ' v => σ' = σ ∧ (v = 0 ↔ ¬ bit (kpa k) u))) := c_56x h.2.1 u
/-- a frame is copied to the rows behind a switch -/
def fwd (a : AN) (nt ln : Nat) (k : AK) (x : AF) : Nat → AN
  | 0 => a
  | j + 1 => if lvt (4 + j) = ent ln ∧ bit (kpa k) (nI (4 + j)) then setL (fwd a nt ln k x j) (12 * nt + (4 + j)) (enq (12 * nt + (4 + j)) (khi k) x (nL (fwd a nt ln k x j) (12 * nt + (4 + j)))) else fwd a nt ln k x j
theorem fwd_K {nt ln : Nat} : ∀ j, nK (fwd a nt ln k x j) = nK a
  | 0 => rfl
  | j + 1 => by
    unfold fwd
    split
    · exact fwd_K j
    · exact fwd_K j
theorem c_55ln (hr1 : ra 1 = (12, lvt)) (hr2 : ra 2 = (12, ent)) {nt ln fr fb q ci : Nat} (hl : l < 8) (hnt : nt < 2) (hln : ln < 12) (hk : nK a l = some k) (hf : f l = some q) (hx : 64 ≤ x.1) : ∀ (m j : Nat) (σ : ae_S) (w : Nat → Nat), j + m = 8 → CN σ w f (fwd a nt ln k x j) → FX σ fr fb x.1 x.2 → w fr = 100 * ci + 10 → w fb = 100 * ci + 11 → hG ra (d + 3) 55 σ [some (.ref 0), some (.int (nI nt)), some (.int (nI ln)), some (.ref fr), some (.ref q), some (.int (nI (4 + j)))] [] 74 (pI (fun σ' v => v = -1 ∧ ∃ w', CN σ' w' f (fwd a nt ln k x 8))) := by
  have e1 : (ra 1).1 = 12 ∧ (ra 1).2 = lvt := by rw [hr1]; exact ⟨rfl, rfl⟩
  have e2 : (ra 2).1 = 12 ∧ (ra 2).2 = ent := by rw [hr2]; exact ⟨rfl, rfl⟩
  intro m
  induction m with
  | zero =>
    intro j σ w hj h hF w1 w2
    have hj : j = 8 := by omega
    subst hj
    refine h_st rfl rfl ?_
    refine h_st rfl rfl ?_
    refine h_st rfl rfl ?_
    refine h_pc (if_pos (decide_eq_true (nI_le (Nat.le_refl 12) (by decide)))) ?_
    refine h_st rfl rfl ?_
    exact h_rt rfl rfl (⟨_, _, rfl, rfl, w, h⟩)
  | succ m ih =>
    intro j σ w hj h hF w1 w2
    have ih1 := fun σ w h1 h2 h3 h4 => ih (j + 1) σ w (by omega) h1 h2 h3 h4
    rw [show nI (4 + (j + 1)) = nI (4 + j) + 1 from (nI_1 _).symm] at ih1
    have i1 : ¬ (nI (4 + j) < 0 ∨ (ra 1).1 ≤ (nI (4 + j)).toNatClampNeg) := by rw [e1.1]; exact nI_in (by omega) (by decide)
    have i2 : ¬ (nI ln < 0 ∨ (ra 2).1 ≤ (nI ln).toNatClampNeg) := by rw [e2.1]; exact nI_in hln (by decide)
    have v1 : (ra 1).2 (nI (4 + j)).toNatClampNeg = lvt (4 + j) := by rw [e1.2, nI_clamp (by omega)]
    have v2 : (ra 2).2 (nI ln).toNatClampNeg = ent ln := by rw [e2.2, nI_clamp (by omega)]
    have h' := h
    obtain ⟨hN, -, -, -, -, hC⟩ := h'
    obtain ⟨q', po, ac, wa, fi, se, pf, e1, hL, -⟩ := (hC l hl).2 k (by rw [fwd_K]; exact hk)
    rw [hf] at e1
    injection e1 with e1
    subst e1
    have hno : ¬ (lvt (4 + j) = ent ln ∧ bit (kpa k) (nI (4 + j))) → fwd a nt ln k x (j + 1) = fwd a nt ln k x j := fun z => if_neg z
    have hyes : (lvt (4 + j) = ent ln ∧ bit (kpa k) (nI (4 + j))) → fwd a nt ln k x (j + 1) = setL (fwd a nt ln k x j) (12 * nt + (4 + j)) (enq (12 * nt + (4 + j)) (khi k) x (nL (fwd a nt ln k x j) (12 * nt + (4 + j)))) := fun z => if_pos z
    refine h_st rfl rfl ?_
    refine h_st rfl rfl ?_
    refine h_st rfl rfl ?_
    refine h_pc (if_neg (fun z9 => (nI_ge (b := 12) (show 4 + j < 12 by omega) (by decide)) (of_decide_eq_true z9))) ?_
    refine h_st rfl rfl ?_
    refine h_st rfl rfl ?_
    refine h_st rfl ((e_ro (by decide) i1).trans (by rw [v1])) ?_
    refine h_st rfl rfl ?_
    refine h_st rfl rfl ?_
    refine h_st rfl ((e_ro (by decide) i2).trans (by rw [v2])) ?_
    refine h_st rfl rfl ?_
    refine h_br (fun q1 => ?_) (fun q1 => ?_)
    · refine h_st rfl rfl ?_
      refine h_st rfl rfl ?_
      exact ih1 _ w (by rw [hno (fun z => q1 z.1)]; exact h) hF w1 w2
    · refine h_st rfl rfl ?_
      refine h_st rfl rfl ?_
      refine h_ci2 rfl (Nat.le_of_ble_eq_true rfl) (hL.rcv) rfl (c_56z hL (u := nI (4 + j))) (fun σ2 y hy => ?_)
      obtain ⟨rfl, hy⟩ := hy
      refine h_st rfl rfl ?_
      refine h_br (fun q2 => ?_) (fun q2 => ?_)
      · refine h_st rfl rfl ?_
        refine h_st rfl rfl ?_
        exact ih1 _ w (by rw [hno (fun z => hy.mp q2 z.2)]; exact h) hF w1 w2
      · refine h_st rfl rfl ?_
        refine h_st rfl rfl ?_
        refine h_st rfl rfl ?_
        refine h_st rfl rfl ?_
        refine h_st rfl (e_get hL.2.1 rfl) ?_
        refine h_st rfl rfl ?_
        refine h_ci5 rfl (Nat.le_of_ble_eq_true rfl) (e_rcv (hN.1.1)) rfl (c_25n (nt := nt) (ln := 4 + j) (x := x) rfl rfl hnt (by omega) h hF hx) (fun σ3 v hv => ?_)
        obtain ⟨w3, h3, s3, -⟩ := hv
        have nc1 : ¬ (LQ (12 * nt + (4 + j)) (w fr) ∨ w fr = 2407) := by unfold LQ; omega
        have nc2 : ¬ (LQ (12 * nt + (4 + j)) (w fb) ∨ w fb = 2407) := by unfold LQ; omega
        have hF3 := hF
        obtain ⟨k1, k2, kg, k3, k4⟩ := hF3
        refine h_st rfl rfl ?_
        refine h_st rfl rfl ?_
        refine h_st rfl rfl ?_
        exact ih1 _ w3 (by rw [hyes ⟨Decidable.of_not_not q1, Decidable.of_not_not (fun z => q2 (hy.mpr z))⟩]; exact h3) (hF.sa s3 nc1 nc2) ((s3.wt k1 nc1).trans w1) ((s3.wt k3 nc2).trans w2)
/-- a frame at a switch -/
def psw (a : AN) (nt ln : Nat) (x : AF) : AN := if okc x.1 x.2 then (match kat a (lnk x.2) with
  | none => a
  | some (l, k) => if bit (kpa k) (nI ln) then (if x.1 ≤ kmo k then (if ln < 4 then (if nI x.1 * kga k ≤ kac k nt then fwd (setK a l (pyk k nt (nI x.1 * kga k))) nt ln (pyk k nt (nI x.1 * kga k)) x 8 else a) else fwd a nt ln k x 8) else a) else a) else a
/-- the links' accounts move -/
theorem CN.acc {q po ac wa fi : Nat} {se : Int32} {pf : Nat → Option Nat} {k' : AK} (h : CN σ w f a) (hl : l < 8) (hf : f l = some q) (hk : nK a l = some k) (hL : LK σ w l q k po ac wa fi se) (hpf : σ.2[po]? = some (.inl (7, rfs 4 pf))) (hPT : ∀ e, e < 4 → (nP a l e = none → pf e = none) ∧ ∀ p, nP a l e = some p → ∃ r, pf e = some r ∧ PT σ w (lb l + 20 + 40 * e) r p) (hsq : rg (dsq k') 256) (hL' : LK σ1 w l q k' po ac wa fi se) (s : Sa (fun c => c = lb l + 2) σ w σ1 w) : CN σ1 w f (setK a l k') := by
  have wpo := hL.1.2.1
  refine h.lk (k := k) s (fun c z => by omega) hl ⟨fun z => (by rw [updK_s] at z; cases z), fun k2 hk2 => ?_⟩ (fun j hj => updK_n hj) (fun j hj => rfl)
  rw [updK_s] at hk2
  cases hk2
  exact ⟨q, po, ac, wa, fi, se, pf, hf, hL', s.at hpf (by omega), hsq, fun e he => ⟨(hPT e he).1, fun p hp => by
    obtain ⟨r', h6, h7⟩ := (hPT e he).2 p hp
    exact ⟨r', h6, h7.sa s (fun c z => by unfold PC at z; omega)⟩⟩⟩
theorem c_55n (hck : ra 3 = (16, ckt)) (hr1 : ra 1 = (12, lvt)) (hr2 : ra 2 = (12, ent)) {nt ln fr fb ci : Nat} {u v : Int32} (eu : u = nI nt) (ev : v = nI ln) (hnt : nt < 2) (hln : ln < 12) (h : CN σ w f a) (hF : FX σ fr fb x.1 x.2) (hx : 64 ≤ x.1) (w1 : w fr = 100 * ci + 10) (w2 : w fb = 100 * ci + 11) (hci : ci < 24) : hE ra (d + 4) 55 [.ref 0, .int u, .int v, .ref fr] σ (pI (fun σ' v => (∃ w', CN σ' w' f (psw a nt ln x)) ∧ (v = -1 ∨ ∃ r, v = nI r ∧ r < 12))) := by
  subst eu
  subst ev
  have hx2 := hF.2.1.1
  have h0 := h.1.1.1
  refine h_in rfl rfl (Nat.le_of_ble_eq_true rfl) ?_
  refine h_st rfl rfl ?_
  refine h_ci1 rfl (Nat.le_of_ble_eq_true rfl) (e_rcv (hF.1)) rfl (c_34x hck hF hx) (fun σ' y hy => ?_)
  obtain ⟨rfl, hy⟩ := hy
  refine h_st rfl rfl ?_
  refine h_br (fun q0 => ?_) (fun q0 => ?_)
  · have hok : okc x.1 x.2 := b_2 hy q0
    have ep : psw a nt ln x = (match kat a (lnk x.2) with | none => a | some (l, k) => if bit (kpa k) (nI ln) then (if x.1 ≤ kmo k then (if ln < 4 then (if nI x.1 * kga k ≤ kac k nt then fwd (setK a l (pyk k nt (nI x.1 * kga k))) nt ln (pyk k nt (nI x.1 * kga k)) x 8 else a) else fwd a nt ln k x 8) else a) else a) := if_pos hok
    refine h_st rfl rfl ?_
    refine h_st rfl rfl ?_
    refine h_ci1 rfl (Nat.le_of_ble_eq_true rfl) (e_rcv (hF.1)) rfl (c_36x hF hx) (fun σ' y1 hy1 => ?_)
    obtain ⟨rfl, rfl⟩ := hy1
    refine h_cr2 rfl (Nat.le_of_ble_eq_true rfl) (e_rcv (h0)) rfl (c_37z h (lnk x.2)) (fun σ' q hq => ?_)
    obtain ⟨rfl, hq⟩ := hq
    rcases hq with ⟨rfl, hkat⟩ | ⟨r, l, k, rfl, hl, -, hkat, hf, hk⟩
    · rw [hkat] at ep
      refine h_st rfl rfl ?_
      refine h_st rfl rfl ?_
      refine h_st rfl rfl ?_
      refine h_st rfl rfl ?_
      exact h_rt rfl rfl (⟨_, _, rfl, ⟨w, by rw [ep]; exact h⟩, Or.inr ⟨2, rfl, by decide⟩⟩)
    · rw [hkat] at ep
      obtain ⟨q', po, ac, wa, fi, se, pf, e1, hL, hpf, hsq, hPT⟩ := (h.2.2.2.2.2 l hl).2 k hk
      rw [hf] at e1
      injection e1 with e1
      subst e1
      replace ep : psw a nt ln x = (if bit (kpa k) (nI ln) then (if x.1 ≤ kmo k then (if ln < 4 then (if nI x.1 * kga k ≤ kac k nt then fwd (setK a l (pyk k nt (nI x.1 * kga k))) nt ln (pyk k nt (nI x.1 * kga k)) x 8 else a) else fwd a nt ln k x 8) else a) else a) := ep
      have hmo := hL.2.2.1.2.1
      refine h_st rfl rfl ?_
      refine h_st rfl rfl ?_
      refine h_st rfl rfl ?_
      refine h_st rfl rfl ?_
      refine h_st rfl rfl ?_
      refine h_ci2 rfl (Nat.le_of_ble_eq_true rfl) (hL.rcv) rfl (c_56z hL (u := nI ln)) (fun σ2 y2 hy2 => ?_)
      obtain ⟨rfl, hy2⟩ := hy2
      refine h_st rfl rfl ?_
      refine h_br (fun q1 => ?_) (fun q1 => ?_)
      · rw [if_pos (Decidable.of_not_not (fun z => q1 (hy2.mpr z)))] at ep
        refine h_st rfl rfl ?_
        refine h_st rfl (e_get hF.1 rfl) ?_
        refine h_st rfl rfl ?_
        refine h_st rfl (e_get hL.2.1 rfl) ?_
        refine h_st rfl rfl ?_
        refine h_br (fun q2 => ?_) (fun q2 => ?_)
        · rw [if_pos ((nI_leI (by omega) (by omega)).mp q2)] at ep
          refine h_st rfl rfl ?_
          refine h_st rfl rfl ?_
          refine h_st rfl rfl ?_
          refine h_br (fun q3 => ?_) (fun q3 => ?_)
          · rw [if_neg (fun z => nI_ge z (by decide) q3)] at ep
            refine h_st rfl rfl ?_
            refine h_st rfl rfl ?_
            refine hG_mono (c_55ln hr1 hr2 hl hnt hln hk hf hx 8 0 _ w rfl h hF w1 w2) (fun r z => ?_)
            obtain ⟨σ', v, er, ev, hw⟩ := z
            exact ⟨σ', v, er, by rw [ep]; exact hw, Or.inl ev⟩
          · rw [if_pos (Nat.lt_of_not_le (fun z => q3 (nI_le (a := 4) z (by omega))))] at ep
            refine h_st rfl rfl ?_
            refine h_st rfl rfl ?_
            refine h_st rfl rfl ?_
            refine h_st rfl (e_get hF.1 rfl) ?_
            refine h_ci3 rfl (Nat.le_of_ble_eq_true rfl) (hL.rcv) rfl (c_57z (s := nI x.1) rfl hnt hL) (fun σ3 y3 hy3 => ?_)
            rcases hy3 with ⟨rfl, rfl, hno⟩ | ⟨rfl, hyes, hL3, s3⟩
            · rw [if_neg hno] at ep
              refine h_st rfl rfl ?_
              refine h_pc (if_neg (by decide)) ?_
              refine h_st rfl rfl ?_
              exact h_rt rfl rfl (⟨_, _, rfl, ⟨w, by rw [ep]; exact h⟩, Or.inr ⟨5, rfl, by decide⟩⟩)
            · rw [if_pos hyes] at ep
              have h3 := h.acc (k' := pyk k nt (nI x.1 * kga k)) hl hf hk hL hpf hPT hsq hL3 s3
              refine h_st rfl rfl ?_
              refine h_pc (if_pos (by decide)) ?_
              refine h_st rfl rfl ?_
              refine h_st rfl rfl ?_
              refine hG_mono (c_55ln (k := pyk k nt (nI x.1 * kga k)) hr1 hr2 hl hnt hln updK_s hf hx 8 0 _ w rfl h3 (hF.sa s3 (by unfold lb; omega) (by unfold lb; omega)) w1 w2) (fun r z => ?_)
              obtain ⟨σ', v, er, ev, hw⟩ := z
              exact ⟨σ', v, er, by rw [ep]; exact hw, Or.inl ev⟩
        · rw [if_neg (fun z => q2 (nI_le z (by omega)))] at ep
          refine h_st rfl rfl ?_
          exact h_rt rfl rfl (⟨_, _, rfl, ⟨w, by rw [ep]; exact h⟩, Or.inr ⟨4, rfl, by decide⟩⟩)
      · rw [if_neg (hy2.mp (Decidable.of_not_not q1))] at ep
        refine h_st rfl rfl ?_
        exact h_rt rfl rfl (⟨_, _, rfl, ⟨w, by rw [ep]; exact h⟩, Or.inr ⟨3, rfl, by decide⟩⟩)
  · refine h_st rfl rfl ?_
    exact h_rt rfl rfl (⟨_, _, rfl, ⟨w, by rw [show psw a nt ln x = a from if_neg (hy.elim (fun z => absurd (z.1.symm.trans (Decidable.of_not_not q0)) (by decide)) (fun z => z.2))]; exact h⟩, Or.inr ⟨1, rfl, by decide⟩⟩)
end SX15
