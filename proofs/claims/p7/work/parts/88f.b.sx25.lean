section SX25
variable {ra : ae_R} {d : Nat} {σ σ' σ0 σ1 σ2 : ae_S} {w w0 w1 w2 : Nat → Nat} {l i p pb q c n : Nat} {f : Nat → Option Nat} {a : AN} {k : AK} {x : AF} {tm : Int32}
/-- a cell as the class has them -/
def clC : ae_C → Prop
  | .inr o => o.1 ≠ 8
  | .inl r => r.1 ≠ 3 ∧ r.1 ≠ 2 ∧ (r.1 = 0 → r.2.1 = 2)
theorem cl_o {c : Nat} {xs : List Value} (h : c ≠ 8) : clC (.inr (c, xs)) := h
theorem cl_1 {k : Nat} {z} (h : k = 1 ∨ 4 ≤ k) : clC (.inl (k, z)) := ⟨show k ≠ 3 by omega, show k ≠ 2 by omega, fun e => absurd (show k = 0 from e) (by omega)⟩
theorem cl_2 {z} : clC (.inl (0, 2, z)) := ⟨show (0 : Nat) ≠ 3 by decide, show (0 : Nat) ≠ 2 by decide, fun _ => rfl⟩
/-- the class's cells stay -/
def HT (σ σ' : ae_S) : Prop := ∀ q y, σ.2[q]? = some y → (q < 8 ∨ clC y) → σ'.2[q]? = some y
theorem HT.ct (h : σ'.2 = σ.2) : HT σ σ' := fun q y hy _ => by rw [h]; exact hy
theorem HT.las {o : Nat} {z y' : ae_C} (ho : σ.2[o]? = some z) (h8 : 8 ≤ o) (hz : ¬ clC z) : HT σ (σ.1, σ.2.set o y') := fun q y hy hc => by
  have hne : q ≠ o := fun e => by
    rw [e, ho] at hy
    cases hy
    rcases hc with hc | hc
    · omega
    · exact hz hc
  exact (st_ne (fun e => hne e.symm)).trans hy
theorem FX.hh {g : Nat → Int32} (h : FX σ p pb n g) (H : HT σ σ') : FX σ' p pb n g := by
  obtain ⟨h1, h2, g', h3, h4⟩ := h
  exact ⟨H _ _ h1 (Or.inr (cl_o (by decide))), h2, g', H _ _ h3 (Or.inr (cl_1 (by decide))), h4⟩
theorem Fw.hh (h : Fw σ w p c x) (H : HT σ σ') : Fw σ' w p c x := by
  obtain ⟨h1, pb, h2, h3⟩ := h
  exact ⟨h1, pb, h2, h3.hh H⟩
theorem RW.hh {R S cR c0 : Nat} {l : List AF} (h : RW σ w R S cR n c0 l) (H : HT σ σ') : RW σ' w R S cR n c0 l := by
  obtain ⟨h1, a, g, h2, h3, h4, h5, h6⟩ := h
  refine ⟨h1, a, g, H _ _ h2 (Or.inr (cl_o (by decide))), H _ _ h3 (Or.inr (cl_1 (by decide))), h4, fun j q hj hq => ?_, fun j x hj => ?_⟩
  · obtain ⟨x, hx⟩ := h5 j q hj hq
    exact ⟨x, hx.hh H⟩
  · obtain ⟨q, z1, z2⟩ := h6 j x hj
    exact ⟨q, z1, z2.hh H⟩
theorem LW.hh {pl hl : List AF} {fr : Nat} {b g e hp mk : Int32} (h : LW σ w i pl hl fr b g e hp mk x) (H : HT σ σ') : LW σ' w i pl hl fr b g e hp mk x := ⟨h.1, H _ _ h.2.1 (Or.inr (cl_o (c := 3) (by decide))), h.2.2.1.hh H, h.2.2.2.1.hh H, h.2.2.2.2.hh H⟩
theorem LN.hh {A : ALn} (h : LN σ w i A) (H : HT σ σ') : LN σ' w i A := by
  obtain ⟨fr, b, g, e, hp, mk, x, h1, h2⟩ := h
  exact ⟨fr, b, g, e, hp, mk, x, h1.hh H, h2⟩
theorem NT.hh (h : NT σ w tm) (H : HT σ σ') : NT σ' w tm := by
  obtain ⟨⟨h1, h2⟩, ⟨f, h3, h4⟩, h5, ⟨dc, h6⟩, h7⟩ := h
  exact ⟨⟨H _ _ h1 (Or.inl (by decide)), h2⟩, ⟨f, H _ _ h3 (Or.inl (by decide)), h4⟩, h5, ⟨dc, H _ _ h6 (Or.inl (by decide))⟩, h7⟩
theorem LK.hh {po ac wa fi : Nat} {se : Int32} (h : LK σ w l q k po ac wa fi se) (H : HT σ σ') : LK σ' w l q k po ac wa fi se := by
  obtain ⟨h1, h2, h3, h4, ⟨fa, h5, h6⟩, fw, h7, h8, h9⟩ := h
  refine ⟨h1, H _ _ h2 (Or.inr (cl_o (c := 4) (by decide))), h3, h4, ⟨fa, H _ _ h5 (Or.inr cl_2), h6⟩, fw, H _ _ h7 (Or.inr (cl_1 (by decide))), fun j hj => ?_, fun j x hj => ?_⟩
  · obtain ⟨q', v0, v1, v2, v3, v4, v5, z1, z2, z3⟩ := h8 j hj
    exact ⟨q', v0, v1, v2, v3, v4, v5, z1, z2, H _ _ z3 (Or.inr (cl_o (by decide)))⟩
  · obtain ⟨z0, q', z1, z2⟩ := h9 j x hj
    exact ⟨z0, q', z1, H _ _ z2 (Or.inr (cl_o (c := 1) (by decide)))⟩
theorem DX.hh {g : Nat → Int32} (h : DX σ p pb n g) (H : HT σ σ') : DX σ' p pb n g := by
  obtain ⟨h1, h2, g', h3, h4⟩ := h
  exact ⟨H _ _ h1 (Or.inr (cl_o (by decide))), h2, g', H _ _ h3 (Or.inr (cl_1 (by decide))), h4⟩
theorem Dw.hh (h : Dw σ w p c x) (H : HT σ σ') : Dw σ' w p c x := by
  obtain ⟨h1, pb, h2, h3⟩ := h
  exact ⟨h1, pb, h2, h3.hh H⟩
theorem PTx.hh {P : AP} {la be ke fk n : Nat} {ib bn : Int32} {fs : Nat → Option Nat} (h : PTx σ w c p P la be ke fk n ib bn fs x) (H : HT σ σ') : PTx σ' w c p P la be ke fk n ib bn fs x := by
  obtain ⟨h1, h2, h3, ⟨fa, h5, h6⟩, h7, h8, h9, h10⟩ := h
  refine ⟨h1, H _ _ h2 (Or.inr (cl_o (c := 5) (by decide))), h3, ⟨fa, H _ _ h5 (Or.inr cl_2), h6⟩, H _ _ h7 (Or.inr (cl_1 (by decide))), h8.hh H, fun j q hj hq => ?_, fun j s hj => ?_⟩
  · obtain ⟨x, hx⟩ := h9 j q hj hq
    exact ⟨x, hx.hh H⟩
  · obtain ⟨q, x, z1, z2, z3⟩ := h10 j s hj
    exact ⟨q, x, z1, z2.hh H, z3⟩
theorem PT.hh {P : AP} (h : PT σ w c p P) (H : HT σ σ') : PT σ' w c p P := by
  obtain ⟨la, be, ke, fk, n, ib, bn, fs, x, h1, h2⟩ := h
  exact ⟨la, be, ke, fk, n, ib, bn, fs, x, h1.hh H, h2⟩
theorem CLk.hh {K : Nat → Option AK} {P : Nat → Nat → Option AP} (h : CLk σ w l f K P) (H : HT σ σ') : CLk σ' w l f K P := by
  refine ⟨h.1, fun k hk => ?_⟩
  obtain ⟨q, po, ac, wa, fi, se, pf, h1, h2, h3, h4, h5⟩ := h.2 k hk
  refine ⟨q, po, ac, wa, fi, se, pf, h1, h2.hh H, H _ _ h3 (Or.inr (cl_1 (by decide))), h4, fun e he => ⟨(h5 e he).1, fun p hp => ?_⟩⟩
  obtain ⟨r, z1, z2⟩ := (h5 e he).2 p hp
  exact ⟨r, z1, z2.hh H⟩
theorem CN.hh (h : CN σ w f a) (H : HT σ σ') : CN σ' w f a := by
  obtain ⟨h1, ⟨⟨n1, g1, h2⟩, h3⟩, ⟨⟨n2, g2, h4⟩, h5⟩, h6, ⟨h7, h8⟩, h9⟩ := h
  exact ⟨h1.hh H, ⟨⟨n1, g1, h2.hh H⟩, h3⟩, ⟨⟨n2, g2, h4.hh H⟩, h5⟩, fun i hi => (h6 i hi).hh H, ⟨H _ _ h7 (Or.inl (by decide)), h8⟩, fun l hl => (h9 l hl).hh H⟩
/-- the steps of the abstract network -/
noncomputable def lkA (a : AN) (l so ga mo ta fl : Int32) : AN := @ite AN (okL l so ga mo ta fl) (Classical.propDecidable _) (match nK a l.toNatClampNeg with
  | none => adl a l.toNatClampNeg (k0 so.toNatClampNeg ((1 : Int32) <<< (ga &&& 31)) mo.toNatClampNeg (if fl &&& 1 = 0 then 0 else 1) (if fl &&& 2 = 0 then 0 else 1) ta) ta (if fl &&& 2 = 0 then 0 else 1) (fl >>> ((2 : Int32) &&& 31))
  | some _ => a) a
def wrA (a : AN) (v sz sd : Int32) : AN := match kat a v with
  | none => a
  | some (l, k) => if ned (kmo k) (kqu k) sz = 0 then a else if 8 < (dfr k).length + ned (kmo k) (kqu k) sz then a else setK a l (adm k sz.toNatClampNeg sd (ned (kmo k) (kqu k) sz))
def rdA (a : AN) (e v : Int32) : AN := match pat a e v with
  | none => a
  | some (l, en, p) => if pks p = [] then a else setP a l en (rdp p)
/-- what a read answers -/
def rdV (p : AP) : Int32 := match pks p with
  | [] => 0
  | s :: _ => nI s - 8
def hmA (a : AN) (u v pl mk : Int32) : AN := if okl u v ∧ ¬ mk < 0 ∧ mk ≤ 255 then setL a (lnA u v) (hrm (nL a (lnA u v)) (pl &&& 2147483647).toNatClampNeg mk) else a
def bbA (a : AN) (u e v s n : Int32) : AN := if okB u e v s then setL a (lnA u e) (enq (lnA u e) 0 (bbf v.toNatClampNeg e.toNatClampNeg u.toNatClampNeg s.toNatClampNeg n) (nL a (lnA u e))) else a
/-- what a babble answers -/
def bbV (a : AN) (u e v s : Int32) (y : Int32) : Prop := (y = 1 ∧ okB u e v s ∧ rom (lnA u e) 0 (nL a (lnA u e))) ∨ (y = 0 ∧ ¬ (okB u e v s ∧ rom (lnA u e) 0 (nL a (lnA u e))))
theorem c_67m (h : CN σ w f a) (u v pl mk : Int32) : hE ra (d + 3) 67 [.ref 0, .int u, .int v, .int pl, .int mk] σ (pI (fun σ' _ => CN σ' w f (hmA a u v pl mk))) := by
  refine hE_mono (c_67n h u v pl mk) (fun r z => ?_)
  obtain ⟨σ', y, er, hz⟩ := z
  refine ⟨σ', y, er, ?_⟩
  unfold hmA
  rcases hz with ⟨rfl, hno⟩ | ⟨nt, ln, p, hn, hl, rfl, rfl, hm, hp, ep, hC⟩
  · rw [if_neg hno]
    exact h
  · rw [if_pos ⟨okl_e hn hl, hm⟩, lnA_e hn hl, ep, nI_clamp hp]
    exact hC
theorem c_69m (hck : ra 3 = (16, ckt)) (h : CN σ w f a) (u e v s n : Int32) : hE ra (d + 4) 69 [.ref 0, .int u, .int e, .int v, .int s, .int n] σ (pI (fun σ' y => bbV a u e v s y ∧ ∃ w', CN σ' w' f (bbA a u e v s n))) := by
  refine hE_mono (c_69n hck h u e v s n) (fun r z => ?_)
  obtain ⟨σ', y, er, hz⟩ := z
  refine ⟨σ', y, er, ?_⟩
  unfold bbA bbV
  rcases hz with ⟨rfl, rfl, hno⟩ | ⟨nt, en, l, sz, hnt, hen, hl, hs, rfl, rfl, rfl, rfl, hy, w', hC⟩
  · rw [if_neg hno]
    exact ⟨Or.inr ⟨rfl, fun z => hno z.1⟩, w, h⟩
  · have hok : okB (nI nt) (nI en) (nI l) (nI sz) := ⟨⟨nI_pos (by omega), nI_ge (b := 2) hnt (by decide)⟩, ⟨nI_pos (by omega), nI_ge (b := 4) hen (by decide)⟩, ⟨nI_pos (by omega), nI_ge (b := 8) hl (by decide)⟩, nI_nlt (b := 64) hs.1 (by omega), nI_le (b := 200) hs.2 (by decide)⟩
    have hln : lnA (nI nt) (nI en) = 12 * nt + en := lnA_e hnt (by omega)
    rw [if_pos hok, hln, nI_clamp (by omega), nI_clamp (by omega), nI_clamp (by omega), nI_clamp (by omega)]
    exact ⟨hy.elim (fun z => Or.inl ⟨z.1, hok, z.2⟩) (fun z => Or.inr ⟨z.1, fun y => z.2 y.2⟩), w', hC⟩
theorem c_6m {x : Int32} (hck : ra 3 = (16, ckt)) (hr1 : ra 1 = (12, lvt)) (hr2 : ra 2 = (12, ent)) (h : CN σ w f a) (hw : AW a) : hE ra (d + 7) 6 [.ref 0, .int x] σ (pI (fun σ' v => v = nT (tcn a (if x < 0 ∨ 2000 < x then 0 else x.toNatClampNeg)) ∧ ∃ w', CN σ' w' f (tcn a (if x < 0 ∨ 2000 < x then 0 else x.toNatClampNeg)))) := by
  refine hE_mono (c_6n hck hr1 hr2 h hw) (fun r z => ?_)
  obtain ⟨σ', y, er, N, rfl, z2, z3⟩ := z
  exact ⟨σ', y, er, z2, z3⟩
section WR
variable {K : Nat → Nat} {o9 : Nat} {f9 : Nat → Int64}
theorem no3 {z} : ¬ clC (.inl (3, z)) := fun h => h.1 rfl
theorem lk_ok {l i m : Nat} {l9 so ga mo ta fl : Int32} (hok : okL l9 so ga mo ta fl) (e1 : l9 = nI l) (e2 : so = nI i) (e3 : mo = nI m) (hl : l < 8) (hi : i < 4) (hm : m ≤ 128) (hn : nK a l = none) : lkA a l9 so ga mo ta fl = adl a l (k0 i ((1 : Int32) <<< (ga &&& 31)) m (if fl &&& 1 = 0 then 0 else 1) (if fl &&& 2 = 0 then 0 else 1) ta) ta (if fl &&& 2 = 0 then 0 else 1) (fl >>> ((2 : Int32) &&& 31)) := by
  unfold lkA
  subst e1
  subst e2
  subst e3
  rw [if_pos hok, nI_clamp (by omega), nI_clamp (by omega), nI_clamp (by omega), hn]
theorem lk_no {l9 so ga mo ta fl : Int32} (hok : ¬ okL l9 so ga mo ta fl) : lkA a l9 so ga mo ta fl = a := if_neg hok
theorem lk_ex {l : Nat} {l9 so ga mo ta fl : Int32} (e1 : l9 = nI l) (hl : l < 8) (hn : nK a l = some k) : lkA a l9 so ga mo ta fl = a := by
  unfold lkA
  subst e1
  rw [nI_clamp (by omega), hn]
  by_cases hc : okL (nI l) so ga mo ta fl
  · exact if_pos hc
  · exact if_neg hc
theorem c_79q (hT : Ty σ K) (hS : S0 K) (ho9 : σ.2[o9]? = some (.inl (3, 1, .inr (.inl f9)))) (hKo : K o9 = 0) (h : CN σ w f a) (l so ga mo ta fl : Int32) : hE ra (d + 7) 79 [.ref 0, .int l, .int so, .int ga, .int mo, .int ta, .int fl] σ (pI (fun σ' x => (∃ K', Lw o9 K σ K' σ') ∧ σ'.2[0]? = σ.2[0]? ∧ ∃ w' f', CN σ' w' f' (lkA a l so ga mo ta fl))) := by
  obtain ⟨r, g1, hr, hq⟩ := hE_and (c_80t (ra := ra) (d := d) hT hS l so ga mo ta fl) (c_80N h l so ga mo ta fl)
  rcases hq with ⟨rfl, hno⟩ | ⟨rfl, hok, l', k', hl', el', hk'⟩ | ⟨σ', w', f', l', i', m', rfl, hok, hl', hi', el', ei', em', hm', hk', hC⟩
  · refine h_in rfl rfl (Nat.le_of_ble_eq_true rfl) ?_
    refine h_st rfl rfl ?_
    refine h_st rfl rfl ?_
    refine h_st rfl rfl ?_
    refine h_st rfl rfl ?_
    refine h_st rfl rfl ?_
    refine h_st rfl rfl ?_
    refine h_st rfl rfl ?_
    refine h_cx7 rfl (Nat.le_of_ble_eq_true rfl) (rcv1 hT hS.1) rfl ((⟨_, g1, _, rfl, rfl⟩ : hE ra (d + 6) 80 [.ref 0, .int l, .int so, .int ga, .int mo, .int ta, .int fl] σ (pX 0 (fun z => z = ((σ.1.1 + 1, σ.1.2 + 6), σ.2))))) rfl (fun σ2 hq => ?_)
    subst hq
    refine h_st rfl rfl ?_
    exact h_rt rfl rfl (⟨_, _, rfl, ⟨K, (Up.thr hT).lw (by decide) (by decide) ho9 hKo⟩, rfl, w, f, by rw [lk_no hno]; exact h.hh (HT.ct rfl)⟩)
  · refine h_in rfl rfl (Nat.le_of_ble_eq_true rfl) ?_
    refine h_st rfl rfl ?_
    refine h_st rfl rfl ?_
    refine h_st rfl rfl ?_
    refine h_st rfl rfl ?_
    refine h_st rfl rfl ?_
    refine h_st rfl rfl ?_
    refine h_st rfl rfl ?_
    refine h_cx7 rfl (Nat.le_of_ble_eq_true rfl) (rcv1 hT hS.1) rfl ((⟨_, g1, _, rfl, rfl⟩ : hE ra (d + 6) 80 [.ref 0, .int l, .int so, .int ga, .int mo, .int ta, .int fl] σ (pX 1 (fun z => z = ((σ.1.1 + 1, σ.1.2 + 6), σ.2))))) rfl (fun σ2 hq => ?_)
    subst hq
    refine h_st rfl rfl ?_
    exact h_rt rfl rfl (⟨_, _, rfl, ⟨K, (Up.thr hT).lw (by decide) (by decide) ho9 hKo⟩, rfl, w, f, by rw [lk_ex el' hl' hk']; exact h.hh (HT.ct rfl)⟩)
  · rcases hr with ⟨σ2, K', j, f2, q2, er, hu, hn0, -⟩ | ⟨er, -⟩ | ⟨er, -⟩
    · injection er with er er2
      subst er
      refine h_in rfl rfl (Nat.le_of_ble_eq_true rfl) ?_
      refine h_st rfl rfl ?_
      refine h_st rfl rfl ?_
      refine h_st rfl rfl ?_
      refine h_st rfl rfl ?_
      refine h_st rfl rfl ?_
      refine h_st rfl rfl ?_
      refine h_st rfl rfl ?_
      refine h_cv7 rfl (Nat.le_of_ble_eq_true rfl) (rcv1 hT hS.1) rfl ((⟨_, g1, σ', rfl, rfl⟩ : hE ra (d + 6) 80 [.ref 0, .int l, .int so, .int ga, .int mo, .int ta, .int fl] σ (pV (fun z => z = σ')))) (fun σ2 hq => ?_)
      subst hq
      refine h_st rfl rfl ?_
      refine h_st rfl rfl ?_
      exact h_rt rfl rfl (⟨_, _, rfl, ⟨K', hu.lw (by decide) (by decide) ho9 hKo⟩, hn0, w', f', by rw [lk_ok hok el' ei' em' hl' hi' hm'.2 hk']; exact hC⟩)
    · injection er with _ er2
      cases er2
    · injection er with _ er2
      cases er2
theorem wr_no {v sz sd : Int32} (h : kat a v = none ∨ ∃ l k, kat a v = some (l, k) ∧ ned (kmo k) (kqu k) sz = 0) : wrA a v sz sd = a := by
  unfold wrA
  rcases h with h | ⟨l, k, h, h2⟩
  · rw [h]
  · rw [h]
    exact if_pos h2
theorem wr_fu {v sz sd : Int32} (h : kat a v = some (l, k)) (h2 : ned (kmo k) (kqu k) sz ≠ 0) (h8 : 8 < (dfr k).length + ned (kmo k) (kqu k) sz) : wrA a v sz sd = a := by
  unfold wrA
  rw [h]
  exact (if_neg h2).trans (if_pos h8)
theorem wr_ok {v sz sd : Int32} {s : Nat} (h : kat a v = some (l, k)) (h2 : ned (kmo k) (kqu k) sz ≠ 0) (h8 : (dfr k).length + ned (kmo k) (kqu k) sz ≤ 8) (es : sz = nI s) (hs : s < 2 ^ 31) : wrA a v sz sd = setK a l (adm k s sd (ned (kmo k) (kqu k) sz)) := by
  unfold wrA
  rw [h]
  refine (if_neg h2).trans ((if_neg (by omega)).trans ?_)
  rw [es, nI_clamp hs]
theorem c_86q (hT : Ty σ K) (hS : S0 K) (ho9 : σ.2[o9]? = some (.inl (3, 1, .inr (.inl f9)))) (hKo : K o9 = 0) (h8o : 8 ≤ o9) (h : CN σ w f a) (l sz sd : Int32) : hE ra (d + 7) 86 [.ref 0, .int l, .int sz, .int sd, .ref o9] σ (pI (fun σ' _ => (∃ K', Lw o9 K σ K' σ') ∧ σ'.2[0]? = σ.2[0]? ∧ CN σ' w f (wrA a l sz sd))) := by
  obtain ⟨r, g1, hr, hq⟩ := hE_and (c_87t (ra := ra) (d := d) hT hS l sz sd) (c_87n h l sz sd)
  rcases hq with ⟨rfl, hno⟩ | ⟨rfl, l', k', hk', hn', h8'⟩ | ⟨σ', l', k', s', rfl, hk', hn', h8', es', hs4, hC⟩
  · refine h_in rfl rfl (Nat.le_of_ble_eq_true rfl) ?_
    refine h_st rfl rfl ?_
    refine h_st rfl rfl ?_
    refine h_st rfl rfl ?_
    refine h_st rfl rfl ?_
    refine h_st rfl rfl ?_
    refine h_st rfl rfl ?_
    refine h_cx4 rfl (Nat.le_of_ble_eq_true rfl) (rcv1 hT hS.1) rfl ((⟨_, g1, _, rfl, rfl⟩ : hE ra (d + 6) 87 [.ref 0, .int l, .int sz, .int sd] σ (pX 0 (fun z => z = ((σ.1.1 + 1, σ.1.2 + 6), σ.2))))) rfl (fun σ2 hq => ?_)
    subst hq
    refine h_st rfl rfl ?_
    exact h_rt rfl rfl (⟨_, _, rfl, ⟨K, (Up.thr hT).lw (by decide) (by decide) ho9 hKo⟩, rfl, by rw [wr_no hno]; exact h.hh (HT.ct rfl)⟩)
  · refine h_in rfl rfl (Nat.le_of_ble_eq_true rfl) ?_
    refine h_st rfl rfl ?_
    refine h_st rfl rfl ?_
    refine h_st rfl rfl ?_
    refine h_st rfl rfl ?_
    refine h_st rfl rfl ?_
    refine h_st rfl rfl ?_
    refine h_cx4 rfl (Nat.le_of_ble_eq_true rfl) (rcv1 hT hS.1) rfl ((⟨_, g1, _, rfl, rfl⟩ : hE ra (d + 6) 87 [.ref 0, .int l, .int sz, .int sd] σ (pX 1 (fun z => z = ((σ.1.1 + 1, σ.1.2 + 6), σ.2))))) rfl (fun σ2 hq => ?_)
    subst hq
    refine h_st rfl rfl ?_
    exact h_rt rfl rfl (⟨_, _, rfl, ⟨K, (Up.thr hT).lw (by decide) (by decide) ho9 hKo⟩, rfl, by rw [wr_fu hk' hn' h8']; exact h.hh (HT.ct rfl)⟩)
  · have eC : setK a l' (adm k' s' sd (ned (kmo k') (kqu k') sz)) = wrA a l sz sd := (wr_ok hk' hn' h8' es' (by omega)).symm
    rcases hr with ⟨σ2, v2, K', er, hu, hn0, hn1⟩ | ⟨x, hx, er⟩
    · injection er with er er2
      subst er
      refine h_in rfl rfl (Nat.le_of_ble_eq_true rfl) ?_
      refine h_st rfl rfl ?_
      refine h_st rfl rfl ?_
      refine h_st rfl rfl ?_
      refine h_st rfl rfl ?_
      refine h_st rfl rfl ?_
      refine h_st rfl rfl ?_
      refine h_ci4 rfl (Nat.le_of_ble_eq_true rfl) (rcv1 hT hS.1) rfl ((⟨_, g1, σ', nI (ned (kmo k') (kqu k') sz), rfl, rfl, rfl⟩ : hE ra (d + 6) 87 [.ref 0, .int l, .int sz, .int sd] σ (pI (fun z y => z = σ' ∧ y = nI (ned (kmo k') (kqu k') sz))))) (fun σ2 y2 hq => ?_)
      obtain ⟨rfl, rfl⟩ := hq
      have hlw := hu.lw (by decide) (by decide) ho9 hKo
      obtain ⟨f8, ho8⟩ := hlw.2.2.2.2.1
      have hK8 := (hlw.2.2.2.1 o9 (List.getElem?_eq_some_iff.mp ho9).1 hKo).1
      refine h_st rfl rfl ?_
      refine h_st rfl (e_las ho8 (by decide)) ?_
      refine h_st rfl rfl ?_
      refine h_st rfl rfl ?_
      exact h_rt rfl rfl (⟨_, _, rfl, ⟨K', hlw.las hK8 ho8⟩, (st_ne (fun z => by rw [z, hS.1] at hKo; cases hKo)).trans hn0, eC ▸ hC.hh (HT.las ho8 h8o no3)⟩)
    · injection er with _ er2
      cases er2
theorem rd_no {e v : Int32} (h : pat a e v = none) : rdA a e v = a := by
  unfold rdA
  rw [h]
theorem rd_em {e v : Int32} {en : Nat} {p : AP} (h : pat a e v = some (l, en, p)) (h2 : pks p = []) : rdA a e v = a := by
  unfold rdA
  rw [h]
  exact if_pos h2
theorem rd_ok {e v : Int32} {en s : Nat} {t : List Nat} {p : AP} (h : pat a e v = some (l, en, p)) (h2 : pks p = s :: t) : rdA a e v = setP a l en (rdp p) := by
  unfold rdA
  rw [h]
  exact if_neg (by rw [h2]; exact List.cons_ne_nil _ _)
/-- what the law sees of a read -/
def rdX (a : AN) (e v x : Int32) (y : Option ae_C) : Prop := (x = 1 ∧ pat a e v = none) ∨ (x = 0 ∧ ∃ l en p f8, pat a e v = some (l, en, p) ∧ y = some (.inl (3, 1, .inr (.inl (vp_updL f8 (0 : Int32).toNatClampNeg (rdV p).toInt64)))))
theorem c_91q (hT : Ty σ K) (hS : S0 K) (ho9 : σ.2[o9]? = some (.inl (3, 1, .inr (.inl f9)))) (hKo : K o9 = 0) (h8o : 8 ≤ o9) (h : CN σ w f a) (e l : Int32) : hE ra (d + 7) 91 [.ref 0, .int e, .int l, .ref o9] σ (pI (fun σ' x => (∃ K', Lw o9 K σ K' σ') ∧ σ'.2[0]? = σ.2[0]? ∧ CN σ' w f (rdA a e l) ∧ rdX a e l x σ'.2[o9]?)) := by
  obtain ⟨r, g1, hr, hq⟩ := hE_and (c_92t (ra := ra) (d := d) hT hS e l) (c_92n h e l)
  rcases hq with ⟨rfl, hno⟩ | ⟨rfl, l', en', p', hp', hk'⟩ | ⟨σ', l', en', p', s', t', rfl, hp', hk', hC⟩
  · refine h_in rfl rfl (Nat.le_of_ble_eq_true rfl) ?_
    refine h_st rfl rfl ?_
    refine h_st rfl rfl ?_
    refine h_st rfl rfl ?_
    refine h_st rfl rfl ?_
    refine h_st rfl rfl ?_
    refine h_cx3 rfl (Nat.le_of_ble_eq_true rfl) (rcv1 hT hS.1) rfl ((⟨_, g1, _, rfl, rfl⟩ : hE ra (d + 6) 92 [.ref 0, .int e, .int l] σ (pX 0 (fun z => z = ((σ.1.1 + 1, σ.1.2 + 6), σ.2))))) rfl (fun σ2 hq => ?_)
    subst hq
    refine h_st rfl rfl ?_
    exact h_rt rfl rfl (⟨_, _, rfl, ⟨K, (Up.thr hT).lw (by decide) (by decide) ho9 hKo⟩, rfl, by rw [rd_no hno]; exact h.hh (HT.ct rfl), Or.inl ⟨rfl, hno⟩⟩)
  · rcases hr with ⟨σ2, v2, K', er, hu, hn0, hn1⟩ | ⟨x, hx, er⟩
    · injection er with er er2
      subst er
      refine h_in rfl rfl (Nat.le_of_ble_eq_true rfl) ?_
      refine h_st rfl rfl ?_
      refine h_st rfl rfl ?_
      refine h_st rfl rfl ?_
      refine h_st rfl rfl ?_
      refine h_st rfl rfl ?_
      refine h_ci3 rfl (Nat.le_of_ble_eq_true rfl) (rcv1 hT hS.1) rfl ((⟨_, g1, σ, 0, rfl, rfl, rfl⟩ : hE ra (d + 6) 92 [.ref 0, .int e, .int l] σ (pI (fun z y => z = σ ∧ y = 0)))) (fun σ2 y2 hq => ?_)
      obtain ⟨rfl, rfl⟩ := hq
      have hlw := hu.lw (by decide) (by decide) ho9 hKo
      obtain ⟨f8, ho8⟩ := hlw.2.2.2.2.1
      have hK8 := (hlw.2.2.2.1 o9 (List.getElem?_eq_some_iff.mp ho9).1 hKo).1
      refine h_st rfl rfl ?_
      refine h_st rfl (e_las ho8 (by decide)) ?_
      refine h_st rfl rfl ?_
      refine h_st rfl rfl ?_
      exact h_rt rfl rfl (⟨_, _, rfl, ⟨K', hlw.las hK8 ho8⟩, (st_ne (fun z => by rw [z, hS.1] at hKo; cases hKo)).trans hn0, by rw [rd_em hp' hk']; exact h.hh (HT.las ho8 h8o no3), Or.inr ⟨rfl, l', en', p', f8, hp', by rw [show rdV p' = 0 from by unfold rdV; rw [hk']]; exact (List.getElem?_set_self (List.getElem?_eq_some_iff.mp ho8).1)⟩⟩)
    · injection er with _ er2
      cases er2
  · rcases hr with ⟨σ2, v2, K', er, hu, hn0, hn1⟩ | ⟨x, hx, er⟩
    · injection er with er er2
      subst er
      refine h_in rfl rfl (Nat.le_of_ble_eq_true rfl) ?_
      refine h_st rfl rfl ?_
      refine h_st rfl rfl ?_
      refine h_st rfl rfl ?_
      refine h_st rfl rfl ?_
      refine h_st rfl rfl ?_
      refine h_ci3 rfl (Nat.le_of_ble_eq_true rfl) (rcv1 hT hS.1) rfl ((⟨_, g1, σ', nI s' - 8, rfl, rfl, rfl⟩ : hE ra (d + 6) 92 [.ref 0, .int e, .int l] σ (pI (fun z y => z = σ' ∧ y = nI s' - 8)))) (fun σ2 y2 hq => ?_)
      obtain ⟨rfl, rfl⟩ := hq
      have hlw := hu.lw (by decide) (by decide) ho9 hKo
      obtain ⟨f8, ho8⟩ := hlw.2.2.2.2.1
      have hK8 := (hlw.2.2.2.1 o9 (List.getElem?_eq_some_iff.mp ho9).1 hKo).1
      refine h_st rfl rfl ?_
      refine h_st rfl (e_las ho8 (by decide)) ?_
      refine h_st rfl rfl ?_
      refine h_st rfl rfl ?_
      exact h_rt rfl rfl (⟨_, _, rfl, ⟨K', hlw.las hK8 ho8⟩, (st_ne (fun z => by rw [z, hS.1] at hKo; cases hKo)).trans hn0, by rw [rd_ok hp' hk']; exact hC.hh (HT.las ho8 h8o no3), Or.inr ⟨rfl, l', en', p', f8, hp', by rw [show rdV p' = nI s' - 8 from by unfold rdV; rw [hk']]; exact (List.getElem?_set_self (List.getElem?_eq_some_iff.mp ho8).1)⟩⟩)
    · injection er with _ er2
      cases er2
end WR
end SX25
