section SX21
variable {ra : ae_R} {d : Nat} {σ σ0 σ1 σ2 : ae_S} {w w0 w1 w2 : Nat → Nat} {C C' : Nat → Prop} {l q : Nat} {f : Nat → Option Nat} {a : AN} {k : AK}
theorem ned_bd {mo : Nat} {qu x : Int32} (hmo : 64 ≤ mo ∧ mo ≤ 128) (h : ned mo qu x ≠ 0) : ∃ s, x = nI s ∧ (1 ≤ s ∧ s ≤ 400) ∧ rmm mo qu * (ned mo qu (nI s) - 1) < s + 8 ∧ s + 8 ≤ rmm mo qu * ned mo qu (nI s) := by
  have hr := rmm_bd (qu := qu) hmo
  by_cases c : x < 1 ∨ 400 < x
  · exact absurd (by unfold ned; rw [if_pos c]) h
  · have h0 : ¬ x < 0 := fun z => c (Or.inl (Int32.lt_trans z (by decide)))
    obtain ⟨s, hs, rfl⟩ := nI_of2 (x := x) (M := 400) (n := 400) (by decide) h0 (Int32.not_lt.mp (fun z => c (Or.inr z)))
    have h1 : 1 ≤ s := Nat.le_of_not_lt (fun z => c (Or.inl (nI_lt (b := 1) z (by decide))))
    refine ⟨s, rfl, ⟨h1, hs⟩, ?_⟩
    have e : ned mo qu (nI s) = (8 + s + rmm mo qu - 1) / rmm mo qu := by
      have e2 : ned mo qu (nI s) = if (8 + s + rmm mo qu - 1) / rmm mo qu ≤ (if qu = 0 then 1 else 8) then (8 + s + rmm mo qu - 1) / rmm mo qu else 0 := by
        unfold ned
        rw [if_neg c, nI_clamp (by omega)]
      by_cases c2 : (8 + s + rmm mo qu - 1) / rmm mo qu ≤ (if qu = 0 then 1 else 8)
      · rw [e2, if_pos c2]
      · rw [if_neg c2] at e2
        exact absurd e2 h
    have e3 := Nat.div_add_mod (8 + s + rmm mo qu - 1) (rmm mo qu)
    have e4 := Nat.mod_lt (8 + s + rmm mo qu - 1) (show rmm mo qu > 0 by omega)
    rw [← e] at e3
    have hn : 1 ≤ ned mo qu (nI s) := by omega
    have e5 : rmm mo qu * ned mo qu (nI s) = rmm mo qu * (ned mo qu (nI s) - 1) + rmm mo qu := by
      have : ned mo qu (nI s) = ned mo qu (nI s) - 1 + 1 := by omega
      rw [this, Nat.mul_add, Nat.mul_one]
      rfl
    omega
/-- a link's cells move, but not its ports -/
theorem CN.lnk {q po ac wa fi : Nat} {se : Int32} {pf : Nat → Option Nat} {k' : AK} (h : CN σ w f a) (hl : l < 8) (hf : f l = some q) (hk : nK a l = some k) (hL : LK σ w l q k po ac wa fi se) (hpf : σ.2[po]? = some (.inl (7, rfs 4 pf))) (hPT : ∀ e, e < 4 → (nP a l e = none → pf e = none) ∧ ∀ p, nP a l e = some p → ∃ r, pf e = some r ∧ PT σ w (lb l + 20 + 40 * e) r p) (hsq : rg (dsq k') 256) (hL' : LK σ1 w l q k' po ac wa fi se) (s : Sa (fun c => c = lb l ∨ (lb l + 8 ≤ c ∧ c < lb l + 16)) σ w σ1 w) : CN σ1 w f (setK a l k') := by
  have wpo := hL.1.2.1
  refine h.lk (k := k) s (fun c z => by omega) hl ⟨fun z => (by rw [updK_s] at z; cases z), fun k2 hk2 => ?_⟩ (fun j hj => updK_n hj) (fun j hj => rfl)
  rw [updK_s] at hk2
  cases hk2
  exact ⟨q, po, ac, wa, fi, se, pf, hf, hL', s.at hpf (by omega), hsq, fun e he => ⟨(hPT e he).1, fun p hp => by
    obtain ⟨r', h6, h7⟩ := (hPT e he).2 p hp
    exact ⟨r', h6, h7.sa s (fun c z => by unfold PC at z; omega)⟩⟩⟩
theorem c_87n (h : CN σ w f a) (v sz sd : Int32) : hE ra (d + 6) 87 [.ref 0, .int v, .int sz, .int sd] σ (fun r => (r = (((σ.1.1 + 1, σ.1.2 + 6), σ.2), .inr 0) ∧ (kat a v = none ∨ ∃ l k, kat a v = some (l, k) ∧ ned (kmo k) (kqu k) sz = 0)) ∨ (r = (((σ.1.1 + 1, σ.1.2 + 6), σ.2), .inr 1) ∧ ∃ l k, kat a v = some (l, k) ∧ ned (kmo k) (kqu k) sz ≠ 0 ∧ 8 < (dfr k).length + ned (kmo k) (kqu k) sz) ∨ ∃ σ' l k s, r = (σ', .inl (some (.int (nI (ned (kmo k) (kqu k) sz))))) ∧ kat a v = some (l, k) ∧ ned (kmo k) (kqu k) sz ≠ 0 ∧ (dfr k).length + ned (kmo k) (kqu k) sz ≤ 8 ∧ sz = nI s ∧ s ≤ 400 ∧ CN σ' w f (setK a l (adm k s sd (ned (kmo k) (kqu k) sz)))) := by
  have h0 := h.1.1.1
  refine h_in rfl rfl (Nat.le_of_ble_eq_true rfl) ?_
  refine h_st rfl rfl ?_
  refine h_st rfl rfl ?_
  refine h_cr2 rfl (Nat.le_of_ble_eq_true rfl) (e_rcv (h0)) rfl (c_37z h v) (fun σ' q hq => ?_)
  obtain ⟨rfl, hq⟩ := hq
  rcases hq with ⟨rfl, hkat⟩ | ⟨r, l, k, rfl, hl, hvl, hkat, hf, hk⟩
  · refine h_st rfl rfl ?_
    refine h_st rfl rfl ?_
    refine h_st rfl rfl ?_
    exact h_th rfl (Nat.le_add_left _ _) (Nat.le_of_ble_eq_true rfl) (Or.inl ⟨rfl, Or.inl hkat⟩)
  · obtain ⟨q', po, ac, wa, fi, se, pf, e1, hL, hpf, hsq, hPT⟩ := (h.2.2.2.2.2 l hl).2 k hk
    rw [hf] at e1
    injection e1 with e1
    subst e1
    have hmo := hL.2.2.1.2.1
    have hlen := hL.2.2.1.2.2.2
    have hnl := ned_le (mo := kmo k) (qu := kqu k) (x := sz)
    refine h_st rfl rfl ?_
    refine h_st rfl rfl ?_
    refine h_st rfl rfl ?_
    refine h_st rfl rfl ?_
    refine h_st rfl rfl ?_
    refine h_ci2 rfl (Nat.le_of_ble_eq_true rfl) (hL.rcv) rfl (c_88x hL.2.1 hmo sz) (fun σ2 y hy => ?_)
    obtain ⟨rfl, rfl⟩ := hy
    refine h_st rfl rfl ?_
    refine h_st rfl rfl ?_
    refine h_st rfl rfl ?_
    refine h_br (fun q1 => ?_) (fun q1 => ?_)
    · have hn0 : ned (kmo k) (kqu k) sz ≠ 0 := fun z => q1 (by rw [z]; rfl)
      obtain ⟨s, rfl, hs, n1, n2⟩ := ned_bd hmo hn0
      refine h_st rfl rfl ?_
      refine h_st rfl (e_get hL.2.1 rfl) ?_
      refine h_st rfl rfl ?_
      refine h_st rfl rfl ?_
      refine h_st rfl rfl ?_
      refine h_st rfl rfl ?_
      refine h_br (fun q2 => ?_) (fun q2 => ?_)
      · have hle : (dfr k).length + ned (kmo k) (kqu k) (nI s) ≤ 8 := by
          have q2' : nI (dfr k).length + nI (ned (kmo k) (kqu k) (nI s)) ≤ nI 8 := q2
          rw [nI_add] at q2'
          exact (nI_leI (by omega) (by decide)).mp q2'
        refine h_st rfl rfl ?_
        refine h_st rfl rfl ?_
        refine h_st rfl rfl ?_
        refine h_cv3 rfl (Nat.le_of_ble_eq_true rfl) (hL.rcv) rfl (c_90z (d := d + 2) (sd := sd) rfl hL hs hle n1 n2) (fun σ3 hq3 => ?_)
        obtain ⟨hL3, s3⟩ := hq3
        refine h_st rfl rfl ?_
        exact h_rt rfl rfl (Or.inr (Or.inr ⟨_, l, k, s, rfl, hkat, hn0, hle, rfl, hs.2, h.lnk hl hf hk hL hpf hPT hsq hL3 s3⟩))
      · exact h_th rfl (Nat.le_add_left _ _) (Nat.le_of_ble_eq_true rfl) (Or.inr (Or.inl ⟨rfl, l, k, hkat, hn0, Nat.lt_of_not_le (fun z => q2 (show nI (dfr k).length + nI (ned (kmo k) (kqu k) (nI s)) ≤ nI 8 by rw [nI_add]; exact nI_le z (by decide)))⟩))
    · exact h_th rfl (Nat.le_add_left _ _) (Nat.le_of_ble_eq_true rfl) (Or.inl ⟨rfl, Or.inr ⟨l, k, hkat, Decidable.of_not_not (fun z => nI_ne0 (by omega) (by omega) (Decidable.of_not_not q1))⟩⟩)
/-- the port that a call names -/
def pat (a : AN) (e v : Int32) : Option (Nat × Nat × AP) := match kat a v with
  | none => none
  | some (l, _) => if e < 0 ∨ 4 ≤ e then none else match nP a l e.toNatClampNeg with
    | none => none
    | some p => some (l, e.toNatClampNeg, p)
theorem c_65n (h : CN σ w f a) (e v : Int32) : hE ra (d + 3) 65 [.ref 0, .int e, .int v] σ (pR (fun σ' q => σ' = σ ∧ ((q = none ∧ pat a e v = none) ∨ ∃ r l en p k ql po ac wa fi se pf, q = some r ∧ l < 8 ∧ en < 4 ∧ pat a e v = some (l, en, p) ∧ nP a l en = some p ∧ pf en = some r ∧ PT σ w (lb l + 20 + 40 * en) r p ∧ f l = some ql ∧ nK a l = some k ∧ LK σ w l ql k po ac wa fi se ∧ σ.2[po]? = some (.inl (7, rfs 4 pf)) ∧ rg (dsq k) 256 ∧ ∀ e, e < 4 → (nP a l e = none → pf e = none) ∧ ∀ p, nP a l e = some p → ∃ r, pf e = some r ∧ PT σ w (lb l + 20 + 40 * e) r p))) := by
  have h0 := h.1.1.1
  refine h_in rfl rfl (Nat.le_of_ble_eq_true rfl) ?_
  refine h_st rfl rfl ?_
  refine h_st rfl rfl ?_
  refine h_cr2 rfl (Nat.le_of_ble_eq_true rfl) (e_rcv (h0)) rfl (c_37z h v) (fun σ' q hq => ?_)
  obtain ⟨rfl, hq⟩ := hq
  rcases hq with ⟨rfl, hkat⟩ | ⟨r, l, k, rfl, hl, hvl, hkat, hf, hk⟩
  · refine h_st rfl rfl ?_
    refine h_st rfl rfl ?_
    refine h_st rfl rfl ?_
    refine h_st rfl rfl ?_
    refine h_st rfl rfl ?_
    exact h_rt rfl rfl (⟨_, none, rfl, rfl, Or.inl ⟨rfl, by unfold pat; rw [hkat]⟩⟩)
  · obtain ⟨q', po, ac, wa, fi, se, pf, e1, hL, hpf, hsq, hPT⟩ := (h.2.2.2.2.2 l hl).2 k hk
    rw [hf] at e1
    injection e1 with e1
    subst e1
    have ep : pat a e v = (if e < 0 ∨ 4 ≤ e then none else match nP a l e.toNatClampNeg with | none => none | some p => some (l, e.toNatClampNeg, p)) := by
      unfold pat
      rw [hkat]
    refine h_st rfl rfl ?_
    refine h_st rfl rfl ?_
    refine h_st rfl rfl ?_
    refine h_st rfl rfl ?_
    refine h_st rfl rfl ?_
    refine h_cr2 rfl (Nat.le_of_ble_eq_true rfl) (hL.rcv) rfl (c_39x hL.2.1 hpf e) (fun σ2 q2 hq2 => ?_)
    obtain ⟨rfl, hq2⟩ := hq2
    refine h_rt rfl (k_rv _) (⟨_, q2, rfl, rfl, ?_⟩)
    rcases hq2 with ⟨rfl, hno⟩ | ⟨en, hen, rfl, rfl⟩
    · exact Or.inl ⟨rfl, by rw [ep, if_pos (Decidable.of_not_not (fun u => hno ⟨fun p => u (Or.inl p), fun p => u (Or.inr p)⟩))]⟩
    · rw [if_neg (fun z => z.elim (nI_pos (by omega)) (nI_ge (b := 4) hen (by decide))), nI_clamp (by omega)] at ep
      cases hp : nP a l en with
      | none =>
        rw [hp] at ep
        exact Or.inl ⟨(hPT en hen).1 hp, ep⟩
      | some p =>
        rw [hp] at ep
        obtain ⟨r', h6, h7⟩ := (hPT en hen).2 p hp
        exact Or.inr ⟨r', l, en, p, k, r, po, ac, wa, fi, se, pf, h6, hl, hen, ep, hp, h6, h7, hf, hk, hL, hpf, hsq, hPT⟩
/-- a message is read: a queue loses its first -/
def rdp (P : AP) : AP := if pqu P = 0 then P else (P.1, P.2.1, P.2.2.1, P.2.2.2.1, (pks P).tail, pca P)
theorem c_93z {c p : Nat} {P : AP} (h : PT σ w c p P) : hE ra (d + 1) 93 [.ref p] σ (pR (fun σ' q => (q = none ∧ pks P = [] ∧ σ' = σ) ∨ ∃ (r s : Nat) (t : List Nat) (pb : Nat) (x : AF), q = some r ∧ pks P = s :: t ∧ PT σ' w c p (rdp P) ∧ Sa (fun k => k = c) σ w σ' w ∧ DX σ' r pb x.1 x.2 ∧ x.1 = s ∧ (c + 6 ≤ w r ∧ w r < c + 16) ∧ (c + 6 ≤ w pb ∧ w pb < c + 16))) := by
  obtain ⟨la, be, ke, fk, n, ib, bn, fs, x0, h, hb⟩ := h
  have h' := h
  obtain ⟨⟨a1, a2, a3⟩, h1, ⟨hn, h2, h3⟩, ⟨fa, h4, h5⟩, h6, h7, h8, h9⟩ := h'
  have hn4 : 1 ≤ n ∧ n ≤ 4 := by omega
  cases hks : pks P with
  | nil =>
    have hlen : (pks P).length = 0 := by rw [hks]; rfl
    refine h_in rfl rfl (Nat.le_of_ble_eq_true rfl) ?_
    refine h_st rfl rfl ?_
    refine h_st rfl (e_get h1 rfl) ?_
    refine h_st rfl rfl ?_
    refine h_pc (if_neg (fun z9 => (fun z => z (by rw [hlen]; rfl)) (of_decide_eq_true z9))) ?_
    refine h_st rfl rfl ?_
    exact h_rt rfl rfl (⟨_, none, rfl, Or.inl ⟨rfl, rfl, rfl⟩⟩)
  | cons s t =>
    have hlen : (pks P).length = t.length + 1 := by rw [hks]; rfl
    obtain ⟨r, x, e1, e2, e3⟩ := h9 0 s (by rw [hks]; rfl)
    have e0 : (fk + 0) % n = fk := by rw [Nat.add_zero, Nat.mod_eq_of_lt h2]
    rw [e0] at e1 e2
    obtain ⟨wr, pb, wpb, hD⟩ := e2
    have hin : ¬ (nI fk < 0 ∨ n ≤ (nI fk).toNatClampNeg) := nI_in h2 (by omega)
    have er : fs (nI fk).toNatClampNeg = some r := by rw [nI_clamp (by omega)]; exact e1
    refine h_in rfl rfl (Nat.le_of_ble_eq_true rfl) ?_
    refine h_st rfl rfl ?_
    refine h_st rfl (e_get h1 rfl) ?_
    refine h_st rfl rfl ?_
    refine h_pc (if_pos (decide_eq_true ((by rw [hlen]; exact nI_ne0 (by omega) (by omega))))) ?_
    refine h_st rfl rfl ?_
    refine h_st rfl (e_get h1 rfl) ?_
    refine h_st rfl rfl ?_
    refine h_st rfl (e_get h1 rfl) ?_
    refine h_st rfl ((e_aa h6 (by decide) hin).trans (by rw [er])) ?_
    refine h_st rfl rfl ?_
    refine h_st rfl rfl ?_
    refine h_st rfl (e_get h1 rfl) ?_
    refine h_st rfl rfl ?_
    refine h_br (fun q => ?_) (fun q => ?_)
    · refine h_st rfl rfl ?_
      exact h_rt rfl rfl (⟨_, some r, rfl, Or.inr ⟨r, s, t, pb, x, rfl, rfl, by unfold rdp; rw [if_pos q]; exact ⟨la, be, ke, fk, n, ib, bn, fs, x0, h, hb⟩, Sa.refl, hD, e3, by omega, by omega⟩⟩)
    · have hn44 : n = 4 := by
        rcases hn with z | z
        · exact z.2
        · exact absurd z.1 q
      subst hn44
      have ep : rdp P = (P.1, P.2.1, P.2.2.1, P.2.2.2.1, (pks P).tail, pca P) := if_neg q
      have et : pks (rdp P) = t := by rw [ep]; show (pks P).tail = t; rw [hks]; rfl
      have epq : pqu (rdp P) = pqu P := by rw [ep]
      have epl : pla (rdp P) = pla P := by rw [ep]
      have epb : pbg (rdp P) = pbg P := by rw [ep]
      have em : nI fk + 1 - (nI fk + 1) / 4 * 4 = nI ((fk + 1) % 4) := by rw [nI_1]; exact pk_rem (d := 4) (by omega) (by decide) (by decide)
      have s1 := Sa.set (σ := σ) (w := w) (p := p) (y := PtC (rdp P) la be ke ((fk + 1) % 4) ib bn)
      rw [a1] at s1
      refine h_st rfl rfl ?_
      refine h_st rfl rfl ?_
      refine h_st rfl (e_get h1 rfl) ?_
      refine h_st rfl rfl ?_
      refine h_st rfl rfl ?_
      refine h_st rfl (e_put h1 rfl (Nat.le_of_ble_eq_true rfl)) ?_
      refine h_st rfl rfl ?_
      refine h_st rfl rfl ?_
      refine h_st rfl (e_get (st_get h1) rfl) ?_
      refine h_st rfl rfl ?_
      refine h_st rfl rfl ?_
      refine h_st rfl rfl ?_
      refine h_st rfl (e_dv (by decide)) ?_
      refine h_st rfl (e_put (st_get h1) rfl (Nat.le_of_ble_eq_true rfl)) ?_
      refine hG_eq (σ1 := (σ.1, σ.2.set p (PtC (rdp P) la be ke ((fk + 1) % 4) ib bn))) ?_ ?_
      · refine Prod.ext rfl ?_
        show (σ.2.set p _).set p _ = _
        rw [List.set_set]
        unfold PtC
        rw [et, ← em, show nI t.length = nI (pks P).length - 1 by rw [hlen, nI_pred], ep]
        rfl
      have hx : PTx (σ.1, σ.2.set p (PtC (rdp P) la be ke ((fk + 1) % 4) ib bn)) w c p (rdp P) la be ke ((fk + 1) % 4) 4 ib bn fs x0 := by
        refine ⟨⟨a1, a2, a3⟩, st_get h1, ⟨by rw [epq]; exact hn, Nat.mod_lt _ (by decide), by rw [et]; omega⟩, ⟨fa, s1.at h4 (by omega), by rw [epl]; exact h5⟩, s1.at h6 (by omega), h7.sa s1 (by omega) (by omega), fun j q hj hq => ?_, fun j s' hj => ?_⟩
        · obtain ⟨u, hu⟩ := h8 j q hj hq
          exact ⟨u, hu.sa s1 (by omega) (by omega)⟩
        · rw [et] at hj
          obtain ⟨q, u, z1, z2, z3⟩ := h9 (j + 1) s' (by rw [hks]; exact hj)
          have ej : ((fk + 1) % 4 + j) % 4 = (fk + (j + 1)) % 4 := by omega
          rw [ej]
          exact ⟨q, u, z1, z2.sa s1 (by omega) (by omega), z3⟩
      refine h_st rfl rfl ?_
      exact h_rt rfl rfl (⟨_, some r, rfl, Or.inr ⟨r, s, t, pb, x, rfl, rfl, ⟨la, be, ke, _, 4, ib, bn, fs, x0, hx, by rw [epb]; exact hb⟩, s1, hD.sa s1 (by omega) (by omega), e3, by omega, by omega⟩⟩)
theorem DX.pb_ne {p pb n p1 b1 n1 : Nat} {g f1 : Nat → Int32} (h : DX σ p pb n g) (g : DX σ p1 b1 n1 f1) : b1 ≠ p := fun e => by
  obtain ⟨h1, _⟩ := h
  obtain ⟨_, _, g', g3, _⟩ := g
  rw [e, h1] at g3
  cases g3
theorem c_94z {p pb n p1 b1 n1 : Nat} {g f1 : Nat → Int32} (h : DX σ p pb n g) (g : DX σ p1 b1 n1 f1) : hE ra (d + 1) 94 [.ref p1, .ref p] σ (pV (fun σ' => (∃ f', DX σ' p1 b1 n f') ∧ Op p1 b1 σ σ')) := by
  have a1 := h.pb_ne g
  obtain ⟨h1, h2, fh, hf, hb, hv⟩ := h
  obtain ⟨g1, g2, fg, gf, gb, _⟩ := g
  refine h_in rfl rfl (Nat.le_of_ble_eq_true rfl) ?_
  refine h_st rfl rfl ?_
  refine h_st rfl (e_get h1 rfl) ?_
  refine h_st rfl rfl ?_
  refine h_st rfl rfl ?_
  refine h_st rfl (e_get g1 rfl) ?_
  refine h_st rfl rfl ?_
  refine h_st rfl rfl ?_
  refine h_st rfl (e_get h1 rfl) ?_
  refine b_cpx rfl (by decide) h2.1 hf hb gf gb (Nat.le_of_ble_eq_true rfl) (fun g' hg' hg2 => ?_)
  refine h_st rfl rfl ?_
  refine h_st rfl rfl ?_
  refine h_st rfl (e_get ((st_ne a1).trans h1) rfl) ?_
  refine h_st rfl (e_put ((st_ne (Ne.symm g2.2)).trans g1) rfl (Nat.le_of_ble_eq_true rfl)) ?_
  exact h_rv rfl (⟨_, rfl, ⟨fun j => g' j &&& 255, st_get ((st_ne (Ne.symm g2.2)).trans g1), ⟨h2.1, g2.2⟩, g', (st_ne g2.2).trans (st_get gf), hg', fun j hj => rfl⟩, rfl, by simp, fun q z1 z2 => (st_ne (Ne.symm z1)).trans (st_ne (Ne.symm z2))⟩)
theorem CN.rd (h : CN σ w f a) (hs : Sa C σ w σ1 w) (hc : ∀ c, C c → c = 2402 ∨ c = 2403) (hD : Rd σ1 w) : CN σ1 w f a := by
  obtain ⟨h1, h2, h3, h4, ⟨h5, h6⟩, h7⟩ := h
  have hn : ∀ c, c ≠ 2402 ∧ c ≠ 2403 → ¬ C c := fun c z1 z => by have := hc _ z; omega
  exact ⟨h1.sa hs (hn _ (by omega)) (hn _ (by omega)) (hn _ (by omega)), h2.sa hs (hn _ (by omega)) (hn _ (by omega)), hD, fun j hj => (h4 j hj).sa hs (fun c z1 => hn _ (by unfold LC at z1; omega)), ⟨hs.at h5 (hn _ (by omega)), h6⟩, fun l hl => (h7 l hl).sa hs (fun c z1 z2 => hn _ (by unfold lb at z1; omega))⟩
theorem c_92n (h : CN σ w f a) (e v : Int32) : hE ra (d + 6) 92 [.ref 0, .int e, .int v] σ (fun r => (r = (((σ.1.1 + 1, σ.1.2 + 6), σ.2), .inr 0) ∧ pat a e v = none) ∨ (r = (σ, .inl (some (.int 0))) ∧ ∃ l en p, pat a e v = some (l, en, p) ∧ pks p = []) ∨ ∃ σ' l en p s t, r = (σ', .inl (some (.int (nI s - 8)))) ∧ pat a e v = some (l, en, p) ∧ pks p = s :: t ∧ CN σ' w f (setP a l en (rdp p))) := by
  have h0 := h.1.1.1
  refine h_in rfl rfl (Nat.le_of_ble_eq_true rfl) ?_
  refine h_st rfl rfl ?_
  refine h_st rfl rfl ?_
  refine h_st rfl rfl ?_
  refine h_cr3 rfl (Nat.le_of_ble_eq_true rfl) (e_rcv (h0)) rfl (c_65n (d := d + 2) h e v) (fun σ' q hq => ?_)
  obtain ⟨rfl, hq⟩ := hq
  rcases hq with ⟨rfl, hpat⟩ | ⟨r, l, en, p, k, ql, po, ac, wa, fi, se, pf, rfl, hl, hen, hpat, hp, hpf1, hPt, hf, hk, hL, hpf, hsq, hPT⟩
  · refine h_st rfl rfl ?_
    refine h_st rfl rfl ?_
    refine h_st rfl rfl ?_
    exact h_th rfl (Nat.le_add_left _ _) (Nat.le_of_ble_eq_true rfl) (Or.inl ⟨rfl, hpat⟩)
  · have hrc : ∀ as, ae_rcv σ' (some 5) (.ref r :: as) = true := fun as => by
      obtain ⟨_, _, _, _, _, _, _, _, _, hx, _⟩ := hPt
      exact hx.rcv
    refine h_st rfl rfl ?_
    refine h_st rfl rfl ?_
    refine h_st rfl rfl ?_
    refine h_st rfl rfl ?_
    refine h_cr1 rfl (Nat.le_of_ble_eq_true rfl) (hrc _) rfl (c_93z hPt) (fun σ2 q2 hq2 => ?_)
    rcases hq2 with ⟨rfl, hks, rfl⟩ | ⟨r2, s, t, pb, x, rfl, hks, hP2, s2, hD2, hxs, wr2, wpb2⟩
    · refine h_st rfl rfl ?_
      refine h_st rfl rfl ?_
      refine h_st rfl rfl ?_
      refine h_st rfl rfl ?_
      exact h_rt rfl rfl (Or.inr (Or.inl ⟨rfl, l, en, p, hpat, hks⟩))
    · have h2 := h.pt hl hen hf hk hL hpf hsq hPT hpf1 hP2 (s2.mono (fun c z => by unfold PC; omega))
      obtain ⟨⟨n6, g6, hR⟩, w6, w7⟩ := h2.2.2.1
      refine h_st rfl rfl ?_
      refine h_st rfl rfl ?_
      refine h_st rfl rfl ?_
      refine h_st rfl rfl ?_
      refine h_st rfl (e_get h2.1.1.1 rfl) ?_
      refine h_st rfl rfl ?_
      refine h_cv2 rfl (Nat.le_of_ble_eq_true rfl) (e_rcv (hR.1)) rfl (c_94z hD2 hR) (fun σ3 hq3 => ?_)
      obtain ⟨⟨f3, hR3⟩, o3⟩ := hq3
      have s3 := Sa.op (w := w) o3
      rw [w6, w7] at s3
      have h3 := h2.rd s3 (fun c z => z) ⟨⟨_, _, hR3⟩, w6, w7⟩
      refine h_st rfl rfl ?_
      refine h_st rfl (e_get h3.1.1.1 rfl) ?_
      refine h_st rfl (e_get hR3.1 rfl) ?_
      refine h_st rfl rfl ?_
      refine h_st rfl rfl ?_
      exact h_rt rfl rfl (Or.inr (Or.inr ⟨_, l, en, p, s, t, by rw [← hxs], hpat, hks, h3⟩))
end SX21
