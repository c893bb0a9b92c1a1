section SX8
variable {ra : ae_R} {d : Nat} {σ σ0 σ1 σ2 : ae_S} {w w0 w1 w2 : Nat → Nat} {C C' : Nat → Prop} {l q : Nat} {tm : Int32}
/-- a fragment: the message's number, its size, its seed, the fragment's place -/
abbrev AG : Type := Int32 × Nat × Int32 × Nat
/-- a link: source, gap, greatest frame, high, queuing, paths, targets; the fragments, the count of messages, the next sequence number, when it is open; its accounts -/
abbrev AK : Type := (Nat × Int32 × Nat × Int32 × Int32 × Int32 × Int32) × (List AG × Int32 × Int32 × Int32) × (Nat → Int32)
abbrev kso (a : AK) : Nat := a.1.1
abbrev kga (a : AK) : Int32 := a.1.2.1
abbrev kmo (a : AK) : Nat := a.1.2.2.1
abbrev khi (a : AK) : Int32 := a.1.2.2.2.1
abbrev kqu (a : AK) : Int32 := a.1.2.2.2.2.1
abbrev kpa (a : AK) : Int32 := a.1.2.2.2.2.2.1
abbrev kta (a : AK) : Int32 := a.1.2.2.2.2.2.2
abbrev dfr (a : AK) : List AG := a.2.1.1
abbrev dme (a : AK) : Int32 := a.2.1.2.1
abbrev dsq (a : AK) : Int32 := a.2.1.2.2.1
abbrev dop (a : AK) : Int32 := a.2.1.2.2.2
abbrev kac (a : AK) : Nat → Int32 := a.2.2
def fln (rm : Nat) (x : AG) : Nat := if rm ≤ 8 + x.2.1 - x.2.2.2 then rm else 8 + x.2.1 - x.2.2.2
def fmo (rm : Nat) (x : AG) : Int32 := if x.2.2.2 + fln rm x < 8 + x.2.1 then 1 else 0
def FG (rm : Nat) (x : AG) : ae_C := .inr (1, [.int x.1, .int (nI x.2.1), .int x.2.2.1, .int (nI x.2.2.2), .int (nI (fln rm x)), .int (fmo rm x)])
def fol (s : Int32) : Int32 := if s = 255 then 1 else s + 1
def lb (l : Nat) : Nat := 3000 + 200 * l
def LkC (l : Nat) (a : AK) (po ac wa fi : Nat) (se : Int32) : ae_C := .inr (4, [.int (nI l), .int (nI (kso a)), .int (kga a), .int (nI (kmo a)), .int (khi a), .int (kqu a), .int (kpa a), .ref po, .ref ac, .ref wa, .int (nI fi), .int (nI (dfr a).length), .int (dme a), .int se, .int (dop a)])
/-- a link of the class: at q, its parts by their codes -/
def LK (σ : ae_S) (w : Nat → Nat) (l q : Nat) (a : AK) (po ac wa fi : Nat) (se : Int32) : Prop := (w q = lb l ∧ w po = lb l + 1 ∧ w ac = lb l + 2 ∧ w wa = lb l + 3) ∧ σ.2[q]? = some (LkC l a po ac wa fi se) ∧ (kso a < 4 ∧ (64 ≤ kmo a ∧ kmo a ≤ 128) ∧ fi < 8 ∧ (dfr a).length ≤ 8) ∧ dsq a = (if se = -1 then 0 else fol se) ∧ (∃ fa, σ.2[ac]? = some (.inl (0, 2, .inl fa)) ∧ fa 0 = kac a 0 ∧ fa 1 = kac a 1) ∧ ∃ fw, σ.2[wa]? = some (.inl (8, rfs 8 fw)) ∧ (∀ j, j < 8 → ∃ q' v0 v1 v2 v3 v4 v5, fw j = some q' ∧ w q' = lb l + 8 + j ∧ σ.2[q']? = some (.inr (1, [.int v0, .int v1, .int v2, .int v3, .int v4, .int v5]))) ∧ ∀ j x, (dfr a)[j]? = some x → (1 ≤ x.2.1 ∧ x.2.1 ≤ 400 ∧ x.2.2.2 < 8 + x.2.1) ∧ ∃ q', fw ((fi + j) % 8) = some q' ∧ σ.2[q']? = some (FG (rmm (kmo a) (kqu a)) x)
theorem LK.sa {a : AK} {po ac wa fi : Nat} {se : Int32} (h : LK σ w l q a po ac wa fi se) (hs : Sa C σ w σ1 w1) (hc : ∀ c, lb l ≤ c → c < lb l + 16 → ¬ C c) (hpo : w1 po = w po) : LK σ1 w1 l q a po ac wa fi se := by
  obtain ⟨⟨a1, a2, a3, a4⟩, h1, h2, h3, ⟨fa, h4, h5⟩, fw, h6, h7, h8⟩ := h
  have c1 : ¬ C (w q) := hc _ (by omega) (by omega)
  have c3 : ¬ C (w ac) := hc _ (by omega) (by omega)
  have c4 : ¬ C (w wa) := hc _ (by omega) (by omega)
  refine ⟨⟨(hs.wt h1 c1).trans a1, hpo.trans a2, (hs.wt h4 c3).trans a3, (hs.wt h6 c4).trans a4⟩, hs.at h1 c1, h2, h3, ⟨fa, hs.at h4 c3, h5⟩, fw, hs.at h6 c4, fun j hj => ?_, fun j x hx => ?_⟩
  · obtain ⟨q', v0, v1, v2, v3, v4, v5, e1, e2, e3⟩ := h7 j hj
    have c5 : ¬ C (w q') := hc _ (by omega) (by omega)
    exact ⟨q', v0, v1, v2, v3, v4, v5, e1, (hs.wt e3 c5).trans e2, hs.at e3 c5⟩
  · obtain ⟨e0, q', e1, e2⟩ := h8 j x hx
    obtain ⟨q'', v0, v1, v2, v3, v4, v5, e3, e4, e5⟩ := h7 ((fi + j) % 8) (Nat.mod_lt _ (by decide))
    have e6 : q'' = q' := by
      rw [e1] at e3
      injection e3 with e3
      exact e3.symm
    subst e6
    exact ⟨e0, q'', e1, hs.at e2 (hc _ (by omega) (by omega))⟩
theorem LK.rcv {as : List Value} {a : AK} {po ac wa fi : Nat} {se : Int32} (h : LK σ w l q a po ac wa fi se) : ae_rcv σ (some 4) (.ref q :: as) = true := e_rcv h.2.1
/-- the link's own cell is set -/
theorem LK.put {a a' : AK} {po ac wa fi fi' : Nat} {se se' : Int32} (h : LK σ w l q a po ac wa fi se) (h2 : kso a' < 4 ∧ (64 ≤ kmo a' ∧ kmo a' ≤ 128) ∧ fi' < 8 ∧ (dfr a').length ≤ 8) (h3 : dsq a' = (if se' = -1 then 0 else fol se')) (hk : kac a' = kac a) (hm : kmo a' = kmo a) (hq : kqu a' = kqu a) (hf : ∀ j x, (dfr a')[j]? = some x → ∃ j', (fi' + j) % 8 = (fi + j') % 8 ∧ (dfr a)[j']? = some x) : LK (σ.1, σ.2.set q (LkC l a' po ac wa fi' se')) w l q a' po ac wa fi' se' ∧ Sa (fun c => c = lb l) σ w (σ.1, σ.2.set q (LkC l a' po ac wa fi' se')) w := by
  obtain ⟨⟨a1, a2, a3, a4⟩, h1, _, _, ⟨fa, h4, h5⟩, fw, h6, h7, h8⟩ := h
  have s := Sa.set (σ := σ) (w := w) (p := q) (y := LkC l a' po ac wa fi' se')
  rw [a1] at s
  refine ⟨⟨⟨a1, a2, a3, a4⟩, st_get h1, h2, h3, ⟨fa, s.at h4 (by omega), by rw [hk]; exact h5⟩, fw, s.at h6 (by omega), fun j hj => ?_, fun j x hx => ?_⟩, s⟩
  · obtain ⟨q', v0, v1, v2, v3, v4, v5, e1, e2, e3⟩ := h7 j hj
    exact ⟨q', v0, v1, v2, v3, v4, v5, e1, e2, s.at e3 (by omega)⟩
  · obtain ⟨j', ej, hx'⟩ := hf j x hx
    obtain ⟨e0, q', e1, e2⟩ := h8 j' x hx'
    obtain ⟨q'', v0, v1, v2, v3, v4, v5, e3, e4, e5⟩ := h7 ((fi + j') % 8) (Nat.mod_lt _ (by decide))
    have e6 : q'' = q' := by
      rw [e1] at e3
      injection e3 with e3
      exact e3.symm
    subst e6
    rw [ej, hm, hq]
    exact ⟨e0, q'', e1, s.at e2 (by omega)⟩
variable {a : AK} {po ac wa fi : Nat} {se : Int32}
def pop (a : AK) : AK := (a.1, ((dfr a).tail, a.2.1.2), a.2.2)
theorem c_13x {x : AG} {t : List AG} (h : LK σ w l q a po ac wa fi se) (hx : dfr a = x :: t) : hE ra (d + 1) 13 [.ref q] σ (pR (fun σ' r => ∃ r' fi', r = some r' ∧ σ'.2[r']? = some (FG (rmm (kmo a) (kqu a)) x) ∧ LK σ' w l q (pop a) po ac wa fi' se ∧ Sa (fun c => c = lb l) σ w σ' w ∧ (lb l + 8 ≤ w r' ∧ w r' < lb l + 16))) := by
  have hlen : (dfr a).length = t.length + 1 := by rw [hx]; rfl
  have ht : (dfr (pop a)).length = t.length := by show (dfr a).tail.length = _; rw [hx]; rfl
  have et : dfr (pop a) = t := by show (dfr a).tail = _; rw [hx]; rfl
  have h' := h
  obtain ⟨⟨a1, a2, a3, a4⟩, h1, h2, h3, ⟨fa, h4, h5⟩, fw, h6, h7, h8⟩ := h'
  obtain ⟨e0, r', e1, e2⟩ := h8 0 x (by rw [hx]; rfl)
  obtain ⟨q'', v0, v1, v2, v3, v4, v5, e3, e4, e5⟩ := h7 fi h2.2.2.1
  rw [Nat.add_zero, Nat.mod_eq_of_lt h2.2.2.1] at e1
  have e6 : q'' = r' := by
    rw [e1] at e3
    injection e3 with e3
    exact e3.symm
  subst e6
  have hfi := h2.2.2.1
  have hin : ¬ (nI fi < 0 ∨ 8 ≤ (nI fi).toNatClampNeg) := nI_in hfi (by decide)
  have er : fw (nI fi).toNatClampNeg = some q'' := by rw [nI_clamp (by omega)]; exact e1
  have em : (nI fi + 1) - (nI fi + 1) / 8 * 8 = nI ((fi + 1) % 8) := by rw [nI_1]; exact pk_rem (d := 8) (by omega) (by decide) (by decide)
  refine h_in rfl rfl (Nat.le_of_ble_eq_true rfl) ?_
  refine h_st rfl rfl ?_
  refine h_st rfl (e_get h1 rfl) ?_
  refine h_st rfl rfl ?_
  refine h_st rfl (e_get h1 rfl) ?_
  refine h_st rfl ((e_aa h6 (by decide) hin).trans (by rw [er])) ?_
  refine h_st rfl rfl ?_
  refine h_st rfl rfl ?_
  refine h_st rfl rfl ?_
  refine h_st rfl (e_get h1 rfl) ?_
  refine h_st rfl rfl ?_
  refine h_st rfl rfl ?_
  refine h_st rfl rfl ?_
  refine h_st rfl (e_dv (by decide)) ?_
  refine h_st rfl (e_put h1 rfl (Nat.le_of_ble_eq_true rfl)) ?_
  refine h_st rfl rfl ?_
  refine h_st rfl rfl ?_
  refine h_st rfl (e_get (st_get h1) rfl) ?_
  refine h_st rfl rfl ?_
  refine h_st rfl rfl ?_
  refine h_st rfl (e_put (st_get h1) rfl (Nat.le_of_ble_eq_true rfl)) ?_
  obtain ⟨g1, s1⟩ := h.put (a' := pop a) (fi' := (fi + 1) % 8) (se' := se) ⟨h2.1, h2.2.1, Nat.mod_lt _ (by decide), by omega⟩ h3 rfl rfl rfl (fun j y hy => ⟨j + 1, by omega, by rw [et] at hy; rw [hx]; exact hy⟩)
  refine hG_eq (σ1 := (σ.1, σ.2.set q (LkC l (pop a) po ac wa ((fi + 1) % 8) se))) ?_ ?_
  · refine Prod.ext rfl ?_
    show (σ.2.set q _).set q _ = _
    rw [List.set_set]
    unfold LkC
    rw [ht, ← em, show nI t.length = nI (dfr a).length - 1 by rw [hlen, nI_pred]]
    rfl
  refine h_st rfl rfl ?_
  exact h_rt rfl rfl (⟨_, some q'', rfl, q'', (fi + 1) % 8, rfl, s1.at e2 (by omega), g1, s1, by omega, by omega⟩)
theorem c_15x (x : Int32) : hE ra (d + 1) 15 [.int x] σ (pI (fun σ' y => σ' = σ ∧ y = fol x)) := by
  refine h_in rfl rfl (Nat.le_of_ble_eq_true rfl) ?_
  refine h_st rfl rfl ?_
  refine h_st rfl rfl ?_
  refine h_st rfl rfl ?_
  refine h_br (fun z => ?_) (fun z => ?_)
  · refine h_st rfl rfl ?_
    refine h_st rfl rfl ?_
    refine h_st rfl rfl ?_
    exact h_rt rfl rfl (⟨_, _, rfl, rfl, by unfold fol; rw [if_neg z]⟩)
  · refine h_st rfl rfl ?_
    refine h_st rfl rfl ?_
    exact h_rt rfl rfl (⟨_, _, rfl, rfl, by unfold fol; rw [if_pos (Decidable.of_not_not z)]⟩)
def nsq (a : AK) : AK := (a.1, (dfr a, dme a, fol (dsq a), dop a), a.2.2)
theorem c_14z (h : LK σ w l q a po ac wa fi se) (hs0 : ¬ dsq a = -1) : hE ra (d + 2) 14 [.ref q] σ (pI (fun σ' y => y = dsq a ∧ LK σ' w l q (nsq a) po ac wa fi (dsq a) ∧ Sa (fun c => c = lb l) σ w σ' w)) := by
  have h1 := h.2.1
  have h3 := h.2.2.2.1
  obtain ⟨g1, s1⟩ := h.put (a' := nsq a) (fi' := fi) (se' := dsq a) h.2.2.1 (by rw [if_neg hs0]; rfl) rfl rfl rfl (fun j y hy => ⟨j, rfl, hy⟩)
  refine h_in rfl rfl (Nat.le_of_ble_eq_true rfl) ?_
  refine h_st rfl rfl ?_
  refine h_st rfl rfl ?_
  refine h_st rfl (e_get h1 rfl) ?_
  refine h_st rfl rfl ?_
  refine h_st rfl rfl ?_
  refine h_br (fun z => ?_) (fun z => ?_)
  · refine h_st rfl rfl ?_
    refine h_st rfl (e_get h1 rfl) ?_
    refine h_ci1 rfl (Nat.le_of_ble_eq_true rfl) rfl rfl (c_15x _) (fun σ1 y hy => ?_)
    obtain ⟨rfl, rfl⟩ := hy
    rw [if_neg z] at h3
    refine h_st rfl ((e_put h1 rfl (Nat.le_of_ble_eq_true rfl)).trans (by rw [← h3])) ?_
    refine h_st rfl rfl ?_
    refine h_st rfl (e_get g1.2.1 rfl) ?_
    exact h_rt rfl rfl (⟨_, _, rfl, rfl, g1, s1⟩)
  · rw [if_pos (Decidable.of_not_not z)] at h3
    refine h_st rfl rfl ?_
    refine h_st rfl rfl ?_
    refine h_st rfl ((e_put h1 rfl (Nat.le_of_ble_eq_true rfl)).trans (by rw [← h3])) ?_
    refine h_st rfl rfl ?_
    refine h_st rfl (e_get g1.2.1 rfl) ?_
    exact h_rt rfl rfl (⟨_, _, rfl, rfl, g1, s1⟩)
end SX8
