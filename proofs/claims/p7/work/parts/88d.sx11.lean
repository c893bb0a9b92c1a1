section SX11
variable {ra : ae_R} {d : Nat} {σ σ0 σ1 σ2 : ae_S} {w w0 w1 w2 : Nat → Nat} {C C' : Nat → Prop} {c p : Nat} {P P' : AP} {la be ke fk n : Nat} {ib bn : Int32} {fs : Nat → Option Nat} {x y : AF} {tm : Int32}
/-- a message is kept -/
def kp (P : AP) (s : Nat) (tm : Int32) : AP := (P.1, P.2.1, P.2.2.1, P.2.2.2.1, (if pqu P = 0 then [s] else pks P ++ [s]), tm)
theorem kpx {k sp : Nat} {σ3 : ae_S} (h : PTx σ w c p P la be ke fk n ib bn fs x) (hsp : Dw σ w sp (c + 6 + 2 * k) y) (hk : k < n) (hk1 : (pqu P = 1 ∧ k = (fk + (pks P).length) % 4 ∧ (pks P).length < 4) ∨ (pqu P = 0 ∧ k = 0)) (s : Sa (fun z => z = c ∨ z = c + 2) σ w σ3 w) (hp : σ3.2[p]? = some (PtC (kp P x.1 tm) la sp ke fk ib bn)) (hke : σ3.2[ke]? = some (.inl (9, rfs n (va_up fs k (some be))))) : ∃ w', PTx σ3 w' c p (kp P x.1 tm) la sp ke fk n ib bn (va_up fs k (some be)) y ∧ Sa (PC c) σ w σ3 w' := by
  obtain ⟨⟨a1, a2, a3⟩, h1, ⟨hn, h2, h3⟩, ⟨fa, h4, h5⟩, h6, ⟨wb, bb, wbb, h7⟩, h8, h9⟩ := h
  obtain ⟨ws, sb, wsb, hS⟩ := hsp
  have hn4 : 1 ≤ n ∧ n ≤ 4 := by omega
  have dne : ∀ u v : Nat, w u ≠ w v → u ≠ v := fun u v h e => h (by rw [e])
  have s2 : Sa (fun z => z = c ∨ z = c + 2 ∨ z = c + 4 ∨ z = c + 5 ∨ z = c + 6 + 2 * k ∨ z = c + 7 + 2 * k) σ w σ3 (swp w be bb sp sb (c + 6 + 2 * k) (c + 4)) := ⟨s.1, fun q hq hn => ⟨(s.2 q hq (fun z => hn (by omega))).1, by
    unfold swp
    rw [if_neg (fun e => hn (by rw [e]; omega)), if_neg (fun e => hn (by rw [e]; omega)), if_neg (fun e => hn (by rw [e]; omega)), if_neg (fun e => hn (by rw [e]; omega))]⟩⟩
  have fr : Dw σ3 (swp w be bb sp sb (c + 6 + 2 * k) (c + 4)) be (c + 6 + 2 * k) x := ⟨if_pos rfl, bb, by unfold swp; rw [if_neg (dne _ _ (by omega)), if_pos rfl], h7.sa s (by omega) (by omega)⟩
  have fp : Dw σ3 (swp w be bb sp sb (c + 6 + 2 * k) (c + 4)) sp (c + 4) y := ⟨by unfold swp; rw [if_neg (dne _ _ (by omega)), if_neg (dne _ _ (by omega)), if_pos rfl], sb, by unfold swp; rw [if_neg (dne _ _ (by omega)), if_neg (dne _ _ (by omega)), if_neg (dne _ _ (by omega)), if_pos rfl], hS.sa s (by omega) (by omega)⟩
  have wc : ∀ q, w q = c ∨ w q = c + 1 ∨ w q = c + 2 → swp w be bb sp sb (c + 6 + 2 * k) (c + 4) q = w q := fun q hq => by
    unfold swp
    rw [if_neg (dne _ _ (by omega)), if_neg (dne _ _ (by omega)), if_neg (dne _ _ (by omega)), if_neg (dne _ _ (by omega))]
  refine ⟨swp w be bb sp sb (c + 6 + 2 * k) (c + 4), ⟨⟨(wc p (by omega)).trans a1, (wc la (by omega)).trans a2, (wc ke (by omega)).trans a3⟩, hp, ⟨hn, h2, ?_⟩, ⟨fa, s.at h4 (by omega), h5⟩, hke, fp, fun j q hj hq => ?_, fun j z hz => ?_⟩, s2.mono (fun z hz => by unfold PC; omega)⟩
  · show (if pqu P = 0 then [x.1] else pks P ++ [x.1]).length ≤ n
    rcases hk1 with z | z
    · rw [if_neg (by rw [z.1]; decide), List.length_append]
      show (pks P).length + 1 ≤ n
      rcases hn with q | q
      · omega
      · exact absurd (z.1.symm.trans q.1) (by decide)
    · rw [if_pos z.1]
      exact hn4.1
  · by_cases e : j = k
    · rw [show va_up fs k (some be) j = some be by simp [va_up, e]] at hq
      cases hq
      rw [e]
      exact ⟨x, fr⟩
    · rw [show va_up fs k (some be) j = fs j by simp [va_up, e]] at hq
      obtain ⟨u, hu⟩ := h8 j q hj hq
      exact ⟨u, hu.sa s2 (by omega) (by omega)⟩
  · rcases hk1 with u | u
    · have hn4' : n = 4 := by
        rcases hn with q | q
        · exact q.2
        · exact absurd (u.1.symm.trans q.1) (by decide)
      subst hn4'
      have hz' : (pks P ++ [x.1])[j]? = some z := by
        have : (if pqu P = 0 then [x.1] else pks P ++ [x.1])[j]? = some z := hz
        rw [if_neg (by rw [u.1]; decide)] at this
        exact this
      by_cases e : j < (pks P).length
      · rw [List.getElem?_append_left e] at hz'
        obtain ⟨q, v, z1, z2, z3⟩ := h9 j z hz'
        have hne : (fk + j) % 4 ≠ k := by omega
        exact ⟨q, v, by rw [show va_up fs k (some be) ((fk + j) % 4) = fs ((fk + j) % 4) by simp [va_up, hne]]; exact z1, z2.sa s2 (by omega) (by omega), z3⟩
      · rw [List.getElem?_append_right (by omega)] at hz'
        have hj0 : j - (pks P).length = 0 := by
          have := (List.getElem?_eq_some_iff.mp hz').1
          simp at this
          omega
        rw [hj0] at hz'
        injection hz' with hz'
        have ej : (fk + j) % 4 = k := by
          rw [u.2.1, show j = (pks P).length by omega]
        rw [ej]
        exact ⟨be, x, by simp [va_up], fr, hz'⟩
    · have hn1 : n = 1 := by
        rcases hn with q | q
        · exact absurd (u.1.symm.trans q.1) (by decide)
        · exact q.2
      subst hn1
      have hz' : [x.1][j]? = some z := by
        have : (if pqu P = 0 then [x.1] else pks P ++ [x.1])[j]? = some z := hz
        rw [if_pos u.1] at this
        exact this
      have hj0 : j = 0 := by
        have := (List.getElem?_eq_some_iff.mp hz').1
        simp at this
        omega
      rw [hj0] at hz' ⊢
      injection hz' with hz'
      have ej : (fk + 0) % 1 = k := by omega
      rw [ej]
      exact ⟨be, x, by simp [va_up], fr, hz'⟩
theorem c_54tz {k sp : Nat} {x3 : Option Value} (h : PTx σ w c p P la be ke fk n ib bn fs x) (hsp : Dw σ w sp (c + 6 + 2 * k) y) (hk : k < n) (hk1 : (pqu P = 1 ∧ k = (fk + (pks P).length) % 4 ∧ (pks P).length < 4) ∨ (pqu P = 0 ∧ k = 0)) : hG ra d 54 σ [some (.ref p), some (.int tm), some (.int (nI k)), x3] [.ref sp] 70 (pI (fun σ' v => v = -1 ∧ ∃ w' be' fs' y', PTx σ' w' c p (kp P x.1 tm) la be' ke fk n ib bn fs' y' ∧ Sa (PC c) σ w σ' w')) := by
  have h' := h
  obtain ⟨⟨a1, a2, a3⟩, h1, ⟨hn, h2, h3⟩, -, h6, ⟨wb, bb, wbb, h7⟩, -⟩ := h'
  have hn4 : 1 ≤ n ∧ n ≤ 4 := by omega
  have hin : ¬ (nI k < 0 ∨ n ≤ (nI k).toNatClampNeg) := nI_in hk (by omega)
  have ek : (nI k).toNatClampNeg = k := nI_clamp (by omega)
  have epk : p ≠ ke := fun e => by rw [e] at a1; omega
  have g1 : ((σ.1, σ.2.set ke (.inl (9, rfs n (va_up fs k (some be))))) : ae_S).2[p]? = some (PtC P la be ke fk ib bn) := (st_ne (Ne.symm epk)).trans h1
  have s1 := Sa.set (σ := σ) (w := w) (p := ke) (y := .inl (9, rfs n (va_up fs k (some be))))
  rw [a3] at s1
  have g2 : ((σ.1, σ.2.set ke (.inl (9, rfs n (va_up fs k (some be))))) : ae_S).2[ke]? = some (.inl (9, rfs n (va_up fs k (some be)))) := st_get h6
  refine h_st rfl rfl ?_
  refine h_st rfl rfl ?_
  refine h_st rfl (e_get h1 rfl) ?_
  refine h_st rfl rfl ?_
  refine h_st rfl rfl ?_
  refine h_st rfl (e_get h1 rfl) ?_
  refine h_st rfl ((e_aas h6 h7.1 (by decide) hin).trans (by rw [ek])) ?_
  refine hG_eq (σ1 := (σ.1, σ.2.set ke (.inl (9, rfs n (va_up fs k (some be)))))) rfl ?_
  generalize ((σ.1, σ.2.set ke (.inl (9, rfs n (va_up fs k (some be))))) : ae_S) = σ1 at g1 g2 s1
  have fin : ∃ w' be' fs' y', PTx (σ1.1, σ1.2.set p (PtC (kp P x.1 tm) la sp ke fk ib bn)) w' c p (kp P x.1 tm) la be' ke fk n ib bn fs' y' ∧ Sa (PC c) σ w (σ1.1, σ1.2.set p (PtC (kp P x.1 tm) la sp ke fk ib bn)) w' := by
    have s3 := Sa.set (σ := σ1) (w := w) (p := p) (y := PtC (kp P x.1 tm) la sp ke fk ib bn)
    rw [a1] at s3
    obtain ⟨w', f1, f2⟩ := kpx (tm := tm) h hsp hk hk1 ((s1.mono (fun z hz => Or.inr hz)).trans (s3.mono (fun z hz => Or.inl hz))) (st_get g1) ((st_ne epk).trans g2)
    exact ⟨w', sp, _, y, f1, f2⟩
  refine h_st rfl rfl ?_
  refine h_st rfl rfl ?_
  refine h_st rfl (e_put g1 rfl (Nat.le_of_ble_eq_true rfl)) ?_
  refine h_st rfl rfl ?_
  refine h_st rfl rfl ?_
  refine h_st rfl (e_get (st_get g1) rfl) ?_
  refine h_st rfl rfl ?_
  refine h_br (fun q => ?_) (fun q => ?_)
  · refine h_st rfl rfl ?_
    refine h_st rfl (e_put (st_get g1) rfl (Nat.le_of_ble_eq_true rfl)) ?_
    refine h_st rfl rfl ?_
    refine h_st rfl rfl ?_
    refine h_st rfl (e_put (st_get (st_get g1)) rfl (Nat.le_of_ble_eq_true rfl)) ?_
    refine hG_eq (σ1 := (σ1.1, σ1.2.set p (PtC (kp P x.1 tm) la sp ke fk ib bn))) (Prod.ext rfl (by show ((σ1.2.set p _).set p _).set p _ = _; rw [List.set_set, List.set_set]; unfold PtC; rw [show pks (kp P x.1 tm) = [x.1] from if_pos q]; rfl)) ?_
    refine h_st rfl rfl ?_
    exact h_rt rfl rfl (⟨_, _, rfl, rfl, fin⟩)
  · refine h_st rfl rfl ?_
    refine h_st rfl (e_get (st_get g1) rfl) ?_
    refine h_st rfl rfl ?_
    refine h_st rfl rfl ?_
    refine h_st rfl rfl ?_
    refine h_st rfl (e_put (st_get g1) rfl (Nat.le_of_ble_eq_true rfl)) ?_
    refine h_st rfl rfl ?_
    refine h_st rfl rfl ?_
    refine h_st rfl (e_put (st_get (st_get g1)) rfl (Nat.le_of_ble_eq_true rfl)) ?_
    refine hG_eq (σ1 := (σ1.1, σ1.2.set p (PtC (kp P x.1 tm) la sp ke fk ib bn))) (Prod.ext rfl (by show ((σ1.2.set p _).set p _).set p _ = _; rw [List.set_set, List.set_set]; unfold PtC; rw [show pks (kp P x.1 tm) = pks P ++ [x.1] from if_neg q, List.length_append, show (pks P).length + [x.1].length = (pks P).length + 1 from rfl, ← nI_1]; rfl)) ?_
    refine h_st rfl rfl ?_
    exact h_rt rfl rfl (⟨_, _, rfl, rfl, fin⟩)
theorem c_54bz {k : Nat} {X : Int32} {x3 : Option Value} (eX : X = nI k) (h : PTx σ w c p P la be ke fk n ib bn fs x) (hk : k < n) (hk1 : (pqu P = 1 ∧ k = (fk + (pks P).length) % 4 ∧ (pks P).length < 4) ∨ (pqu P = 0 ∧ k = 0)) : hG ra (d + 1) 54 σ [some (.ref p), some (.int tm), some (.int X), x3] [] 45 (pI (fun σ' v => v = -1 ∧ ∃ w' be' fs' y', PTx σ' w' c p (kp P x.1 tm) la be' ke fk n ib bn fs' y' ∧ Sa (PC c) σ w σ' w')) := by
  subst eX
  have h' := h
  obtain ⟨⟨a1, a2, a3⟩, h1, ⟨hn, h2, h3⟩, -, h6, -, h8, -⟩ := h'
  have hn4 : 1 ≤ n ∧ n ≤ 4 := by omega
  have hin : ¬ (nI k < 0 ∨ n ≤ (nI k).toNatClampNeg) := nI_in hk (by omega)
  have ek : (nI k).toNatClampNeg = k := nI_clamp (by omega)
  refine h_st rfl rfl ?_
  refine h_st rfl (e_get h1 rfl) ?_
  refine h_st rfl rfl ?_
  refine h_st rfl (e_aa h6 (by decide) hin) ?_
  refine h_nul rfl (fun hn1 => ?_) (fun sp hr => ?_)
  · refine h_st rfl rfl ?_
    refine h_st rfl rfl ?_
    have hp0 : (((σ.1.1 + 1, σ.1.2 + 2), σ.2 ++ [.inr (0, cd_Datagram)]) : ae_S).2[σ.2.length]? = some (.inr (0, cd_Datagram)) := by simp
    refine h_cv1 rfl (Nat.le_of_ble_eq_true rfl) (e_rcv hp0) rfl (k_3s hp0) (fun σ2 hk3 => ?_)
    have hl1 : (((σ.1.1 + 1, σ.1.2 + 2), σ.2 ++ [.inr (0, cd_Datagram)]) : ae_S).2.length = σ.2.length + 1 := by simp
    rw [hl1] at hk3
    have hold : ∀ q, q < σ.2.length → σ2.2[q]? = σ.2[q]? := fun q hq => (hk3.2.2.2.2 q (by rw [hl1]; omega) (by omega)).trans (List.getElem?_append_left hq)
    have hlen : σ.2.length ≤ σ2.2.length := by rw [hk3.2.1]; omega
    have k1 := hk3.at 0 rfl
    have k2 := hk3.at 1 rfl
    let w2 : Nat → Nat := fun q => if q = σ.2.length then c + 6 + 2 * k else if q = σ.2.length + 1 then c + 6 + 2 * k + 1 else w q
    have s1 : Sa (fun _ => False) σ w σ2 w2 := ⟨hlen, fun q hq _ => ⟨hold q hq, by show (if q = _ then _ else if q = _ then _ else w q) = w q; rw [if_neg (by omega), if_neg (by omega)]⟩⟩
    have hx : Dw σ2 w2 σ.2.length (c + 6 + 2 * k) (0, fun _ => 0) := ⟨if_pos rfl, σ.2.length + 1, by show (if _ then _ else if _ then _ else _) = _; rw [if_neg (by omega), if_pos rfl], k1, ⟨by omega, by omega⟩, _, k2, fun _ _ => by decide, fun _ z => absurd z (Nat.not_lt_zero _)⟩
    refine h_st rfl rfl ?_
    refine hG_mono (c_54tz (tm := tm) (h.sa s1 (fun _ _ => id)) hx hk hk1) (fun r z => ?_)
    obtain ⟨σ', v, er, ev, w', be', fs', y', q1, q2⟩ := z
    exact ⟨σ', v, er, ev, w', be', fs', y', q1, (s1.mono (fun _ z => z.elim)).trans q2⟩
  · obtain ⟨y, hy⟩ := h8 k sp hk (by rw [← ek]; exact hr)
    refine h_st rfl rfl ?_
    refine h_st rfl (e_get h1 rfl) ?_
    refine h_st rfl rfl ?_
    refine h_st rfl ((e_aa h6 (by decide) hin).trans (by rw [hr])) ?_
    exact c_54tz (tm := tm) h hy hk hk1
theorem c_54z (h : PTx σ w c p P la be ke fk n ib bn fs x) : hE ra (d + 2) 54 [.ref p, .int tm] σ (pI (fun σ' v => (v = 11 ∧ σ' = σ ∧ ¬ (pqu P = 0 ∨ (pks P).length < 4)) ∨ (v = -1 ∧ (pqu P = 0 ∨ (pks P).length < 4) ∧ ∃ w' be' fs' y', PTx σ' w' c p (kp P x.1 tm) la be' ke fk n ib bn fs' y' ∧ Sa (PC c) σ w σ' w'))) := by
  have h' := h
  obtain ⟨⟨a1, a2, a3⟩, h1, ⟨hn, h2, h3⟩, -, h6, -⟩ := h'
  rcases hn with ⟨eq, en⟩ | ⟨eq, en⟩
  · have q0 : ¬ pqu P = 0 := by rw [eq]; decide
    subst en
    have eab : nI fk + nI (pks P).length = nI (fk + (pks P).length) := nI_add _ _
    have em : (nI fk + nI (pks P).length) - (nI fk + nI (pks P).length) / 4 * 4 = nI ((fk + (pks P).length) % 4) := by rw [eab]; exact pk_rem (d := 4) (by omega) (by decide) (by decide)
    refine h_in rfl rfl (Nat.le_of_ble_eq_true rfl) ?_
    refine h_st rfl rfl ?_
    refine h_st rfl (e_get h1 rfl) ?_
    refine h_st rfl rfl ?_
    refine h_pc (if_neg (fun z9 => (q0) (of_decide_eq_true z9))) ?_
    refine h_st rfl rfl ?_
    refine h_st rfl (e_get h1 rfl) ?_
    refine h_st rfl rfl ?_
    refine h_st rfl (e_get h1 rfl) ?_
    refine h_st rfl (e_len h6 (by decide)) ?_
    refine h_st rfl rfl ?_
    refine h_br (fun q1 => ?_) (fun q1 => ?_)
    · have hlt : (pks P).length < 4 := (nI_ltI (by omega) (by decide)).mp q1
      refine h_st rfl rfl ?_
      refine h_st rfl (e_get h1 rfl) ?_
      refine h_st rfl rfl ?_
      refine h_pc (if_neg (fun z9 => (q0) (of_decide_eq_true z9))) ?_
      refine h_st rfl rfl ?_
      refine h_st rfl (e_get h1 rfl) ?_
      refine h_st rfl rfl ?_
      refine h_st rfl (e_get h1 rfl) ?_
      refine h_st rfl rfl ?_
      refine h_st rfl rfl ?_
      refine h_st rfl (e_dv (by decide)) ?_
      refine h_st rfl rfl ?_
      refine h_st rfl rfl ?_
      refine hG_mono (c_54bz (tm := tm) em h (Nat.mod_lt _ (by decide)) (Or.inl ⟨eq, rfl, hlt⟩)) (fun r z => ?_)
      obtain ⟨σ', v, er, ev, hh⟩ := z
      exact ⟨σ', v, er, Or.inr ⟨ev, Or.inr hlt, hh⟩⟩
    · refine h_st rfl rfl ?_
      exact h_rt rfl rfl (⟨_, _, rfl, Or.inl ⟨rfl, rfl, fun z => z.elim q0 (fun z => q1 (nI_lt (b := 4) z (by decide)))⟩⟩)
  · subst en
    refine h_in rfl rfl (Nat.le_of_ble_eq_true rfl) ?_
    refine h_st rfl rfl ?_
    refine h_st rfl (e_get h1 rfl) ?_
    refine h_st rfl rfl ?_
    refine h_pc (if_pos (decide_eq_true (eq))) ?_
    refine h_st rfl rfl ?_
    refine h_st rfl (e_get h1 rfl) ?_
    refine h_st rfl rfl ?_
    refine h_pc (if_pos (decide_eq_true (eq))) ?_
    refine h_st rfl rfl ?_
    refine h_st rfl rfl ?_
    refine hG_mono (c_54bz (k := 0) (tm := tm) rfl h (by decide) (Or.inr ⟨eq, rfl⟩)) (fun r z => ?_)
    obtain ⟨σ', v, er, ev, hh⟩ := z
    exact ⟨σ', v, er, Or.inr ⟨ev, Or.inl eq, hh⟩⟩
end SX11
