section TYC
variable {ra : ae_R} {d : Nat} {σ σ0 σ' : ae_S} {p : Nat} {K K0 : Nat → Nat} {b : Bool} {s t : Nat}
def rmm (mo : Nat) (qu : Int32) : Nat := if qu = 0 then mo - 39 else (mo - 39) / 8 * 8
def ned (mo : Nat) (qu x : Int32) : Nat := if x < 1 ∨ 400 < x then 0 else if (8 + x.toNatClampNeg + rmm mo qu - 1) / rmm mo qu ≤ (if qu = 0 then 1 else 8) then (8 + x.toNatClampNeg + rmm mo qu - 1) / rmm mo qu else 0
theorem ned_le {mo : Nat} {qu x : Int32} : ned mo qu x ≤ 8 := by
  unfold ned
  split
  · omega
  · split <;> split <;> omega
theorem rmm_bd {mo : Nat} {qu : Int32} (h : 64 ≤ mo ∧ mo ≤ 128) : 24 ≤ rmm mo qu ∧ rmm mo qu ≤ 89 := by
  unfold rmm
  split <;> omega
/-- what is told of a link's cell -/
def Lk (σ : ae_S) (q : Nat) (nu ga hi qu pa op : Int32) (so mo po ac wa co : Nat) : Prop := (so < 4 ∧ (64 ≤ mo ∧ mo ≤ 128) ∧ co ≤ 8) ∧ ∃ fi me se, fi < 8 ∧ σ.2[q]? = some (.inr (4, [.int nu, .int (nI so), .int ga, .int (nI mo), .int hi, .int qu, .int pa, .ref po, .ref ac, .ref wa, .int (nI fi), .int (nI co), .int me, .int se, .int op]))
theorem Lk.same {q : Nat} {nu ga hi qu pa op : Int32} {so mo po ac wa co : Nat} (h : Lk σ q nu ga hi qu pa op so mo po ac wa co) (e : σ'.2[q]? = σ.2[q]?) : Lk σ' q nu ga hi qu pa op so mo po ac wa co := by
  obtain ⟨h1, fi, me, se, h2, h3⟩ := h
  exact ⟨h1, fi, me, se, h2, e.trans h3⟩
theorem Lk.kd {q : Nat} {nu ga hi qu pa op : Int32} {so mo po ac wa co : Nat} (h : Lk σ q nu ga hi qu pa op so mo po ac wa co) (hT : Ty σ K) (hq : K q = 18) : K po = 19 ∧ K ac = 20 ∧ K wa = 21 := by
  obtain ⟨h1, fi, me, se, h2, h3⟩ := h
  obtain ⟨nu', so', ga', mo', hi', qu', pa', po', ac', wa', fi', co', me', se', op', hk, hb, h19, h20, h21⟩ := hT.k18 hq
  rw [h3] at hk
  simp only [Option.some.injEq, Sum.inr.injEq, Prod.mk.injEq, List.cons.injEq, Value.ref.injEq, true_and] at hk
  obtain ⟨_, _, _, _, _, _, _, e1, e2, e3, _⟩ := hk
  exact ⟨e1 ▸ h19, e2 ▸ h20, e3 ▸ h21⟩
theorem c_89x {nu ga hi qu pa me se op : Int32} {so mo po ac wa fi co : Nat} (hk : σ.2[p]? = some (.inr (4, [.int nu, .int (nI so), .int ga, .int (nI mo), .int hi, .int qu, .int pa, .ref po, .ref ac, .ref wa, .int (nI fi), .int (nI co), .int me, .int se, .int op]))) (hmo : 64 ≤ mo ∧ mo ≤ 128) : hE ra (d + 1) 89 [.ref p] σ (pI (fun σ' x => σ' = σ ∧ x = nI (rmm mo qu))) := by
  have e1 : nI mo - 39 = nI (mo - 39) := pk_sub (a := mo) (b := 39) (by omega)
  have e2 : (nI mo - 39) / 8 * 8 = nI ((mo - 39) / 8 * 8) := by rw [e1, show (8 : Int32) = nI 8 from rfl, pk_div (by omega) (by decide) (by decide), pk_mul]
  unfold rmm
  refine h_in rfl rfl (Nat.le_of_ble_eq_true rfl) ?_
  refine h_st rfl rfl ?_
  refine h_st rfl (e_get hk rfl) ?_
  refine h_st rfl rfl ?_
  refine h_st rfl rfl ?_
  refine h_st rfl rfl ?_
  refine h_st rfl rfl ?_
  refine h_st rfl (e_get hk rfl) ?_
  refine h_st rfl rfl ?_
  refine h_br (fun q => ?_) (fun q => ?_)
  · refine h_st rfl rfl ?_
    exact h_rt rfl rfl (⟨_, _, rfl, rfl, by rw [if_pos q]; exact e1⟩)
  · refine h_st rfl rfl ?_
    refine h_st rfl rfl ?_
    refine h_st rfl (e_dv (by decide)) ?_
    refine h_st rfl rfl ?_
    refine h_st rfl rfl ?_
    refine h_st rfl rfl ?_
    exact h_rt rfl rfl (⟨_, _, rfl, rfl, by rw [if_neg q]; exact e2⟩)
theorem c_88x {nu ga hi qu pa me se op : Int32} {so mo po ac wa fi co : Nat} (hk : σ.2[p]? = some (.inr (4, [.int nu, .int (nI so), .int ga, .int (nI mo), .int hi, .int qu, .int pa, .ref po, .ref ac, .ref wa, .int (nI fi), .int (nI co), .int me, .int se, .int op]))) (hmo : 64 ≤ mo ∧ mo ≤ 128) (x : Int32) : hE ra (d + 2) 88 [.ref p, .int x] σ (pI (fun σ' y => σ' = σ ∧ y = nI (ned mo qu x))) := by
  have hr := rmm_bd (qu := qu) hmo
  refine h_in rfl rfl (Nat.le_of_ble_eq_true rfl) ?_
  refine h_st rfl rfl ?_
  refine h_ci1 rfl (Nat.le_of_ble_eq_true rfl) (e_rcv hk) rfl (c_89x hk hmo) (fun σ' y hy => ?_)
  obtain ⟨hss, rfl⟩ := hy
  replace hss := hss.symm
  subst hss
  refine h_st rfl rfl ?_
  refine h_st rfl rfl ?_
  refine h_st rfl rfl ?_
  refine h_st rfl rfl ?_
  refine h_br (fun q1 => ?_) (fun q1 => ?_)
  · refine h_st rfl rfl ?_
    exact h_rt rfl rfl (⟨_, _, rfl, rfl, by unfold ned; rw [if_pos (Or.inl q1)]; rfl⟩)
  · refine h_st rfl rfl ?_
    refine h_st rfl rfl ?_
    refine h_st rfl rfl ?_
    refine h_br (fun q2 => ?_) (fun q2 => ?_)
    · refine h_st rfl rfl ?_
      exact h_rt rfl rfl (⟨_, _, rfl, rfl, by unfold ned; rw [if_pos (Or.inr q2)]; rfl⟩)
    · refine h_st rfl rfl ?_
      refine h_st rfl rfl ?_
      refine h_st rfl rfl ?_
      refine h_pc (if_pos (decide_eq_true (nI_le (a := 1) (by omega) (by omega)))) ?_
      obtain ⟨z, hz, rfl⟩ := nI_of2 (x := x) (M := 400) (n := 400) (by decide) (fun v => q1 (Int32.lt_trans v (by decide))) (Int32.not_lt.mp q2)
      have hno : ¬ (nI z < 1 ∨ 400 < nI z) := fun v => v.elim q1 q2
      have ez : (nI z).toNatClampNeg = z := nI_clamp (by omega)
      have e1 : (8 : Int32) + nI z + nI (rmm mo qu) - 1 = nI (8 + z + rmm mo qu - 1) := by rw [show (8 : Int32) = nI 8 from rfl, nI_add, nI_add, show (1 : Int32) = nI 1 from rfl, pk_sub (by omega)]
      have e2 : ((8 : Int32) + nI z + nI (rmm mo qu) - 1) / nI (rmm mo qu) = nI ((8 + z + rmm mo qu - 1) / rmm mo qu) := by rw [e1]; exact pk_div (by omega) (by omega) (by omega)
      have e3 : (8 + z + rmm mo qu - 1) / rmm mo qu < 2 ^ 31 := Nat.lt_of_le_of_lt (Nat.div_le_self _ _) (by omega)
      refine h_st rfl rfl ?_
      refine h_st rfl rfl ?_
      refine h_st rfl rfl ?_
      refine h_st rfl rfl ?_
      refine h_st rfl rfl ?_
      refine h_st rfl rfl ?_
      refine h_st rfl rfl ?_
      refine h_st rfl rfl ?_
      refine h_st rfl (e_dv (nI_ne0 (by omega) (by omega))) ?_
      refine h_st rfl rfl ?_
      refine h_st rfl rfl ?_
      refine h_st rfl rfl ?_
      refine h_st rfl (e_get hk rfl) ?_
      refine h_st rfl rfl ?_
      refine h_br (fun q3 => ?_) (fun q3 => ?_)
      · refine h_st rfl rfl ?_
        refine h_st rfl rfl ?_
        refine h_br (fun q4 => ?_) (fun q4 => ?_)
        · refine h_st rfl rfl ?_
          exact h_rt rfl rfl (⟨_, _, rfl, rfl, by unfold ned; rw [if_neg hno, ez, if_pos q3, if_neg (fun v => absurd q4 (Int32.not_lt.mpr (show ((8 : Int32) + nI z + nI (rmm mo qu) - 1) / nI (rmm mo qu) ≤ nI 1 from by rw [e2]; exact nI_le v (by decide))))]; rfl⟩)
        · refine h_st rfl rfl ?_
          refine h_st rfl rfl ?_
          exact h_rt rfl rfl (⟨_, _, rfl, rfl, by unfold ned; rw [if_neg hno, ez, if_pos q3, if_pos ((nI_leI e3 (by decide)).mp (show nI ((8 + z + rmm mo qu - 1) / rmm mo qu) ≤ nI 1 from e2 ▸ Int32.not_lt.mp q4))]; exact e2⟩)
      · refine h_st rfl rfl ?_
        refine h_st rfl rfl ?_
        refine h_st rfl rfl ?_
        refine h_br (fun q4 => ?_) (fun q4 => ?_)
        · refine h_st rfl rfl ?_
          exact h_rt rfl rfl (⟨_, _, rfl, rfl, by unfold ned; rw [if_neg hno, ez, if_neg q3, if_neg (fun v => absurd q4 (Int32.not_lt.mpr (show ((8 : Int32) + nI z + nI (rmm mo qu) - 1) / nI (rmm mo qu) ≤ nI 8 from by rw [e2]; exact nI_le v (by decide))))]; rfl⟩)
        · refine h_st rfl rfl ?_
          refine h_st rfl rfl ?_
          exact h_rt rfl rfl (⟨_, _, rfl, rfl, by unfold ned; rw [if_neg hno, ez, if_neg q3, if_pos ((nI_leI e3 (by decide)).mp (show nI ((8 + z + rmm mo qu - 1) / rmm mo qu) ≤ nI 8 from e2 ▸ Int32.not_lt.mp q4))]; exact e2⟩)
theorem c_90lx {sz sd nu ga hi qu pa me se op : Int32} {m rm so mo po ac wa fi co : Nat} (hm : co + m ≤ 8) (h00 : K 0 = 1) (hp : K p = 18) {P : ae_S × ae_O → Prop} (hx9 : ∀ σ x6, Ex false 0 0 K σ0 K σ → (∀ q, K q = 18 ∨ q = 0 → q ≠ p → σ.2[q]? = σ0.2[q]?) → σ.2[p]? = some (.inr (4, [.int nu, .int (nI so), .int ga, .int (nI mo), .int hi, .int qu, .int pa, .ref po, .ref ac, .ref wa, .int (nI fi), .int (nI (co + m)), .int me, .int se, .int op])) → hG ra (d + 2) 90 σ [some (.ref p), some (.int sz), some (.int sd), some (.int (nI m)), some (.int (nI rm)), some (.int (nI m)), x6] [] 134 P) : ∀ (c j : Nat) (σ : ae_S) (x6 : Option Value), j + c = m → Ex false 0 0 K σ0 K σ → (∀ q, K q = 18 ∨ q = 0 → q ≠ p → σ.2[q]? = σ0.2[q]?) → σ.2[p]? = some (.inr (4, [.int nu, .int (nI so), .int ga, .int (nI mo), .int hi, .int qu, .int pa, .ref po, .ref ac, .ref wa, .int (nI fi), .int (nI (co + j)), .int me, .int se, .int op])) → hG ra (d + 2) 90 σ [some (.ref p), some (.int sz), some (.int sd), some (.int (nI m)), some (.int (nI rm)), some (.int (nI j)), x6] [] 15 P := by
  intro c
  induction c with
  | zero =>
    intro j σ x6 hj hx hfr hk
    have hj : j = m := by omega
    subst hj
    refine h_st rfl rfl ?_
    refine h_st rfl rfl ?_
    refine h_st rfl rfl ?_
    refine h_pc (if_pos (decide_eq_true (nI_le (Nat.le_refl _) (by omega)))) ?_
    exact hx9 _ _ hx hfr hk
  | succ c ih =>
    intro j σ x6 hj hx hfr hk
    have ih1 := fun σ x6 h1 h2 h3 => ih (j + 1) σ x6 (by omega) h1 h2 h3
    simp only [← nI_1] at ih1
    obtain ⟨nu', so', ga', mo', hi', qu', pa', po', ac', wa', fi', co', me', se', op', hk', hb', h19', h20', h21'⟩ := hx.ty.k18 hp
    rw [hk] at hk'
    simp only [Option.some.injEq, Sum.inr.injEq, Prod.mk.injEq, List.cons.injEq, Value.ref.injEq, Value.int.injEq, true_and, and_true] at hk'
    obtain ⟨v0, v1, v2, v3, v4, v5, v6, v7, v8, v9, v10, v11, v12, v13, v14⟩ := hk'
    subst v7 v8 v9
    obtain ⟨fw, hw, hwf⟩ := hx.ty.k21 h21'
    refine h_st rfl rfl ?_
    refine h_st rfl rfl ?_
    refine h_st rfl rfl ?_
    refine h_pc (if_neg (fun z9 => (nI_ge (show j < m by omega) (by omega)) (of_decide_eq_true z9))) ?_
    refine h_st rfl rfl ?_
    refine h_st rfl (e_get hk rfl) ?_
    refine h_st rfl rfl ?_
    refine h_st rfl rfl ?_
    refine h_pc (if_neg (fun z9 => (nI_ge (show co + j < 8 by omega) (by decide)) (of_decide_eq_true z9))) ?_
    have er : nI fi + nI (co + j) - (nI fi + nI (co + j)) / 8 * 8 = nI ((fi' + (co + j)) % 8) := by rw [v10, nI_add]; exact pk_rem (a := fi' + (co + j)) (d := 8) (by omega) (by decide) (by decide)
    have hlt : (fi' + (co + j)) % 8 < 8 := Nat.mod_lt _ (by decide)
    have hin : ¬ (nI fi + nI (co + j) - (nI fi + nI (co + j)) / 8 * 8 < 0 ∨ 8 ≤ (nI fi + nI (co + j) - (nI fi + nI (co + j)) / 8 * 8).toNatClampNeg) := by rw [er]; exact nI_in hlt (by decide)
    obtain ⟨q, hq, hKq⟩ := hwf _ hlt
    have hv : fw (nI fi + nI (co + j) - (nI fi + nI (co + j)) / 8 * 8).toNatClampNeg = some q := by rw [er, nI_clamp (by omega)]; exact hq
    obtain ⟨a1, a2, a3, a4, a5, a6, hc⟩ := hx.ty.k22 hKq
    have hne : p ≠ q := kne hp hKq (by decide)
    have hfq : ∀ r, K r = 18 ∨ r = 0 → r ≠ q := fun r hr e => by
      rcases hr with hr | hr
      · rw [e, hKq] at hr
        cases hr
      · rw [← e, hr, h00] at hKq
        cases hKq
    refine h_st rfl rfl ?_
    refine h_st rfl (e_get hk rfl) ?_
    refine h_st rfl rfl ?_
    refine h_st rfl (e_get hk rfl) ?_
    refine h_st rfl rfl ?_
    refine h_st rfl (e_get hk rfl) ?_
    refine h_st rfl rfl ?_
    refine h_st rfl rfl ?_
    refine h_st rfl (e_dv (by decide)) ?_
    refine h_st rfl ((e_aa hw (by decide) hin).trans (by rw [hv])) ?_
    refine h_st rfl rfl ?_
    refine h_st rfl rfl ?_
    refine h_st rfl rfl ?_
    refine h_st rfl (e_get hk rfl) ?_
    refine y_put rfl hx hc hKq (by omega) (ncs (by omega)) (rfl) (Nat.le_of_ble_eq_true rfl) (ok_22 ⟨_, _, _, _, _, _, rfl⟩) (fun σ2 hx2 g2 ho => ?_)
    replace hk := (ho p hne).trans hk
    replace hfr := fun r hr hrp => (ho r (hfq r hr)).trans (hfr r hr hrp)
    replace hc := g2
    clear g2 ho
    replace hx := hx2
    clear hx2
    refine h_st rfl rfl ?_
    refine h_st rfl rfl ?_
    refine y_put rfl hx hc hKq (by omega) (ncs (by omega)) (rfl) (Nat.le_of_ble_eq_true rfl) (ok_22 ⟨_, _, _, _, _, _, rfl⟩) (fun σ2 hx2 g2 ho => ?_)
    replace hk := (ho p hne).trans hk
    replace hfr := fun r hr hrp => (ho r (hfq r hr)).trans (hfr r hr hrp)
    replace hc := g2
    clear g2 ho
    replace hx := hx2
    clear hx2
    refine h_st rfl rfl ?_
    refine h_st rfl rfl ?_
    refine y_put rfl hx hc hKq (by omega) (ncs (by omega)) (rfl) (Nat.le_of_ble_eq_true rfl) (ok_22 ⟨_, _, _, _, _, _, rfl⟩) (fun σ2 hx2 g2 ho => ?_)
    replace hk := (ho p hne).trans hk
    replace hfr := fun r hr hrp => (ho r (hfq r hr)).trans (hfr r hr hrp)
    replace hc := g2
    clear g2 ho
    replace hx := hx2
    clear hx2
    refine h_st rfl rfl ?_
    refine h_st rfl rfl ?_
    refine h_st rfl rfl ?_
    refine h_st rfl rfl ?_
    refine y_put rfl hx hc hKq (by omega) (ncs (by omega)) (rfl) (Nat.le_of_ble_eq_true rfl) (ok_22 ⟨_, _, _, _, _, _, rfl⟩) (fun σ2 hx2 g2 ho => ?_)
    replace hk := (ho p hne).trans hk
    replace hfr := fun r hr hrp => (ho r (hfq r hr)).trans (hfr r hr hrp)
    replace hc := g2
    clear g2 ho
    replace hx := hx2
    clear hx2
    refine h_st rfl rfl ?_
    refine h_st rfl rfl ?_
    refine h_st rfl rfl ?_
    refine h_st rfl rfl ?_
    refine h_st rfl rfl ?_
    refine h_st rfl rfl ?_
    refine h_st rfl (e_get hc rfl) ?_
    refine h_st rfl rfl ?_
    refine h_st rfl rfl ?_
    refine y_put rfl hx hc hKq (by omega) (ncs (by omega)) (rfl) (Nat.le_of_ble_eq_true rfl) (ok_22 ⟨_, _, _, _, _, _, rfl⟩) (fun σ2 hx2 g2 ho => ?_)
    replace hk := (ho p hne).trans hk
    replace hfr := fun r hr hrp => (ho r (hfq r hr)).trans (hfr r hr hrp)
    replace hc := g2
    clear g2 ho
    replace hx := hx2
    clear hx2
    refine h_st rfl rfl ?_
    refine h_st rfl rfl ?_
    refine h_st rfl rfl ?_
    refine h_st rfl rfl ?_
    refine h_st rfl rfl ?_
    refine h_st rfl rfl ?_
    refine h_br (fun q2 => ?_) (fun q2 => ?_)
    · refine h_st rfl rfl ?_
      refine y_put rfl hx hc hKq (by omega) (ncs (by omega)) (rfl) (Nat.le_of_ble_eq_true rfl) (ok_22 ⟨_, _, _, _, _, _, rfl⟩) (fun σ2 hx2 g2 ho => ?_)
      replace hk := (ho p hne).trans hk
      replace hfr := fun r hr hrp => (ho r (hfq r hr)).trans (hfr r hr hrp)
      replace hc := g2
      clear g2 ho
      replace hx := hx2
      clear hx2
      refine h_st rfl rfl ?_
      refine h_st rfl rfl ?_
      refine h_st rfl (e_get hk rfl) ?_
      refine h_st rfl rfl ?_
      refine h_st rfl rfl ?_
      refine y_putI (show nI (co + j) + 1 = nI (co + (j + 1)) from nI_1 (co + j)) rfl hx hk hp (by omega) (ncf (by omega)) (rfl) (Nat.le_of_ble_eq_true rfl) (by rw [v1, v3, v10]; exact ok_18 ⟨_, _, _, _, _, _, _, _, _, _, _, _, _, _, _, rfl, ⟨hb'.1, hb'.2.1, hb'.2.2.1, show co + (j + 1) ≤ 8 by omega⟩, h19', h20', h21'⟩) (fun σ2 hx2 g2 ho => ?_)
      replace hk := g2
      replace hfr := fun r hr hrp => (ho r hrp).trans (hfr r hr hrp)
      clear g2 ho
      replace hx := hx2
      clear hx2
      refine h_st rfl rfl ?_
      refine h_st rfl rfl ?_
      exact ih1 _ _ hx hfr hk
    · refine h_st rfl rfl ?_
      refine h_st rfl rfl ?_
      refine y_put rfl hx hc hKq (by omega) (ncs (by omega)) (rfl) (Nat.le_of_ble_eq_true rfl) (ok_22 ⟨_, _, _, _, _, _, rfl⟩) (fun σ2 hx2 g2 ho => ?_)
      replace hk := (ho p hne).trans hk
      replace hfr := fun r hr hrp => (ho r (hfq r hr)).trans (hfr r hr hrp)
      replace hc := g2
      clear g2 ho
      replace hx := hx2
      clear hx2
      refine h_st rfl rfl ?_
      refine h_st rfl rfl ?_
      refine h_st rfl (e_get hk rfl) ?_
      refine h_st rfl rfl ?_
      refine h_st rfl rfl ?_
      refine y_putI (show nI (co + j) + 1 = nI (co + (j + 1)) from nI_1 (co + j)) rfl hx hk hp (by omega) (ncf (by omega)) (rfl) (Nat.le_of_ble_eq_true rfl) (by rw [v1, v3, v10]; exact ok_18 ⟨_, _, _, _, _, _, _, _, _, _, _, _, _, _, _, rfl, ⟨hb'.1, hb'.2.1, hb'.2.2.1, show co + (j + 1) ≤ 8 by omega⟩, h19', h20', h21'⟩) (fun σ2 hx2 g2 ho => ?_)
      replace hk := g2
      replace hfr := fun r hr hrp => (ho r hrp).trans (hfr r hr hrp)
      clear g2 ho
      replace hx := hx2
      clear hx2
      refine h_st rfl rfl ?_
      refine h_st rfl rfl ?_
      exact ih1 _ _ hx hfr hk
theorem c_90x {nu ga hi qu pa me se op : Int32} {so mo po ac wa fi co : Nat} (hT : Ty σ K) (h00 : K 0 = 1) (hp : K p = 18) (hk : σ.2[p]? = some (.inr (4, [.int nu, .int (nI so), .int ga, .int (nI mo), .int hi, .int qu, .int pa, .ref po, .ref ac, .ref wa, .int (nI fi), .int (nI co), .int me, .int se, .int op]))) (hmo : 64 ≤ mo ∧ mo ≤ 128) (sz sd : Int32) (hcm : co + ned mo qu sz ≤ 8) : hE ra (d + 3) 90 [.ref p, .int sz, .int sd] σ (pV (fun σ' => Ex false 0 0 K σ K σ' ∧ (∀ q, K q = 18 ∨ q = 0 → q ≠ p → σ'.2[q]? = σ.2[q]?) ∧ ∃ me', σ'.2[p]? = some (.inr (4, [.int nu, .int (nI so), .int ga, .int (nI mo), .int hi, .int qu, .int pa, .ref po, .ref ac, .ref wa, .int (nI fi), .int (nI (co + ned mo qu sz)), .int me', .int se, .int op])))) := by
  have hx := Ex.refl (b := false) hT
  refine h_in rfl rfl (Nat.le_of_ble_eq_true rfl) ?_
  refine h_st rfl rfl ?_
  refine h_st rfl rfl ?_
  refine h_ci2 rfl (Nat.le_of_ble_eq_true rfl) (e_rcv hk) rfl (c_88x hk hmo sz) (fun σ' y hy => ?_)
  obtain ⟨hss, rfl⟩ := hy
  replace hss := hss.symm
  subst hss
  refine h_st rfl rfl ?_
  refine h_st rfl rfl ?_
  refine h_ci1 rfl (Nat.le_of_ble_eq_true rfl) (e_rcv hk) rfl (c_89x hk hmo) (fun σ' y hy => ?_)
  obtain ⟨hss, rfl⟩ := hy
  replace hss := hss.symm
  subst hss
  refine h_st rfl rfl ?_
  refine h_st rfl rfl ?_
  refine h_st rfl rfl ?_
  refine c_90lx hcm h00 hp (fun σ9 x6 hx hfr hk => ?_) _ 0 _ _ (Nat.zero_add _) hx (fun _ _ _ => rfl) hk
  obtain ⟨nu', so', ga', mo', hi', qu', pa', po', ac', wa', fi', co', me', se', op', hk', hb', h19', h20', h21'⟩ := hx.ty.k18 hp
  have hk2 := hk
  rw [hk] at hk'
  simp only [Option.some.injEq, Sum.inr.injEq, Prod.mk.injEq, List.cons.injEq, Value.ref.injEq, Value.int.injEq, true_and, and_true] at hk'
  obtain ⟨v0, v1, v2, v3, v4, v5, v6, v7, v8, v9, v10, v11, v12, v13, v14⟩ := hk'
  subst v7 v8 v9
  refine h_st rfl rfl ?_
  refine h_st rfl rfl ?_
  refine h_st rfl (e_get hk rfl) ?_
  refine h_st rfl rfl ?_
  refine h_st rfl rfl ?_
  refine h_st rfl rfl ?_
  refine h_st rfl rfl ?_
  refine y_put rfl hx hk hp (by omega) (ncf (by omega)) (rfl) (Nat.le_of_ble_eq_true rfl) (by rw [v1, v3, v10, v11]; exact ok_18 ⟨_, _, _, _, _, _, _, _, _, _, _, _, _, _, _, rfl, hb', h19', h20', h21'⟩) (fun σ2 hx2 g2 ho => ?_)
  replace hk := g2
  replace hfr := fun r hr hrp => (ho r hrp).trans (hfr r hr hrp)
  clear g2 ho
  replace hx := hx2
  clear hx2
  exact h_rv rfl (⟨_, rfl, hx, hfr, _, hk⟩)
end TYC
