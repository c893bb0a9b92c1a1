section TY6
variable {ra : ae_R} {d : Nat} {σ σ0 : ae_S} {p : Nat} {K K0 : Nat → Nat} {b : Bool} {s t : Nat}
theorem c_56 (hT : Ty σ K) (hp : K p = 18) (x : Int32) : hE ra (d + 1) 56 [.ref p, .int x] σ (pI (fun σ' _ => σ' = σ)) := by
  obtain ⟨nu, so, ga, mo, hi, qu, pa, po, ac, wa, fi, co, me, se, op, hk, hb, h19, h20, h21⟩ := hT.k18 hp
  refine h_in rfl rfl (Nat.le_of_ble_eq_true rfl) ?_
  refine h_st rfl rfl ?_
  refine h_st rfl (e_get hk rfl) ?_
  refine h_st rfl rfl ?_
  refine h_st rfl rfl ?_
  refine h_st rfl rfl ?_
  refine h_st rfl rfl ?_
  refine h_st rfl rfl ?_
  refine h_br (fun q => ?_) (fun q => ?_)
  · refine h_st rfl rfl ?_
    exact h_rt rfl rfl (⟨_, _, rfl, rfl⟩)
  · refine h_st rfl rfl ?_
    refine h_st rfl rfl ?_
    exact h_rt rfl rfl (⟨_, _, rfl, rfl⟩)
theorem c_39 (hT : Ty σ K) (hp : K p = 18) (x : Int32) : hE ra (d + 2) 39 [.ref p, .int x] σ (pR (fun σ' q => σ' = σ ∧ ∀ r, q = some r → K r = 23)) := by
  obtain ⟨nu, so, ga, mo, hi, qu, pa, po, ac, wa, fi, co, me, se, op, hk, hb, h19, h20, h21⟩ := hT.k18 hp
  obtain ⟨f, hs, hf⟩ := hT.k19 h19
  refine h_in rfl rfl (Nat.le_of_ble_eq_true rfl) ?_
  refine h_st rfl rfl ?_
  refine h_ci1 rfl (Nat.le_of_ble_eq_true rfl) rfl rfl (s_40 x) (fun σ' b1 hq => ?_)
  obtain ⟨rfl, hb1⟩ := hq
  refine h_st rfl rfl ?_
  refine h_br (fun q1 => ?_) (fun q1 => ?_)
  · refine h_st rfl rfl ?_
    exact h_rt rfl rfl (⟨_, none, rfl, rfl, fun r hr => by cases hr⟩)
  · obtain ⟨j, hj, rfl⟩ := i_ix (n := 4) (by decide) (b_2 hb1 q1).1 (b_2 hb1 q1).2
    refine h_st rfl rfl ?_
    refine h_st rfl (e_get hk rfl) ?_
    refine h_st rfl rfl ?_
    refine h_st rfl (e_aa hs (by decide) (nI_in hj (by decide))) ?_
    refine h_st rfl rfl ?_
    exact h_rt rfl (k_rv _) (⟨_, f (nI j).toNatClampNeg, rfl, rfl, fun r hr => hf j r hj (by rw [nI_clamp (by omega)] at hr; exact hr)⟩)
theorem c_89 (hT : Ty σ K) (hp : K p = 18) : hE ra (d + 1) 89 [.ref p] σ (pI (fun σ' x => σ' = σ ∧ ∃ r, x = nI r ∧ 24 ≤ r ∧ r ≤ 89)) := by
  obtain ⟨nu, so, ga, mo, hi, qu, pa, po, ac, wa, fi, co, me, se, op, hk, hb, h19, h20, h21⟩ := hT.k18 hp
  have e1 : nI mo - 39 = nI (mo - 39) := pk_sub (a := mo) (b := 39) (by omega)
  have e2 : (nI mo - 39) / 8 * 8 = nI ((mo - 39) / 8 * 8) := by rw [e1, show (8 : Int32) = nI 8 from rfl, pk_div (by omega) (by decide) (by decide), pk_mul]
  refine h_in rfl rfl (Nat.le_of_ble_eq_true rfl) ?_
  refine h_st rfl rfl ?_
  refine h_st rfl (e_get hk rfl) ?_
  refine h_st rfl rfl ?_
  refine h_st rfl rfl ?_
  refine h_st rfl rfl ?_
  refine h_st rfl rfl ?_
  refine h_st rfl (e_get hk rfl) ?_
  refine h_st rfl rfl ?_
  refine h_br (fun q => ?_) (fun q => ?_)
  · refine h_st rfl rfl ?_
    exact h_rt rfl rfl (⟨_, _, rfl, rfl, mo - 39, e1, by omega, by omega⟩)
  · refine h_st rfl rfl ?_
    refine h_st rfl rfl ?_
    refine h_st rfl (e_dv (by decide)) ?_
    refine h_st rfl rfl ?_
    refine h_st rfl rfl ?_
    refine h_st rfl rfl ?_
    exact h_rt rfl rfl (⟨_, _, rfl, rfl, (mo - 39) / 8 * 8, e2, by omega, by omega⟩)
theorem c_88 (hT : Ty σ K) (hp : K p = 18) (x : Int32) : hE ra (d + 2) 88 [.ref p, .int x] σ (pI (fun σ' y => σ' = σ ∧ ∃ m, y = nI m ∧ m ≤ 8)) := by
  obtain ⟨nu, so, ga, mo, hi, qu, pa, po, ac, wa, fi, co, me, se, op, hk, hb, h19, h20, h21⟩ := hT.k18 hp
  refine h_in rfl rfl (Nat.le_of_ble_eq_true rfl) ?_
  refine h_st rfl rfl ?_
  refine h_ci1 rfl (Nat.le_of_ble_eq_true rfl) (rcv18 hT hp) rfl (c_89 hT hp) (fun σ' y hy => ?_)
  obtain ⟨rfl, r, rfl, hr⟩ := hy
  refine h_st rfl rfl ?_
  refine h_st rfl rfl ?_
  refine h_st rfl rfl ?_
  refine h_st rfl rfl ?_
  refine h_br (fun q1 => ?_) (fun q1 => ?_)
  · refine h_st rfl rfl ?_
    exact h_rt rfl rfl (⟨_, _, rfl, rfl, 0, rfl, by omega⟩)
  · refine h_st rfl rfl ?_
    refine h_st rfl rfl ?_
    refine h_st rfl rfl ?_
    refine h_br (fun q2 => ?_) (fun q2 => ?_)
    · refine h_st rfl rfl ?_
      exact h_rt rfl rfl (⟨_, _, rfl, rfl, 0, rfl, by omega⟩)
    · refine h_st rfl rfl ?_
      refine h_st rfl rfl ?_
      refine h_st rfl rfl ?_
      refine h_pc (if_pos (decide_eq_true (nI_le (a := 1) (by omega) (by omega)))) ?_
      obtain ⟨z, hz, rfl⟩ := nI_of2 (x := x) (M := 400) (n := 400) (by decide) (fun v => q1 (Int32.lt_trans v (by decide))) (Int32.not_lt.mp q2)
      have e1 : (8 : Int32) + nI z + nI r - 1 = nI (8 + z + r - 1) := by rw [show (8 : Int32) = nI 8 from rfl, nI_add, nI_add, show (1 : Int32) = nI 1 from rfl, pk_sub (by omega)]
      have e2 : ((8 : Int32) + nI z + nI r - 1) / nI r = nI ((8 + z + r - 1) / r) := by rw [e1]; exact pk_div (by omega) (by omega) (by omega)
      have e3 : (8 + z + r - 1) / r < 2 ^ 31 := Nat.lt_of_le_of_lt (Nat.div_le_self _ _) (by omega)
      refine h_st rfl rfl ?_
      refine h_st rfl rfl ?_
      refine h_st rfl rfl ?_
      refine h_st rfl rfl ?_
      refine h_st rfl rfl ?_
      refine h_st rfl rfl ?_
      refine h_st rfl rfl ?_
      refine h_st rfl rfl ?_
      refine h_st rfl (e_dv (nI_ne0 (by omega) (by omega))) ?_
      refine h_st rfl rfl ?_
      refine h_st rfl rfl ?_
      refine h_st rfl rfl ?_
      refine h_st rfl (e_get hk rfl) ?_
      refine h_st rfl rfl ?_
      refine h_br (fun q3 => ?_) (fun q3 => ?_)
      · refine h_st rfl rfl ?_
        refine h_st rfl rfl ?_
        refine h_br (fun q4 => ?_) (fun q4 => ?_)
        · refine h_st rfl rfl ?_
          exact h_rt rfl rfl (⟨_, _, rfl, rfl, 0, rfl, by omega⟩)
        · refine h_st rfl rfl ?_
          refine h_st rfl rfl ?_
          exact h_rt rfl rfl (⟨_, _, rfl, rfl, (8 + z + r - 1) / r, e2, by have := (nI_leI e3 (by decide)).mp (show nI ((8 + z + r - 1) / r) ≤ nI 1 from e2 ▸ Int32.not_lt.mp q4); omega⟩)
      · refine h_st rfl rfl ?_
        refine h_st rfl rfl ?_
        refine h_st rfl rfl ?_
        refine h_br (fun q4 => ?_) (fun q4 => ?_)
        · refine h_st rfl rfl ?_
          exact h_rt rfl rfl (⟨_, _, rfl, rfl, 0, rfl, by omega⟩)
        · refine h_st rfl rfl ?_
          refine h_st rfl rfl ?_
          exact h_rt rfl rfl (⟨_, _, rfl, rfl, (8 + z + r - 1) / r, e2, (nI_leI e3 (by decide)).mp (show nI ((8 + z + r - 1) / r) ≤ nI 8 from e2 ▸ Int32.not_lt.mp q4)⟩)
theorem c_90l {sz sd : Int32} {m rm : Nat} (hm : m ≤ 8) (h00 : K 0 = 1) (hp0 : K p = 18) {P : ae_S × ae_O → Prop} (hx9 : ∀ σ j x6, Ex false 0 0 K σ0 K σ → σ.2[0]? = σ0.2[0]? → hG ra (d + 2) 90 σ [some (.ref p), some (.int sz), some (.int sd), some (.int (nI m)), some (.int (nI rm)), some (.int (nI j)), x6] [] 134 P) : ∀ (c j : Nat) (σ : ae_S) (x6 : Option Value), j + c = m → Ex false 0 0 K σ0 K σ → σ.2[0]? = σ0.2[0]? → hG ra (d + 2) 90 σ [some (.ref p), some (.int sz), some (.int sd), some (.int (nI m)), some (.int (nI rm)), some (.int (nI j)), x6] [] 15 P := by
  have hp := hp0
  intro c
  induction c with
  | zero =>
    intro j σ x6 hj hx hn0
    have hj : j = m := by omega
    subst hj
    refine h_st rfl rfl ?_
    refine h_st rfl rfl ?_
    refine h_st rfl rfl ?_
    refine h_pc (if_pos (decide_eq_true (nI_le (Nat.le_refl _) (by omega)))) ?_
    exact hx9 _ _ _ hx hn0
  | succ c ih =>
    intro j σ x6 hj hx hn0
    have ih1 := fun σ x6 h1 h2 => ih (j + 1) σ x6 (by omega) h1 h2
    simp only [← nI_1] at ih1
    obtain ⟨nu, so, ga, mo, hi, qu, pa, po, ac, wa, fi, co, me, se, op, hk, hb, h19, h20, h21⟩ := hx.ty.k18 hp
    obtain ⟨fw, hw, hwf⟩ := hx.ty.k21 h21
    refine h_st rfl rfl ?_
    refine h_st rfl rfl ?_
    refine h_st rfl rfl ?_
    refine h_pc (if_neg (fun z9 => (nI_ge (show j < m by omega) (by omega)) (of_decide_eq_true z9))) ?_
    refine h_st rfl rfl ?_
    refine h_st rfl (e_get hk rfl) ?_
    refine h_st rfl rfl ?_
    refine h_st rfl rfl ?_
    refine h_br (fun _ => hx9 _ _ _ hx hn0) (fun q1 => ?_)
    have hco : co < 8 := Nat.lt_of_not_le (fun z => q1 (nI_le (a := 8) z (by omega)))
    have er : nI fi + nI co - (nI fi + nI co) / 8 * 8 = nI ((fi + co) % 8) := by rw [nI_add]; exact pk_rem (a := fi + co) (d := 8) (by omega) (by decide) (by decide)
    have hlt : (fi + co) % 8 < 8 := Nat.mod_lt _ (by decide)
    have hin : ¬ (nI fi + nI co - (nI fi + nI co) / 8 * 8 < 0 ∨ 8 ≤ (nI fi + nI co - (nI fi + nI co) / 8 * 8).toNatClampNeg) := by rw [er]; exact nI_in hlt (by decide)
    obtain ⟨q, hq, hKq⟩ := hwf _ hlt
    have hv : fw (nI fi + nI co - (nI fi + nI co) / 8 * 8).toNatClampNeg = some q := by rw [er, nI_clamp (by omega)]; exact hq
    obtain ⟨a1, a2, a3, a4, a5, a6, hc⟩ := hx.ty.k22 hKq
    have hne : p ≠ q := kne hp hKq (by decide)
    have n0p : 0 ≠ p := kne h00 hp (by decide)
    have n0q : 0 ≠ q := kne h00 hKq (by decide)
    refine h_st rfl rfl ?_
    refine h_st rfl (e_get hk rfl) ?_
    refine h_st rfl rfl ?_
    refine h_st rfl (e_get hk rfl) ?_
    refine h_st rfl rfl ?_
    refine h_st rfl (e_get hk rfl) ?_
    refine h_st rfl rfl ?_
    refine h_st rfl rfl ?_
    refine h_st rfl (e_dv (by decide)) ?_
    refine h_st rfl ((e_aa hw (by decide) hin).trans (by rw [hv])) ?_
    refine h_st rfl rfl ?_
    refine h_st rfl rfl ?_
    refine h_st rfl rfl ?_
    refine h_st rfl (e_get hk rfl) ?_
    refine y_put rfl hx hc hKq (by omega) (ncs (by omega)) (rfl) (Nat.le_of_ble_eq_true rfl) (ok_22 ⟨_, _, _, _, _, _, rfl⟩) (fun σ2 hx2 g2 ho => ?_)
    replace hk := (ho p hne).trans hk
    replace hn0 := (ho 0 n0q).trans hn0
    replace hc := g2
    clear g2 ho
    replace hx := hx2
    clear hx2
    refine h_st rfl rfl ?_
    refine h_st rfl rfl ?_
    refine y_put rfl hx hc hKq (by omega) (ncs (by omega)) (rfl) (Nat.le_of_ble_eq_true rfl) (ok_22 ⟨_, _, _, _, _, _, rfl⟩) (fun σ2 hx2 g2 ho => ?_)
    replace hk := (ho p hne).trans hk
    replace hn0 := (ho 0 n0q).trans hn0
    replace hc := g2
    clear g2 ho
    replace hx := hx2
    clear hx2
    refine h_st rfl rfl ?_
    refine h_st rfl rfl ?_
    refine y_put rfl hx hc hKq (by omega) (ncs (by omega)) (rfl) (Nat.le_of_ble_eq_true rfl) (ok_22 ⟨_, _, _, _, _, _, rfl⟩) (fun σ2 hx2 g2 ho => ?_)
    replace hk := (ho p hne).trans hk
    replace hn0 := (ho 0 n0q).trans hn0
    replace hc := g2
    clear g2 ho
    replace hx := hx2
    clear hx2
    refine h_st rfl rfl ?_
    refine h_st rfl rfl ?_
    refine h_st rfl rfl ?_
    refine h_st rfl rfl ?_
    refine y_put rfl hx hc hKq (by omega) (ncs (by omega)) (rfl) (Nat.le_of_ble_eq_true rfl) (ok_22 ⟨_, _, _, _, _, _, rfl⟩) (fun σ2 hx2 g2 ho => ?_)
    replace hk := (ho p hne).trans hk
    replace hn0 := (ho 0 n0q).trans hn0
    replace hc := g2
    clear g2 ho
    replace hx := hx2
    clear hx2
    refine h_st rfl rfl ?_
    refine h_st rfl rfl ?_
    refine h_st rfl rfl ?_
    refine h_st rfl rfl ?_
    refine h_st rfl rfl ?_
    refine h_st rfl rfl ?_
    refine h_st rfl (e_get hc rfl) ?_
    refine h_st rfl rfl ?_
    refine h_st rfl rfl ?_
    refine y_put rfl hx hc hKq (by omega) (ncs (by omega)) (rfl) (Nat.le_of_ble_eq_true rfl) (ok_22 ⟨_, _, _, _, _, _, rfl⟩) (fun σ2 hx2 g2 ho => ?_)
    replace hk := (ho p hne).trans hk
    replace hn0 := (ho 0 n0q).trans hn0
    replace hc := g2
    clear g2 ho
    replace hx := hx2
    clear hx2
    refine h_st rfl rfl ?_
    refine h_st rfl rfl ?_
    refine h_st rfl rfl ?_
    refine h_st rfl rfl ?_
    refine h_st rfl rfl ?_
    refine h_st rfl rfl ?_
    refine h_br (fun q2 => ?_) (fun q2 => ?_)
    · refine h_st rfl rfl ?_
      refine y_put rfl hx hc hKq (by omega) (ncs (by omega)) (rfl) (Nat.le_of_ble_eq_true rfl) (ok_22 ⟨_, _, _, _, _, _, rfl⟩) (fun σ2 hx2 g2 ho => ?_)
      replace hk := (ho p hne).trans hk
      replace hn0 := (ho 0 n0q).trans hn0
      replace hc := g2
      clear g2 ho
      replace hx := hx2
      clear hx2
      refine h_st rfl rfl ?_
      refine h_st rfl rfl ?_
      refine h_st rfl (e_get hk rfl) ?_
      refine h_st rfl rfl ?_
      refine h_st rfl rfl ?_
      refine y_putI (nI_1 co) rfl hx hk hp (by omega) (ncf (by omega)) (rfl) (Nat.le_of_ble_eq_true rfl) (ok_18 ⟨_, _, _, _, _, _, _, _, _, _, _, _, _, _, _, rfl, by omega, h19, h20, h21⟩) (fun σ2 hx2 g2 ho => ?_)
      replace hn0 := (ho 0 n0p).trans hn0
      replace hk := g2
      clear g2 ho
      replace hx := hx2
      clear hx2
      refine h_st rfl rfl ?_
      refine h_st rfl rfl ?_
      exact ih1 _ _ hx hn0
    · refine h_st rfl rfl ?_
      refine h_st rfl rfl ?_
      refine y_put rfl hx hc hKq (by omega) (ncs (by omega)) (rfl) (Nat.le_of_ble_eq_true rfl) (ok_22 ⟨_, _, _, _, _, _, rfl⟩) (fun σ2 hx2 g2 ho => ?_)
      replace hk := (ho p hne).trans hk
      replace hn0 := (ho 0 n0q).trans hn0
      replace hc := g2
      clear g2 ho
      replace hx := hx2
      clear hx2
      refine h_st rfl rfl ?_
      refine h_st rfl rfl ?_
      refine h_st rfl (e_get hk rfl) ?_
      refine h_st rfl rfl ?_
      refine h_st rfl rfl ?_
      refine y_putI (nI_1 co) rfl hx hk hp (by omega) (ncf (by omega)) (rfl) (Nat.le_of_ble_eq_true rfl) (ok_18 ⟨_, _, _, _, _, _, _, _, _, _, _, _, _, _, _, rfl, by omega, h19, h20, h21⟩) (fun σ2 hx2 g2 ho => ?_)
      replace hn0 := (ho 0 n0p).trans hn0
      replace hk := g2
      clear g2 ho
      replace hx := hx2
      clear hx2
      refine h_st rfl rfl ?_
      refine h_st rfl rfl ?_
      exact ih1 _ _ hx hn0
theorem c_90 (hT : Ty σ K) (h00 : K 0 = 1) (hp : K p = 18) (sz sd : Int32) : hE ra (d + 3) 90 [.ref p, .int sz, .int sd] σ (pV (fun σ' => Ex false 0 0 K σ K σ' ∧ σ'.2[0]? = σ.2[0]?)) := by
  have hx := Ex.refl (b := false) hT
  refine h_in rfl rfl (Nat.le_of_ble_eq_true rfl) ?_
  refine h_st rfl rfl ?_
  refine h_st rfl rfl ?_
  refine h_ci2 rfl (Nat.le_of_ble_eq_true rfl) (rcv18 hT hp) rfl (c_88 hT hp sz) (fun σ' y hy => ?_)
  obtain ⟨rfl, m, rfl, hm⟩ := hy
  refine h_st rfl rfl ?_
  refine h_st rfl rfl ?_
  refine h_ci1 rfl (Nat.le_of_ble_eq_true rfl) (rcv18 hT hp) rfl (c_89 hT hp) (fun σ' y hy => ?_)
  obtain ⟨rfl, rm, rfl, hrm⟩ := hy
  refine h_st rfl rfl ?_
  refine h_st rfl rfl ?_
  refine h_st rfl rfl ?_
  refine c_90l hm h00 hp (fun σ j x6 hx hn0 => ?_) m 0 _ _ (by omega) hx rfl
  obtain ⟨nu, so, ga, mo, hi, qu, pa, po, ac, wa, fi, co, me, se, op, hk, hb, h19, h20, h21⟩ := hx.ty.k18 hp
  refine h_st rfl rfl ?_
  refine h_st rfl rfl ?_
  refine h_st rfl (e_get hk rfl) ?_
  refine h_st rfl rfl ?_
  refine h_st rfl rfl ?_
  refine h_st rfl rfl ?_
  refine h_st rfl rfl ?_
  refine y_put rfl hx hk hp (by omega) (ncf (by omega)) (rfl) (Nat.le_of_ble_eq_true rfl) (ok_18 ⟨_, _, _, _, _, _, _, _, _, _, _, _, _, _, _, rfl, hb, h19, h20, h21⟩) (fun σ2 hx2 g2 ho => ?_)
  replace hn0 := (ho 0 (kne h00 hp (by decide))).trans hn0
  replace hk := g2
  clear g2 ho
  replace hx := hx2
  clear hx2
  exact h_rv rfl (⟨_, rfl, hx, hn0⟩)
theorem c_13 {nu ga hi qu pa me se op : Int32} {so mo po ac wa fi co : Nat} (hT : Ty σ K) (hp : K p = 18) (hk : σ.2[p]? = some (.inr (4, [.int nu, .int (nI so), .int ga, .int (nI mo), .int hi, .int qu, .int pa, .ref po, .ref ac, .ref wa, .int (nI fi), .int (nI (co + 1)), .int me, .int se, .int op]))) (hb : so < 4 ∧ (64 ≤ mo ∧ mo ≤ 128) ∧ fi < 8 ∧ co + 1 ≤ 8) (h19 : K po = 19) (h20 : K ac = 20) (h21 : K wa = 21) : hE ra (d + 1) 13 [.ref p] σ (pR (fun σ' q => ∃ r, q = some r ∧ K r = 22 ∧ Ex false 0 0 K σ K σ' ∧ (∀ q, q ≠ p → σ'.2[q]? = σ.2[q]?) ∧ σ'.2[p]? = some (.inr (4, [.int nu, .int (nI so), .int ga, .int (nI mo), .int hi, .int qu, .int pa, .ref po, .ref ac, .ref wa, .int (nI ((fi + 1) % 8)), .int (nI co), .int me, .int se, .int op])))) := by
  have hx := Ex.refl (b := false) hT
  obtain ⟨fw, hw, hwf⟩ := hT.k21 h21
  obtain ⟨q, hq, hKq⟩ := hwf fi (by omega)
  have hv : fw (nI fi).toNatClampNeg = some q := by rw [nI_clamp (by omega)]; exact hq
  have er : nI fi + 1 - (nI fi + 1) / 8 * 8 = nI ((fi + 1) % 8) := by rw [nI_1]; exact pk_rem (a := fi + 1) (d := 8) (by omega) (by decide) (by decide)
  have hlt : (fi + 1) % 8 < 8 := Nat.mod_lt _ (by decide)
  have hoo : ∀ q, q ≠ p → σ.2[q]? = σ.2[q]? := fun _ _ => rfl
  refine h_in rfl rfl (Nat.le_of_ble_eq_true rfl) ?_
  refine h_st rfl rfl ?_
  refine h_st rfl (e_get hk rfl) ?_
  refine h_st rfl rfl ?_
  refine h_st rfl (e_get hk rfl) ?_
  refine h_st rfl ((e_aa hw (by decide) (nI_in (show fi < 8 by omega) (by decide))).trans (by rw [hv])) ?_
  refine h_st rfl rfl ?_
  refine h_st rfl rfl ?_
  refine h_st rfl rfl ?_
  refine h_st rfl (e_get hk rfl) ?_
  refine h_st rfl rfl ?_
  refine h_st rfl rfl ?_
  refine h_st rfl rfl ?_
  refine h_st rfl (e_dv (by decide)) ?_
  refine y_putI (er) rfl hx hk hp (by omega) (ncf (by omega)) (rfl) (Nat.le_of_ble_eq_true rfl) (ok_18 ⟨_, _, _, _, _, _, _, _, _, _, _, _, _, _, _, rfl, by omega, h19, h20, h21⟩) (fun σ2 hx2 g2 ho => ?_)
  replace hoo := fun q z => (ho q z).trans (hoo q z)
  replace hk := g2
  clear g2 ho
  replace hx := hx2
  clear hx2
  refine h_st rfl rfl ?_
  refine h_st rfl rfl ?_
  refine h_st rfl (e_get hk rfl) ?_
  refine h_st rfl rfl ?_
  refine h_st rfl rfl ?_
  refine y_putI (nI_pred co) rfl hx hk hp (by omega) (ncf (by omega)) (rfl) (Nat.le_of_ble_eq_true rfl) (ok_18 ⟨_, _, _, _, _, _, _, _, _, _, _, _, _, _, _, rfl, by omega, h19, h20, h21⟩) (fun σ2 hx2 g2 ho => ?_)
  replace hoo := fun q z => (ho q z).trans (hoo q z)
  replace hk := g2
  clear g2 ho
  replace hx := hx2
  clear hx2
  refine h_st rfl rfl ?_
  exact h_rt rfl rfl (⟨_, some q, rfl, q, rfl, hKq, hx, hoo, hk⟩)
theorem c_15 (x : Int32) : hE ra (d + 1) 15 [.int x] σ (pI (fun σ' _ => σ' = σ)) := by
  refine h_in rfl rfl (Nat.le_of_ble_eq_true rfl) ?_
  refine h_st rfl rfl ?_
  refine h_st rfl rfl ?_
  refine h_st rfl rfl ?_
  refine h_br (fun q => ?_) (fun q => ?_)
  · refine h_st rfl rfl ?_
    refine h_st rfl rfl ?_
    refine h_st rfl rfl ?_
    exact h_rt rfl rfl (⟨_, _, rfl, rfl⟩)
  · refine h_st rfl rfl ?_
    refine h_st rfl rfl ?_
    exact h_rt rfl rfl (⟨_, _, rfl, rfl⟩)
theorem c_14 (hT : Ty σ K) (hp : K p = 18) : hE ra (d + 2) 14 [.ref p] σ (pI (fun σ' _ => Ex false 0 0 K σ K σ' ∧ (∀ q, q ≠ p → σ'.2[q]? = σ.2[q]?))) := by
  have hx := Ex.refl (b := false) hT
  obtain ⟨nu, so, ga, mo, hi, qu, pa, po, ac, wa, fi, co, me, se, op, hk, hb, h19, h20, h21⟩ := hT.k18 hp
  have hoo : ∀ q, q ≠ p → σ.2[q]? = σ.2[q]? := fun _ _ => rfl
  refine h_in rfl rfl (Nat.le_of_ble_eq_true rfl) ?_
  refine h_st rfl rfl ?_
  refine h_st rfl rfl ?_
  refine h_st rfl (e_get hk rfl) ?_
  refine h_st rfl rfl ?_
  refine h_st rfl rfl ?_
  refine h_br (fun q => ?_) (fun q => ?_)
  · refine h_st rfl rfl ?_
    refine h_st rfl (e_get hk rfl) ?_
    refine h_ci1 rfl (Nat.le_of_ble_eq_true rfl) rfl rfl (c_15 _) (fun σ' y hy => ?_)
    subst hy
    refine y_put rfl hx hk hp (by omega) (ncf (by omega)) (rfl) (Nat.le_of_ble_eq_true rfl) (ok_18 ⟨_, _, _, _, _, _, _, _, _, _, _, _, _, _, _, rfl, hb, h19, h20, h21⟩) (fun σ2 hx2 g2 ho => ?_)
    replace hoo := fun q z => (ho q z).trans (hoo q z)
    replace hk := g2
    clear g2 ho
    replace hx := hx2
    clear hx2
    refine h_st rfl rfl ?_
    refine h_st rfl (e_get hk rfl) ?_
    exact h_rt rfl rfl (⟨_, _, rfl, hx, hoo⟩)
  · refine h_st rfl rfl ?_
    refine h_st rfl rfl ?_
    refine y_put rfl hx hk hp (by omega) (ncf (by omega)) (rfl) (Nat.le_of_ble_eq_true rfl) (ok_18 ⟨_, _, _, _, _, _, _, _, _, _, _, _, _, _, _, rfl, hb, h19, h20, h21⟩) (fun σ2 hx2 g2 ho => ?_)
    replace hoo := fun q z => (ho q z).trans (hoo q z)
    replace hk := g2
    clear g2 ho
    replace hx := hx2
    clear hx2
    refine h_st rfl rfl ?_
    refine h_st rfl (e_get hk rfl) ?_
    exact h_rt rfl rfl (⟨_, _, rfl, hx, hoo⟩)
theorem c_57 (hT : Ty σ K) (hp : K p = 18) {a : Nat} (ha : a < 2) (x : Int32) : hE ra (d + 1) 57 [.ref p, .int (nI a), .int x] σ (pI (fun σ' _ => Ex b 0 0 K σ K σ')) := by
  have hx := Ex.refl (b := b) hT
  obtain ⟨nu, so, ga, mo, hi, qu, pa, po, ac, wa, fi, co, me, se, op, hk, hb, h19, h20, h21⟩ := hT.k18 hp
  obtain ⟨f, hf⟩ := hT.k20 h20
  have hin : ¬ (nI a < 0 ∨ 2 ≤ (nI a).toNatClampNeg) := nI_in ha (by decide)
  refine h_in rfl rfl (Nat.le_of_ble_eq_true rfl) ?_
  refine h_st rfl rfl ?_
  refine h_st rfl rfl ?_
  refine h_st rfl (e_get hk rfl) ?_
  refine h_st rfl rfl ?_
  refine h_st rfl rfl ?_
  refine h_st rfl rfl ?_
  refine h_st rfl (e_get hk rfl) ?_
  refine h_st rfl rfl ?_
  refine h_st rfl (e_ia hf hin) ?_
  refine h_st rfl rfl ?_
  refine h_st rfl rfl ?_
  refine h_br (fun q => ?_) (fun q => ?_)
  · refine h_st rfl rfl ?_
    refine h_st rfl (e_get hk rfl) ?_
    refine h_st rfl rfl ?_
    refine h_st rfl rfl ?_
    refine h_st rfl (e_ia hf hin) ?_
    refine h_st rfl rfl ?_
    refine h_st rfl rfl ?_
    refine y_ias rfl hx hf h20 (by omega) (ncs (by omega)) (hin) (fun f' => ok_20 ⟨f', rfl⟩) (fun σ2 hx2 g2 ho => ?_)
    replace hf := g2
    clear g2 ho
    replace hx := hx2
    clear hx2
    refine h_st rfl rfl ?_
    exact h_rt rfl rfl (⟨_, _, rfl, hx⟩)
  · refine h_st rfl rfl ?_
    exact h_rt rfl rfl (⟨_, _, rfl, hx⟩)
theorem c_10l {x : Int32} (hp : K p = 18) : ∀ (m j : Nat) (σ : ae_S), j + m = 2 → Ex b 0 0 K σ0 K σ → hG ra d 10 σ [some (.ref p), some (.int x), some (.int (nI j))] [] 2 (pV (fun σ' => Ex b 0 0 K σ0 K σ')) := by
  intro m
  induction m with
  | zero =>
    intro j σ hj hx
    have hj : j = 2 := by omega
    subst hj
    refine h_st rfl rfl ?_
    refine h_st rfl rfl ?_
    refine h_st rfl rfl ?_
    refine h_pc (if_pos (decide_eq_true (nI_le (Nat.le_refl 2) (by decide)))) ?_
    exact h_rv rfl (⟨_, rfl, hx⟩)
  | succ m ih =>
    intro j σ hj hx
    have ih1 := fun σ h1 => ih (j + 1) σ (by omega) h1
    simp only [← nI_1] at ih1
    obtain ⟨nu, so, ga, mo, hi, qu, pa, po, ac, wa, fi, co, me, se, op, hk, hb, h19, h20, h21⟩ := hx.ty.k18 hp
    obtain ⟨f, hf⟩ := hx.ty.k20 h20
    have hin : ¬ (nI j < 0 ∨ 2 ≤ (nI j).toNatClampNeg) := nI_in (by omega) (by decide)
    refine h_st rfl rfl ?_
    refine h_st rfl rfl ?_
    refine h_st rfl rfl ?_
    refine h_pc (if_neg (fun z9 => (nI_ge (show j < 2 by omega) (by decide)) (of_decide_eq_true z9))) ?_
    refine h_st rfl rfl ?_
    refine h_st rfl (e_get hk rfl) ?_
    refine h_st rfl rfl ?_
    refine h_st rfl rfl ?_
    refine h_st rfl (e_get hk rfl) ?_
    refine h_st rfl rfl ?_
    refine h_st rfl (e_get hk rfl) ?_
    refine h_st rfl rfl ?_
    refine h_st rfl rfl ?_
    refine h_st rfl rfl ?_
    refine h_st rfl rfl ?_
    refine h_st rfl (e_get hk rfl) ?_
    refine h_st rfl rfl ?_
    refine h_st rfl (e_ia hf hin) ?_
    refine h_st rfl rfl ?_
    refine h_st rfl (e_get hk rfl) ?_
    refine h_st rfl rfl ?_
    refine h_st rfl rfl ?_
    refine h_st rfl rfl ?_
    refine h_st rfl rfl ?_
    refine y_ias rfl hx hf h20 (by omega) (ncs (by omega)) (hin) (fun f' => ok_20 ⟨f', rfl⟩) (fun σ2 hx2 g2 ho => ?_)
    replace hf := g2
    clear g2 ho
    replace hx := hx2
    clear hx2
    refine h_st rfl rfl ?_
    refine h_st rfl rfl ?_
    exact ih1 _ hx
theorem c_10 (hT : Ty σ K) (hp : K p = 18) (x : Int32) : hE ra (d + 1) 10 [.ref p, .int x] σ (pV (fun σ' => Ex b 0 0 K σ K σ')) := by
  have hx := Ex.refl (b := b) hT
  refine h_in rfl rfl (Nat.le_of_ble_eq_true rfl) ?_
  refine h_st rfl rfl ?_
  refine h_st rfl rfl ?_
  exact c_10l hp 2 0 _ rfl hx
theorem c_45 (x y : Int32) : hE ra (d + 2) 45 [.int x, .int y] σ (pI (fun σ' _ => σ' = σ)) := by
  refine h_in rfl rfl (Nat.le_of_ble_eq_true rfl) ?_
  refine h_st rfl rfl ?_
  refine h_st rfl rfl ?_
  refine h_st rfl rfl ?_
  refine h_br (fun q1 => ?_) (fun q1 => ?_)
  · refine h_st rfl rfl ?_
    refine h_st rfl rfl ?_
    exact h_rt rfl rfl (⟨_, _, rfl, rfl⟩)
  · refine h_st rfl rfl ?_
    refine h_st rfl rfl ?_
    refine h_br (fun q2 => ?_) (fun q2 => ?_)
    · refine h_st rfl rfl ?_
      refine h_st rfl rfl ?_
      exact h_rt rfl rfl (⟨_, _, rfl, rfl⟩)
    · refine h_st rfl rfl ?_
      refine h_st rfl rfl ?_
      refine h_ci1 rfl (Nat.le_of_ble_eq_true rfl) rfl rfl (c_15 _) (fun σ' y hy => ?_)
      subst hy
      refine h_st rfl rfl ?_
      refine h_br (fun q3 => ?_) (fun q3 => ?_)
      · refine h_st rfl rfl ?_
        refine h_st rfl rfl ?_
        exact h_rt rfl rfl (⟨_, _, rfl, rfl⟩)
      · refine h_st rfl rfl ?_
        refine h_st rfl rfl ?_
        refine h_ci1 rfl (Nat.le_of_ble_eq_true rfl) rfl rfl (c_15 _) (fun σ' y hy => ?_)
        subst hy
        refine h_ci1 rfl (Nat.le_of_ble_eq_true rfl) rfl rfl (c_15 _) (fun σ' y hy => ?_)
        subst hy
        refine h_st rfl rfl ?_
        refine h_br (fun q4 => ?_) (fun q4 => ?_)
        · refine h_st rfl rfl ?_
          exact h_rt rfl rfl (⟨_, _, rfl, rfl⟩)
        · refine h_st rfl rfl ?_
          refine h_st rfl rfl ?_
          exact h_rt rfl rfl (⟨_, _, rfl, rfl⟩)
theorem c_46 (hT : Ty σ K) (hp : K p = 23) (x y : Int32) : hE ra (d + 1) 46 [.ref p, .int x, .int y] σ (pI (fun σ' _ => σ' = σ)) := by
  obtain ⟨n, z, sk, la, ts, ta, ib, bn, be, ke, fk, kc, ca, hc, hzn, hla, hbe, hke⟩ := hT.k23 hp
  refine h_in rfl rfl (Nat.le_of_ble_eq_true rfl) ?_
  refine h_st rfl rfl ?_
  refine h_st rfl (e_get hc rfl) ?_
  refine h_st rfl rfl ?_
  refine h_st rfl rfl ?_
  refine h_br (fun q1 => ?_) (fun q1 => ?_)
  · refine h_st rfl rfl ?_
    exact h_rt rfl rfl (⟨_, _, rfl, rfl⟩)
  · refine h_st rfl rfl ?_
    refine h_st rfl rfl ?_
    refine h_st rfl (e_get hc rfl) ?_
    refine h_st rfl rfl ?_
    refine h_st rfl rfl ?_
    refine h_st rfl (e_get hc rfl) ?_
    refine h_st rfl rfl ?_
    refine h_br (fun q2 => ?_) (fun q2 => ?_)
    · refine h_st rfl rfl ?_
      refine h_st rfl rfl ?_
      refine h_st rfl (e_get hc rfl) ?_
      refine h_st rfl rfl ?_
      refine h_br (fun q3 => ?_) (fun q3 => ?_)
      · refine h_st rfl rfl ?_
        refine h_st rfl rfl ?_
        refine h_st rfl (e_get hc rfl) ?_
        refine h_st rfl rfl ?_
        refine h_br (fun q4 => ?_) (fun q4 => ?_)
        · refine h_st rfl rfl ?_
          refine h_st rfl rfl ?_
          refine h_st rfl (e_get hc rfl) ?_
          refine h_st rfl rfl ?_
          refine h_st rfl rfl ?_
          refine h_st rfl rfl ?_
          refine h_st rfl rfl ?_
          refine h_st rfl rfl ?_
          refine h_st rfl rfl ?_
          refine h_br (fun q5 => ?_) (fun q5 => ?_)
          · refine h_st rfl rfl ?_
            refine h_st rfl rfl ?_
            exact h_rt rfl rfl (⟨_, _, rfl, rfl⟩)
          · refine h_st rfl rfl ?_
            refine h_st rfl (e_get hc rfl) ?_
            refine h_st rfl rfl ?_
            refine h_br (fun q6 => ?_) (fun q6 => ?_)
            · refine h_st rfl rfl ?_
              refine h_st rfl rfl ?_
              exact h_rt rfl rfl (⟨_, _, rfl, rfl⟩)
            · refine h_st rfl rfl ?_
              refine h_st rfl rfl ?_
              refine h_st rfl rfl ?_
              refine h_br (fun q7 => ?_) (fun q7 => ?_)
              · refine h_st rfl rfl ?_
                exact h_rt rfl rfl (⟨_, _, rfl, rfl⟩)
              · refine h_st rfl rfl ?_
                refine h_st rfl rfl ?_
                exact h_rt rfl rfl (⟨_, _, rfl, rfl⟩)
        · refine h_st rfl rfl ?_
          refine h_st rfl rfl ?_
          refine h_st rfl (e_get hc rfl) ?_
          refine h_st rfl rfl ?_
          refine h_st rfl rfl ?_
          refine h_st rfl rfl ?_
          refine h_st rfl rfl ?_
          refine h_st rfl rfl ?_
          refine h_br (fun q5 => ?_) (fun q5 => ?_)
          · refine h_st rfl rfl ?_
            refine h_st rfl rfl ?_
            exact h_rt rfl rfl (⟨_, _, rfl, rfl⟩)
          · refine h_st rfl rfl ?_
            refine h_st rfl (e_get hc rfl) ?_
            refine h_st rfl rfl ?_
            refine h_br (fun q6 => ?_) (fun q6 => ?_)
            · refine h_st rfl rfl ?_
              refine h_st rfl rfl ?_
              exact h_rt rfl rfl (⟨_, _, rfl, rfl⟩)
            · refine h_st rfl rfl ?_
              refine h_st rfl rfl ?_
              refine h_st rfl rfl ?_
              refine h_br (fun q7 => ?_) (fun q7 => ?_)
              · refine h_st rfl rfl ?_
                exact h_rt rfl rfl (⟨_, _, rfl, rfl⟩)
              · refine h_st rfl rfl ?_
                refine h_st rfl rfl ?_
                exact h_rt rfl rfl (⟨_, _, rfl, rfl⟩)
      · refine h_st rfl rfl ?_
        exact h_rt rfl rfl (⟨_, _, rfl, rfl⟩)
    · refine h_st rfl rfl ?_
      exact h_rt rfl rfl (⟨_, _, rfl, rfl⟩)
theorem c_66 (hT : Ty σ K) (hp : K p = 23) (x : Int32) : hE ra (d + 1) 66 [.ref p, .int x] σ (pI (fun σ' _ => σ' = σ)) := by
  obtain ⟨n, z, sk, la, ts, ta, ib, bn, be, ke, fk, kc, ca, hc, hzn, hla, hbe, hke⟩ := hT.k23 hp
  refine h_in rfl rfl (Nat.le_of_ble_eq_true rfl) ?_
  refine h_st rfl rfl ?_
  refine h_st rfl (e_get hc rfl) ?_
  refine h_st rfl rfl ?_
  refine h_br (fun q1 => ?_) (fun q1 => ?_)
  · refine h_st rfl rfl ?_
    refine h_st rfl (e_get hc rfl) ?_
    refine h_st rfl rfl ?_
    refine h_br (fun q2 => ?_) (fun q2 => ?_)
    · refine h_st rfl rfl ?_
      refine h_st rfl rfl ?_
      refine h_st rfl (e_get hc rfl) ?_
      refine h_st rfl rfl ?_
      exact h_rt rfl rfl (⟨_, _, rfl, rfl⟩)
    · refine h_st rfl rfl ?_
      refine h_st rfl rfl ?_
      exact h_rt rfl rfl (⟨_, _, rfl, rfl⟩)
  · refine h_st rfl rfl ?_
    refine h_st rfl (e_get hc rfl) ?_
    exact h_rt rfl rfl (⟨_, _, rfl, rfl⟩)
theorem c_44 (hT : Ty σ K) (hp : K p = 23) {a : Nat} (ha : a < 2) (x y : Int32) : hE ra (d + 3) 44 [.ref p, .int (nI a), .int x, .int y] σ (pI (fun σ' v => Ex b 0 0 K σ K σ' ∧ (v = -1 ∨ ∃ r, v = nI r ∧ r < 12))) := by
  have hx := Ex.refl (b := b) hT
  obtain ⟨n, z, sk, la, ts, ta, ib, bn, be, ke, fk, kc, ca, hc, hzn, hla, hbe, hke⟩ := hT.k23 hp
  obtain ⟨f, hf⟩ := hT.k20 hla
  have hin : ¬ (nI a < 0 ∨ 2 ≤ (nI a).toNatClampNeg) := nI_in ha (by decide)
  have hne : p ≠ la := kne hp hla (by decide)
  refine h_in rfl rfl (Nat.le_of_ble_eq_true rfl) ?_
  refine h_st rfl rfl ?_
  refine h_st rfl (e_get hc rfl) ?_
  refine h_st rfl rfl ?_
  refine h_st rfl (e_ia hf hin) ?_
  refine h_st rfl rfl ?_
  refine h_st rfl rfl ?_
  refine h_st rfl (e_get hc rfl) ?_
  refine h_st rfl rfl ?_
  refine h_st rfl rfl ?_
  refine y_ias rfl hx hf hla (by omega) (ncs (by omega)) (hin) (fun f' => ok_20 ⟨f', rfl⟩) (fun σ2 hx2 g2 ho => ?_)
  replace hc := (ho p hne).trans hc
  replace hf := g2
  clear g2 ho
  replace hx := hx2
  clear hx2
  refine h_st rfl rfl ?_
  refine h_st rfl rfl ?_
  refine h_ci2 rfl (Nat.le_of_ble_eq_true rfl) rfl rfl (c_45 _ _) (fun σ' y hy => ?_)
  subst hy
  refine h_st rfl rfl ?_
  refine h_br (fun q1 => ?_) (fun q1 => ?_)
  · refine h_st rfl rfl ?_
    refine h_st rfl rfl ?_
    refine h_st rfl rfl ?_
    refine h_ci3 rfl (Nat.le_of_ble_eq_true rfl) (e_rcv hc) rfl (c_46 hx.ty hp _ _) (fun σ' y hy => ?_)
    subst hy
    refine h_st rfl rfl ?_
    refine h_br (fun q2 => ?_) (fun q2 => ?_)
    · refine h_st rfl rfl ?_
      refine h_st rfl rfl ?_
      refine y_put rfl hx hc hp (by omega) (ncs (by omega)) (rfl) (Nat.le_of_ble_eq_true rfl) (ok_23 ⟨_, _, _, _, _, _, _, _, _, _, _, _, _, rfl, hzn, hla, hbe, hke⟩) (fun σ2 hx2 g2 ho => ?_)
      replace hc := g2
      clear g2 ho
      replace hx := hx2
      clear hx2
      refine h_st rfl rfl ?_
      refine h_st rfl rfl ?_
      refine y_put rfl hx hc hp (by omega) (ncs (by omega)) (rfl) (Nat.le_of_ble_eq_true rfl) (ok_23 ⟨_, _, _, _, _, _, _, _, _, _, _, _, _, rfl, hzn, hla, hbe, hke⟩) (fun σ2 hx2 g2 ho => ?_)
      replace hc := g2
      clear g2 ho
      replace hx := hx2
      clear hx2
      refine h_st rfl rfl ?_
      exact h_rt rfl rfl (⟨_, _, rfl, hx, Or.inl rfl⟩)
    · refine h_st rfl rfl ?_
      exact h_rt rfl rfl (⟨_, _, rfl, hx, Or.inr ⟨9, rfl, by decide⟩⟩)
  · refine h_st rfl rfl ?_
    exact h_rt rfl rfl (⟨_, _, rfl, hx, Or.inr ⟨8, rfl, by decide⟩⟩)
theorem c_54c {n sp : Nat} {z sk ts ta ib bn ca tm X : Int32} {la be ke fk kc : Nat} (hx : Ex b 0 0 K0 σ0 K σ) (hp : K p = 23) (hc : σ.2[p]? = some (.inr (5, [.int z, .int sk, .ref la, .int ts, .int ta, .int ib, .int bn, .ref be, .ref ke, .int (nI fk), .int (nI kc), .int ca]))) (hzn : ((z = 1 ∧ n = 4) ∨ (z = 0 ∧ n = 1)) ∧ fk < n ∧ kc ≤ n) (hkc : z = 1 → kc < 4) (hla : K la = 20) (hke : K ke = 300 + n) (hsp : K sp = 7) : hG ra d 54 σ [some (.ref p), some (.int tm), some (.int X), some (.ref sp)] [] 81 (pI (fun σ' v => (∃ K', Ex b 0 0 K0 σ0 K' σ') ∧ (v = -1 ∨ ∃ r, v = nI r ∧ r < 12))) := by
  refine h_st rfl rfl ?_
  refine h_st rfl rfl ?_
  refine y_put rfl hx hc hp (by omega) (ncs (by omega)) (rfl) (Nat.le_of_ble_eq_true rfl) (ok_23 ⟨_, _, _, _, _, _, _, _, _, _, _, _, _, rfl, hzn, hla, hsp, hke⟩) (fun σ2 hx2 g2 ho => ?_)
  replace hc := g2
  clear g2 ho
  replace hx := hx2
  clear hx2
  refine h_st rfl rfl ?_
  refine h_st rfl rfl ?_
  refine h_st rfl (e_get hc rfl) ?_
  refine h_st rfl rfl ?_
  refine h_br (fun q => ?_) (fun q => ?_)
  · refine h_st rfl rfl ?_
    refine y_putI ((rfl : (1 : Int32) = nI 1)) rfl hx hc hp (by omega) (ncs (by omega)) (rfl) (Nat.le_of_ble_eq_true rfl) (ok_23 ⟨_, _, _, _, _, _, _, _, _, _, _, _, _, rfl, ⟨hzn.1, hzn.2.1, show 1 ≤ n by omega⟩, hla, hsp, hke⟩) (fun σ2 hx2 g2 ho => ?_)
    replace hc := g2
    clear g2 ho
    replace hx := hx2
    clear hx2
    refine h_st rfl rfl ?_
    refine h_st rfl rfl ?_
    refine y_put rfl hx hc hp (by omega) (ncs (by omega)) (rfl) (Nat.le_of_ble_eq_true rfl) (ok_23 ⟨_, _, _, _, _, _, _, _, _, _, _, _, _, rfl, ⟨hzn.1, hzn.2.1, show 1 ≤ n by omega⟩, hla, hsp, hke⟩) (fun σ2 hx2 g2 ho => ?_)
    replace hc := g2
    clear g2 ho
    replace hx := hx2
    clear hx2
    refine h_st rfl rfl ?_
    exact h_rt rfl rfl (⟨_, _, rfl, ⟨K, hx⟩, Or.inl rfl⟩)
  · refine h_st rfl rfl ?_
    refine h_st rfl (e_get hc rfl) ?_
    refine h_st rfl rfl ?_
    refine h_st rfl rfl ?_
    refine h_st rfl rfl ?_
    refine y_putI (nI_1 kc) rfl hx hc hp (by omega) (ncs (by omega)) (rfl) (Nat.le_of_ble_eq_true rfl) (ok_23 ⟨_, _, _, _, _, _, _, _, _, _, _, _, _, rfl, ⟨hzn.1, hzn.2.1, show kc + 1 ≤ n by rcases hzn.1 with ⟨z1, z2⟩ | ⟨z1, z2⟩; (have := hkc z1; omega); exact absurd z1 q⟩, hla, hsp, hke⟩) (fun σ2 hx2 g2 ho => ?_)
    replace hc := g2
    clear g2 ho
    replace hx := hx2
    clear hx2
    refine h_st rfl rfl ?_
    refine h_st rfl rfl ?_
    refine y_put rfl hx hc hp (by omega) (ncs (by omega)) (rfl) (Nat.le_of_ble_eq_true rfl) (ok_23 ⟨_, _, _, _, _, _, _, _, _, _, _, _, _, rfl, ⟨hzn.1, hzn.2.1, show kc + 1 ≤ n by rcases hzn.1 with ⟨z1, z2⟩ | ⟨z1, z2⟩; (have := hkc z1; omega); exact absurd z1 q⟩, hla, hsp, hke⟩) (fun σ2 hx2 g2 ho => ?_)
    replace hc := g2
    clear g2 ho
    replace hx := hx2
    clear hx2
    refine h_st rfl rfl ?_
    exact h_rt rfl rfl (⟨_, _, rfl, ⟨K, hx⟩, Or.inl rfl⟩)
theorem c_54b {n j : Nat} {z sk ts ta ib bn ca tm X : Int32} {la be ke fk kc : Nat} {x3 : Option Value} (hT : Ty σ K) (hp : K p = 23) (hc : σ.2[p]? = some (.inr (5, [.int z, .int sk, .ref la, .int ts, .int ta, .int ib, .int bn, .ref be, .ref ke, .int (nI fk), .int (nI kc), .int ca]))) (hzn : ((z = 1 ∧ n = 4) ∨ (z = 0 ∧ n = 1)) ∧ fk < n ∧ kc ≤ n) (hkc : z = 1 → kc < 4) (hla : K la = 20) (hbe : K be = 7) (hke : K ke = 300 + n) (hj : j < n) (hX : X = nI j) : hG ra (d + 1) 54 σ [some (.ref p), some (.int tm), some (.int X), x3] [] 45 (pI (fun σ' v => (∃ K', Ex b 0 0 K σ K' σ') ∧ (v = -1 ∨ ∃ r, v = nI r ∧ r < 12))) := by
  subst hX
  have hn16 : n ≤ 16 := by omega
  obtain ⟨f, hs, hf⟩ := hT.kD hn16 hke
  have hin : ¬ (nI j < 0 ∨ n ≤ (nI j).toNatClampNeg) := nI_in hj (by omega)
  have ej : (nI j).toNatClampNeg = j := nI_clamp (by omega)
  have hne : p ≠ ke := kne hp hke (by omega)
  obtain ⟨bq, bk, hbc, -⟩ := hT.k7 hbe
  have hx := Ex.refl (b := b) hT
  refine h_st rfl rfl ?_
  refine h_st rfl (e_get hc rfl) ?_
  refine h_st rfl rfl ?_
  refine h_st rfl (e_aa hs (by decide) hin) ?_
  refine h_nul rfl (fun hn1 => ?_) (fun r hr => ?_)
  · refine h_st rfl rfl ?_
    refine h_st rfl rfl ?_
    have hp0 : (((σ.1.1 + 1, σ.1.2 + 2), σ.2 ++ [.inr (0, cd_Datagram)]) : ae_S).2[σ.2.length]? = some (.inr (0, cd_Datagram)) := by simp
    refine h_cv1 rfl (Nat.le_of_ble_eq_true rfl) (e_rcv hp0) rfl (k_3s hp0) (fun σ2 hk => ?_)
    have hl1 : (((σ.1.1 + 1, σ.1.2 + 2), σ.2 ++ [.inr (0, cd_Datagram)]) : ae_S).2.length = σ.2.length + 1 := by simp
    rw [hl1] at hk
    have hold : ∀ q, q < σ.2.length → σ2.2[q]? = σ.2[q]? := fun q hq => (hk.2.2.2.2 q (by rw [hl1]; omega) (by omega)).trans (List.getElem?_append_left hq)
    have l1 := hT.lt (p := p) (by omega)
    have l2 := hT.lt (p := ke) (by omega)
    have l3 := hT.lt (p := be) (by omega)
    obtain ⟨K2, hk5, hk6, hm, hx⟩ := hx.two (ka := 7) (kb := 8) (c1 := 2) (c2 := 1002) (σ2 := σ2) hk.1 hk.2.1 hold (hk.at 0 rfl) (hk.at 1 rfl) rfl rfl (fun K' _ e => ok_7 ⟨_, 0, rfl, by omega, e⟩) (fun K' _ _ => ok_8 ⟨_, rfl, fun _ _ => by decide⟩) (by decide)
    replace hs := (hold ke l2).trans hs
    replace hc := (hold p l1).trans hc
    replace hbc := (hold be l3).trans hbc
    have hke2 := (hm ke (by omega)).trans hke
    have hbe2 := (hm be (by omega)).trans hbe
    refine h_st rfl rfl ?_
    refine h_st rfl rfl ?_
    refine h_st rfl rfl ?_
    refine h_st rfl (e_get hc rfl) ?_
    refine h_st rfl rfl ?_
    refine h_st rfl rfl ?_
    refine h_st rfl (e_get hc rfl) ?_
    refine y_aasN (a := 2) (e := 1002) rfl hx rfl hs hbc (by decide) hke2 (by omega) (ncs (by omega)) hin hn1 (ok_D hn16 ⟨_, rfl, up_kd (fun i r hi hr => (hm r (by rw [hf i r hi hr]; decide)).trans (hf i r hi hr)) hbe2⟩) (fun σ3 hx3 g3 ho => ?_)
    replace hc := (ho p hne).trans hc
    exact c_54c hx3 ((hm p (by omega)).trans hp) hc hzn hkc ((hm la (by omega)).trans hla) hke2 hk5
  · refine h_st rfl rfl ?_
    refine h_st rfl (e_get hc rfl) ?_
    refine h_st rfl rfl ?_
    refine h_st rfl ((e_aa hs (by decide) hin).trans (by rw [hr])) ?_
    refine h_st rfl rfl ?_
    refine h_st rfl rfl ?_
    refine h_st rfl (e_get hc rfl) ?_
    refine h_st rfl rfl ?_
    refine h_st rfl rfl ?_
    refine h_st rfl (e_get hc rfl) ?_
    refine y_aas rfl hx hs hbc (by decide) hke (by omega) (ncs (by omega)) hin (ok_D hn16 ⟨_, rfl, up_kd hf hbe⟩) (fun σ3 hx3 g3 ho => ?_)
    replace hc := (ho p hne).trans hc
    exact c_54c hx3 hp hc hzn hkc hla hke (hf j r hj (by rw [← ej]; exact hr))
theorem c_54 (hT : Ty σ K) (hp : K p = 23) (tm : Int32) : hE ra (d + 2) 54 [.ref p, .int tm] σ (pI (fun σ' v => (∃ K', Ex b 0 0 K σ K' σ') ∧ (v = -1 ∨ ∃ r, v = nI r ∧ r < 12))) := by
  obtain ⟨n, z, sk, la, ts, ta, ib, bn, be, ke, fk, kc, ca, hc, hzn, hla, hbe, hke⟩ := hT.k23 hp
  have hzn0 := hzn
  have hn16 : n ≤ 16 := by omega
  obtain ⟨f, hs, hf⟩ := hT.kD hn16 hke
  refine h_in rfl rfl (Nat.le_of_ble_eq_true rfl) ?_
  rcases hzn.1 with ⟨z1, z2⟩ | ⟨z1, z2⟩
  · subst z1
    subst z2
    refine h_st rfl rfl ?_
    refine h_st rfl (e_get hc rfl) ?_
    refine h_st rfl rfl ?_
    refine h_pc (if_neg (by decide)) ?_
    refine h_st rfl rfl ?_
    refine h_st rfl (e_get hc rfl) ?_
    refine h_st rfl rfl ?_
    refine h_st rfl (e_get hc rfl) ?_
    refine h_st rfl (e_len hs (by decide)) ?_
    refine h_st rfl rfl ?_
    refine h_br (fun q => ?_) (fun q => ?_)
    · have hk4 : kc < 4 := (nI_ltI (by omega) (by decide)).mp (show nI kc < nI 4 from q)
      have er : nI fk + nI kc - (nI fk + nI kc) / 4 * 4 = nI ((fk + kc) % 4) := by rw [nI_add]; exact pk_rem (a := fk + kc) (d := 4) (by omega) (by decide) (by decide)
      refine h_st rfl rfl ?_
      refine h_st rfl (e_get hc rfl) ?_
      refine h_st rfl rfl ?_
      refine h_pc (if_neg (by decide)) ?_
      refine h_st rfl rfl ?_
      refine h_st rfl (e_get hc rfl) ?_
      refine h_st rfl rfl ?_
      refine h_st rfl (e_get hc rfl) ?_
      refine h_st rfl rfl ?_
      refine h_st rfl rfl ?_
      refine h_st rfl (e_dv (by decide)) ?_
      refine h_st rfl rfl ?_
      refine h_st rfl rfl ?_
      exact c_54b (j := (fk + kc) % 4) hT hp hc hzn0 (fun _ => hk4) hla hbe hke (Nat.mod_lt _ (by decide)) er
    · refine h_st rfl rfl ?_
      exact h_rt rfl rfl (⟨_, _, rfl, ⟨K, Ex.refl hT⟩, Or.inr ⟨11, rfl, by decide⟩⟩)
  · subst z1
    subst z2
    refine h_st rfl rfl ?_
    refine h_st rfl (e_get hc rfl) ?_
    refine h_st rfl rfl ?_
    refine h_pc (if_pos (by decide)) ?_
    refine h_st rfl rfl ?_
    refine h_st rfl (e_get hc rfl) ?_
    refine h_st rfl rfl ?_
    refine h_pc (if_pos (by decide)) ?_
    refine h_st rfl rfl ?_
    refine h_st rfl rfl ?_
    exact c_54b (j := 0) hT hp hc hzn0 (fun z => absurd z (by decide)) hla hbe hke (by decide) rfl
end TY6
