section TYD
variable {ra : ae_R} {d : Nat} {σ σ0 σ' : ae_S} {p : Nat} {K K0 : Nat → Nat} {b : Bool} {s t : Nat}
theorem c_14x {nu ga hi qu pa me se op : Int32} {so mo po ac wa fi co : Nat} (hT : Ty σ K) (hp : K p = 18) (hk : σ.2[p]? = some (.inr (4, [.int nu, .int (nI so), .int ga, .int (nI mo), .int hi, .int qu, .int pa, .ref po, .ref ac, .ref wa, .int (nI fi), .int (nI co), .int me, .int se, .int op]))) (hb : so < 4 ∧ (64 ≤ mo ∧ mo ≤ 128) ∧ fi < 8 ∧ co ≤ 8) (h19 : K po = 19) (h20 : K ac = 20) (h21 : K wa = 21) : hE ra (d + 2) 14 [.ref p] σ (pI (fun σ' _ => Ex false 0 0 K σ K σ' ∧ (∀ q, q ≠ p → σ'.2[q]? = σ.2[q]?) ∧ ∃ se', σ'.2[p]? = some (.inr (4, [.int nu, .int (nI so), .int ga, .int (nI mo), .int hi, .int qu, .int pa, .ref po, .ref ac, .ref wa, .int (nI fi), .int (nI co), .int me, .int se', .int op])))) := by
  have hx := Ex.refl (b := false) hT
  have hoo : ∀ q, q ≠ p → σ.2[q]? = σ.2[q]? := fun _ _ => rfl
  refine h_in rfl rfl (Nat.le_of_ble_eq_true rfl) ?_
  refine h_st rfl rfl ?_
  refine h_st rfl rfl ?_
  refine h_st rfl (e_get hk rfl) ?_
  refine h_st rfl rfl ?_
  refine h_st rfl rfl ?_
  refine h_br (fun q => ?_) (fun q => ?_)
  · refine h_st rfl rfl ?_
    refine h_st rfl (e_get hk rfl) ?_
    refine h_ci1 rfl (Nat.le_of_ble_eq_true rfl) rfl rfl (c_15 _) (fun σ' y hy => ?_)
    subst hy
    refine y_put rfl hx hk hp (by omega) (ncf (by omega)) (rfl) (Nat.le_of_ble_eq_true rfl) (ok_18 ⟨_, _, _, _, _, _, _, _, _, _, _, _, _, _, _, rfl, hb, h19, h20, h21⟩) (fun σ2 hx2 g2 ho => ?_)
    replace hoo := fun q z => (ho q z).trans (hoo q z)
    replace hk := g2
    clear g2 ho
    replace hx := hx2
    clear hx2
    refine h_st rfl rfl ?_
    refine h_st rfl (e_get hk rfl) ?_
    exact h_rt rfl rfl (⟨_, _, rfl, hx, hoo, _, hk⟩)
  · refine h_st rfl rfl ?_
    refine h_st rfl rfl ?_
    refine y_put rfl hx hk hp (by omega) (ncf (by omega)) (rfl) (Nat.le_of_ble_eq_true rfl) (ok_18 ⟨_, _, _, _, _, _, _, _, _, _, _, _, _, _, _, rfl, hb, h19, h20, h21⟩) (fun σ2 hx2 g2 ho => ?_)
    replace hoo := fun q z => (ho q z).trans (hoo q z)
    replace hk := g2
    clear g2 ho
    replace hx := hx2
    clear hx2
    refine h_st rfl rfl ?_
    refine h_st rfl (e_get hk rfl) ?_
    exact h_rt rfl rfl (⟨_, _, rfl, hx, hoo, _, hk⟩)
theorem c_12lx (hr : (ra 3).1 = 16) {nu ga hi qu pa me se op : Int32} {so mo po ac wa fi co : Nat} {fr : Nat} {x3 tm : Int32} (hS0 : S0 K0) (hp0 : K0 p = 18) (hf0 : K0 fr = 22) (hk0 : σ0.2[p]? = some (.inr (4, [.int nu, .int (nI so), .int ga, .int (nI mo), .int hi, .int qu, .int pa, .ref po, .ref ac, .ref wa, .int (nI fi), .int (nI co), .int me, .int se, .int op]))) (hn0 : σ0.2[0]? = some (.inr (7, [.ref 1, .ref 2, .ref 3, .ref 4, .ref 6, .int tm]))) (hb0 : so < 4 ∧ (64 ≤ mo ∧ mo ≤ 128) ∧ fi < 8 ∧ co ≤ 8) (h190 : K0 po = 19) (h200 : K0 ac = 20) (h210 : K0 wa = 21) : ∀ (m j : Nat) (σ : ae_S) (K : Nat → Nat) (x5 : Option Value), j + m = 2 → Ex false 0 0 K0 σ0 K σ → σ.2[0]? = σ0.2[0]? → (∀ q, K0 q = 18 → σ.2[q]? = σ0.2[q]?) → hG ra (d + 3) 12 σ [some (.ref 0), some (.ref p), some (.ref fr), some (.int x3), some (.int (nI j)), x5] [] 13 (pV (fun σ' => ∃ K', Ex false 0 0 K0 σ0 K' σ' ∧ σ'.2[0]? = σ0.2[0]? ∧ (∀ q, K0 q = 18 → q ≠ p → σ'.2[q]? = σ0.2[q]?) ∧ σ'.2[p]? = some (.inr (4, [.int nu, .int (nI so), .int ga, .int (nI mo), .int hi, .int qu, .int pa, .ref po, .ref ac, .ref wa, .int (nI fi), .int (nI co), .int me, .int se, .int (tm + ga)])))) := by
  intro m
  induction m with
  | zero =>
    intro j σ K x5 hj hx hn hu
    have hj : j = 2 := by omega
    subst hj
    have hS := hx.s0 hS0
    have hp := hx.kd hp0 (by decide)
    have h0 := hn.trans hn0
    have hk := (hu p hp0).trans hk0
    have h19 := hx.kd h190 (by decide)
    have h20 := hx.kd h200 (by decide)
    have h21 := hx.kd h210 (by decide)
    refine h_st rfl rfl ?_
    refine h_st rfl rfl ?_
    refine h_st rfl rfl ?_
    refine h_pc (if_pos (decide_eq_true (nI_le (Nat.le_refl 2) (by decide)))) ?_
    refine h_st rfl rfl ?_
    refine h_st rfl rfl ?_
    refine h_st rfl (e_get h0 rfl) ?_
    refine h_st rfl rfl ?_
    refine h_st rfl (e_get hk rfl) ?_
    refine h_st rfl rfl ?_
    refine y_put rfl hx hk hp (by omega) (ncf (by omega)) (rfl) (Nat.le_of_ble_eq_true rfl) (ok_18 ⟨_, _, _, _, _, _, _, _, _, _, _, _, _, _, _, rfl, hb0, h19, h20, h21⟩) (fun σ2 hx2 g2 ho => ?_)
    replace hn := (ho 0 (kne hS.1 hp (by decide))).trans hn
    replace hu := fun q (hq : K0 q = 18) (hqp : q ≠ p) => (ho q hqp).trans (hu q hq)
    replace hk := g2
    clear g2 ho
    replace hx := hx2
    clear hx2
    exact h_rv rfl (⟨_, rfl, K, hx, hn, hu, hk⟩)
  | succ m ih =>
    intro j σ K x5 hj hx hn hu
    have hS := hx.s0 hS0
    have hp := hx.kd hp0 (by decide)
    have hf := hx.kd hf0 (by decide)
    have h0 := hn.trans hn0
    have hk := (hu p hp0).trans hk0
    obtain ⟨a1, a2, a3, a4, a5, a6, hc⟩ := hx.ty.k22 hf
    obtain ⟨pb, k, hF, hpb⟩ := hx.ty.fr hS.2.2.2.2.1
    have d0 := kne hS.1 hS.2.2.2.2.1 (by decide)
    have d1 := kne hS.1 hpb (by decide)
    have d2 := kne hp hS.2.2.2.2.1 (by decide)
    have d3 := kne hp hpb (by decide)
    have d4 := kne hf hS.2.2.2.2.1 (by decide)
    have d5 := kne hf hpb (by decide)
    have d6 : ∀ q, K0 q = 18 → q ≠ 4 ∧ q ≠ pb := fun q hq => ⟨kne (hx.kd hq (by decide)) hS.2.2.2.2.1 (by decide), kne (hx.kd hq (by decide)) hpb (by decide)⟩
    have h18 : ∀ q, K0 q = 18 → K q = 18 := fun q hq => hx.kd hq (by decide)
    have ih1 := fun σ K x5 h1 h2 h3 => ih (j + 1) σ K x5 (by omega) h1 h2 h3
    simp only [← nI_1] at ih1
    refine h_st rfl rfl ?_
    refine h_st rfl rfl ?_
    refine h_st rfl rfl ?_
    refine h_pc (if_neg (fun z9 => (nI_ge (show j < 2 by omega) (by decide)) (of_decide_eq_true z9))) ?_
    refine h_st rfl rfl ?_
    refine h_st rfl (e_get h0 rfl) ?_
    refine h_st rfl rfl ?_
    refine h_st rfl (e_get hk rfl) ?_
    refine h_st rfl rfl ?_
    refine h_st rfl (e_get hk rfl) ?_
    refine h_st rfl rfl ?_
    refine h_st rfl rfl ?_
    refine h_st rfl (e_get hc rfl) ?_
    refine h_cv5 rfl (Nat.le_of_ble_eq_true rfl) (e_rcv hF.1) rfl (c_16 ⟨⟨_, hF.1⟩, hF.2.1.2, hF.2.2⟩ _ _ _ _) (fun σ2 hq => ?_)
    obtain ⟨k2, hF2, o2⟩ := hq
    replace hx := hx.op hS.2.2.2.2.1 hpb hF hF2 o2
    replace h0 := (o2.2.2 0 d0 d1).trans h0
    replace hn := (o2.2.2 0 d0 d1).trans hn
    replace hk := (o2.2.2 p d2 d3).trans hk
    replace hc := (o2.2.2 fr d4 d5).trans hc
    replace hu := fun q (hq : K0 q = 18) => (o2.2.2 q (d6 q hq).1 (d6 q hq).2).trans (hu q hq)
    replace hF := hF2
    clear hF2 o2
    refine h_st rfl rfl ?_
    refine h_st rfl (e_get h0 rfl) ?_
    refine h_st rfl rfl ?_
    refine h_st rfl (e_get hc rfl) ?_
    refine h_st rfl rfl ?_
    refine h_st rfl (e_get hc rfl) ?_
    refine h_st rfl rfl ?_
    refine h_st rfl (e_get hc rfl) ?_
    refine h_cv4 rfl (Nat.le_of_ble_eq_true rfl) (e_rcv hF.1) rfl (c_19 hF _ _ _) (fun σ3 hq => ?_)
    obtain ⟨hF2, o2⟩ := hq
    replace hx := hx.op hS.2.2.2.2.1 hpb hF hF2 o2
    replace h0 := (o2.2.2 0 d0 d1).trans h0
    replace hn := (o2.2.2 0 d0 d1).trans hn
    replace hk := (o2.2.2 p d2 d3).trans hk
    replace hc := (o2.2.2 fr d4 d5).trans hc
    replace hu := fun q (hq : K0 q = 18) => (o2.2.2 q (d6 q hq).1 (d6 q hq).2).trans (hu q hq)
    replace hF := hF2
    clear hF2 o2
    refine h_st rfl rfl ?_
    refine h_st rfl rfl ?_
    refine c_12i hx.ty hS hp hf hpb h0 hk hc hF (fun σ4 i hF2 o2 => ?_) _ _ _ (Nat.le_refl _) hF Op.refl
    replace hx := hx.op hS.2.2.2.2.1 hpb hF hF2 o2
    replace h0 := (o2.2.2 0 d0 d1).trans h0
    replace hn := (o2.2.2 0 d0 d1).trans hn
    replace hk := (o2.2.2 p d2 d3).trans hk
    replace hc := (o2.2.2 fr d4 d5).trans hc
    replace hu := fun q (hq : K0 q = 18) => (o2.2.2 q (d6 q hq).1 (d6 q hq).2).trans (hu q hq)
    replace hF := hF2
    clear hF2 o2
    refine h_st rfl rfl ?_
    refine h_st rfl (e_get h0 rfl) ?_
    refine h_st rfl rfl ?_
    refine h_cv2 rfl (Nat.le_of_ble_eq_true rfl) (e_rcv hF.1) rfl (c_21 hr hF _) (fun σ5 hq => ?_)
    obtain ⟨hF2, o2⟩ := hq
    replace hx := hx.op hS.2.2.2.2.1 hpb hF hF2 o2
    replace h0 := (o2.2.2 0 d0 d1).trans h0
    replace hn := (o2.2.2 0 d0 d1).trans hn
    replace hk := (o2.2.2 p d2 d3).trans hk
    replace hc := (o2.2.2 fr d4 d5).trans hc
    replace hu := fun q (hq : K0 q = 18) => (o2.2.2 q (d6 q hq).1 (d6 q hq).2).trans (hu q hq)
    replace hF := hF2
    clear hF2 o2
    refine h_st rfl rfl ?_
    refine h_st rfl rfl ?_
    refine h_st rfl rfl ?_
    refine h_st rfl (e_get hk rfl) ?_
    refine h_st rfl rfl ?_
    refine h_st rfl (e_get hk rfl) ?_
    refine h_st rfl rfl ?_
    refine h_st rfl (e_get h0 rfl) ?_
    refine h_ci5 rfl (Nat.le_of_ble_eq_true rfl) (rcv1 hx.ty hS.1) rfl (c_25t (b := true) hx.ty hS hS.2.2.2.2.1 _ _ _) (fun σ6 y hy => ?_)
    obtain ⟨-, K6, ex⟩ := hy
    replace hn := (ex.cs (Or.inl hS.1)).trans hn
    replace hu := fun q (hq : K0 q = 18) => (ex.cs (Or.inr (h18 q hq))).trans (hu q hq)
    replace hx := hx.trans ex.weak
    refine h_st rfl rfl ?_
    refine h_st rfl rfl ?_
    refine h_st rfl rfl ?_
    exact ih1 _ _ _ hx hn hu
def stp (ga t : Int32) (s : Nat × Int32) : Nat × Int32 := if s.1 = 0 ∨ t < s.2 then s else (s.1 - 1, t + ga)
theorem c_12x (hr : (ra 3).1 = 16) {nu ga hi qu pa op tm : Int32} {so mo po ac wa co : Nat} (hT : Ty σ K) (hS : S0 K) (hp : K p = 18) (hn0 : σ.2[0]? = some (.inr (7, [.ref 1, .ref 2, .ref 3, .ref 4, .ref 6, .int tm]))) (hk : Lk σ p nu ga hi qu pa op so mo po ac wa (co + 1)) : hE ra (d + 4) 12 [.ref 0, .ref p] σ (pV (fun σ' => ∃ K', Ex false 0 0 K σ K' σ' ∧ σ'.2[0]? = σ.2[0]? ∧ (∀ q, K q = 18 → q ≠ p → σ'.2[q]? = σ.2[q]?) ∧ Lk σ' p nu ga hi qu pa (tm + ga) so mo po ac wa co)) := by
  have hne := kne hS.1 hp (by decide)
  obtain ⟨h19, h20, h21⟩ := hk.kd hT hp
  obtain ⟨hb, fi, me, se, hfi, hk⟩ := hk
  refine h_in rfl rfl (Nat.le_of_ble_eq_true rfl) ?_
  refine h_st rfl rfl ?_
  refine h_cr1 rfl (Nat.le_of_ble_eq_true rfl) (rcv18 hT hp) rfl (c_13 hT hp hk ⟨hb.1, hb.2.1, hfi, hb.2.2⟩ h19 h20 h21) (fun σ1 q9 hq => ?_)
  obtain ⟨fr, rfl, hKf, hx, ho1, hk1⟩ := hq
  have hn := ho1 0 hne
  refine h_st rfl rfl ?_
  refine h_st rfl rfl ?_
  refine h_ci1 rfl (Nat.le_of_ble_eq_true rfl) (rcv18 hx.ty hp) rfl (c_14x hx.ty hp hk1 ⟨hb.1, hb.2.1, Nat.mod_lt _ (by decide), by omega⟩ h19 h20 h21) (fun σ2 y hq => ?_)
  obtain ⟨ex, ho2, se2, hk2⟩ := hq
  replace hx := hx.trans ex
  replace hn := (ho2 0 hne).trans hn
  skip
  refine h_st rfl rfl ?_
  refine h_st rfl rfl ?_
  refine h_st rfl rfl ?_
  have hx5 : ∀ x5 : Option Value, hG ra (d + 3) 12 σ2 [some (.ref 0), some (.ref p), some (.ref fr), some (.int y), some (.int (nI 0)), x5] [] 13 (pV (fun σ' => ∃ K', Ex false 0 0 K σ2 K' σ' ∧ σ'.2[0]? = σ2.2[0]? ∧ (∀ q, K q = 18 → q ≠ p → σ'.2[q]? = σ2.2[q]?) ∧ Lk σ' p nu ga hi qu pa (tm + ga) so mo po ac wa co)) := by
    intro x5
    obtain ⟨r, g1, σ9, rfl, K9, ex9, e90, e91, e92⟩ := c_12lx (ra := ra) (d := d) hr hS hp hKf hk2 (hn.trans hn0) ⟨hb.1, hb.2.1, Nat.mod_lt _ (by decide), by omega⟩ h19 h20 h21 2 0 σ2 K x5 rfl (Ex.refl hx.ty) rfl (fun _ _ => rfl)
    exact ⟨_, g1, σ9, rfl, K9, ex9, e90, e91, ⟨hb.1, hb.2.1, by omega⟩, _, _, _, Nat.mod_lt _ (by decide), e92⟩
  obtain ⟨r, g1, σ9, rfl, K9, ex9, e90, e91, e92⟩ := hx5 none
  exact ⟨_, g1, σ9, rfl, K9, hx.trans ex9, e90.trans hn, fun q hq hqp => (e91 q hq hqp).trans ((ho2 q hqp).trans (ho1 q hqp)), e92⟩
theorem nI_inj8 {a c : Nat} (ha : a < 8) (hc : c < 8) (h : nI a = nI c) : a = c := by
  have := congrArg Int32.toNatClampNeg h
  rwa [nI_clamp (by omega), nI_clamp (by omega)] at this
theorem Lk.nu {q : Nat} {nu ga hi qu pa op nu' ga' hi' qu' pa' op' : Int32} {so mo po ac wa co so' mo' po' ac' wa' co' : Nat} (h : Lk σ q nu ga hi qu pa op so mo po ac wa co) (h2 : Lk σ q nu' ga' hi' qu' pa' op' so' mo' po' ac' wa' co') : nu = nu' := by
  obtain ⟨_, fi, me, se, _, e1⟩ := h
  obtain ⟨_, fi', me', se', _, e2⟩ := h2
  rw [e1] at e2
  simp only [Option.some.injEq, Sum.inr.injEq, Prod.mk.injEq, List.cons.injEq, Value.int.injEq, true_and] at e2
  exact e2.1
theorem k18_of {f : Nat → Option Nat} (hT : Ty σ K) (hS : S0 K) (hs : σ.2[1]? = some (.inl (4, rfs 8 f))) : ∀ i q, i < 8 → f i = some q → K q = 18 := by
  obtain ⟨f', h1, h2⟩ := hT.k2 hS.2.1
  rw [hs] at h1
  simp only [Option.some.injEq, Sum.inl.injEq, Prod.mk.injEq, Sum.inr.injEq, true_and] at h1
  subst h1
  exact h2
theorem nu_inj {i j : Nat} (hi : i < 8) (hj : j < 8) (h : nI i = nI j) : i = j := nI_inj8 hi hj h
/-- all links' cells -/
def Ls (σ : ae_S) (f : Nat → Option Nat) (ga hi qu pa : Nat → Int32) (so mo po ac wa : Nat → Nat) (s : Nat → Nat × Int32) : Prop := ∀ i q, i < 8 → f i = some q → Lk σ q (nI i) (ga i) (hi i) (qu i) (pa i) (s i).2 (so i) (mo i) (po i) (ac i) (wa i) (s i).1
theorem Ls.same {f : Nat → Option Nat} {ga hi qu pa : Nat → Int32} {so mo po ac wa : Nat → Nat} {s : Nat → Nat × Int32} (h : Ls σ f ga hi qu pa so mo po ac wa s) (e : ∀ i q, i < 8 → f i = some q → σ'.2[q]? = σ.2[q]?) : Ls σ' f ga hi qu pa so mo po ac wa s := fun i q hi hq => (h i q hi hq).same (e i q hi hq)
theorem Ls.eq {f : Nat → Option Nat} {ga hi qu pa : Nat → Int32} {so mo po ac wa : Nat → Nat} {s s' : Nat → Nat × Int32} (h : Ls σ f ga hi qu pa so mo po ac wa s) (e : ∀ i, i < 8 → f i ≠ none → s' i = s i) : Ls σ f ga hi qu pa so mo po ac wa s' := fun i q hi hq => by
  rw [e i hi (by rw [hq]; exact fun z => by cases z)]
  exact h i q hi hq
theorem nI_z {a : Nat} (ha : a ≤ 8) (h : nI a ≤ 0) : a = 0 := Nat.le_zero.mp ((nI_leI (b := 0) (by omega) (by decide)).mp h)
theorem c_11lx (hr : (ra 3).1 = 16) {tm : Int32} {f : Nat → Option Nat} {gaf hif quf paf : Nat → Int32} {sof mof pof acf waf : Nat → Nat} {sf : Nat → Nat × Int32} (hS0 : S0 K0) (hs0 : σ0.2[1]? = some (.inl (4, rfs 8 f))) (hn0 : σ0.2[0]? = some (.inr (7, [.ref 1, .ref 2, .ref 3, .ref 4, .ref 6, .int tm]))) : ∀ (m j : Nat) (σ : ae_S) (K : Nat → Nat) (x4 : Option Value), j + m = 8 → Ex false 0 0 K0 σ0 K σ → σ.2[0]? = σ0.2[0]? → Ls σ f gaf hif quf paf sof mof pof acf waf (fun i => if i < j then stp (gaf i) tm (sf i) else sf i) → hG ra (d + 4) 11 σ [some (.ref 0), some (.ref 1), some (.int (nI 8)), some (.int (nI j)), x4] [] 10 (pV (fun σ' => ∃ K', Ex false 0 0 K0 σ0 K' σ' ∧ σ'.2[0]? = σ0.2[0]? ∧ Ls σ' f gaf hif quf paf sof mof pof acf waf (fun i => stp (gaf i) tm (sf i)))) := by
  intro m
  induction m with
  | zero =>
    intro j σ K x4 hj hx hn hL
    have hj : j = 8 := by omega
    subst hj
    refine h_st rfl rfl ?_
    refine h_st rfl rfl ?_
    refine h_st rfl rfl ?_
    refine h_pc (if_pos (decide_eq_true (nI_le (Nat.le_refl 8) (by decide)))) ?_
    exact h_rv rfl (⟨_, rfl, K, hx, hn, hL.eq (fun i hi _ => (if_pos hi).symm)⟩)
  | succ m ih =>
    intro j σ K x4 hj hx hn hL
    have hS := hx.s0 hS0
    have h0 := hn.trans hn0
    have hs := (hx.c1 hS0.2.1).trans hs0
    have hf := k18_of hx.ty hS hs
    have ih1 := fun σ K x4 h1 h2 h3 => ih (j + 1) σ K x4 (by omega) h1 h2 h3
    simp only [← nI_1] at ih1
    have hin : ¬ (nI j < 0 ∨ 8 ≤ (nI j).toNatClampNeg) := nI_in (by omega) (by decide)
    have ej : (nI j).toNatClampNeg = j := nI_clamp (by omega)
    have hsame : ∀ i, i ≠ j → (if i < j + 1 then stp (gaf i) tm (sf i) else sf i) = (if i < j then stp (gaf i) tm (sf i) else sf i) := fun i hi => by
      by_cases e : i < j
      · rw [if_pos e, if_pos (by omega)]
      · rw [if_neg e, if_neg (by omega)]
    cases hv : f (nI j).toNatClampNeg with
    | none =>
      have hL2 : Ls σ f gaf hif quf paf sof mof pof acf waf (fun i => if i < j + 1 then stp (gaf i) tm (sf i) else sf i) := hL.eq (fun i hi hfi => hsame i (fun e => hfi (by rw [e, ← ej]; exact hv)))
      refine h_st rfl rfl ?_
      refine h_st rfl rfl ?_
      refine h_st rfl rfl ?_
      refine h_pc (if_neg (fun z9 => (nI_ge (show j < 8 by omega) (by decide)) (of_decide_eq_true z9))) ?_
      refine h_st rfl rfl ?_
      refine h_st rfl rfl ?_
      refine h_st rfl ((e_aa hs (by decide) hin).trans (by rw [hv])) ?_
      refine h_st rfl rfl ?_
      refine h_st rfl rfl ?_
      refine h_st rfl rfl ?_
      refine h_st rfl rfl ?_
      refine h_st rfl rfl ?_
      exact ih1 _ _ _ hx hn hL2
    | some p =>
      have hvj : f j = some p := by rw [← ej]; exact hv
      have hp := hf j p (by omega) hvj
      have hLj := hL j p (by omega) hvj
      simp only [Nat.lt_irrefl, if_false] at hLj
      have hnop : stp (gaf j) tm (sf j) = sf j → Ls σ f gaf hif quf paf sof mof pof acf waf (fun i => if i < j + 1 then stp (gaf i) tm (sf i) else sf i) := fun e => hL.eq (fun i hi hfi => by
        by_cases e2 : i = j
        · rw [e2, if_pos (Nat.lt_succ_self j), if_neg (Nat.lt_irrefl j)]
          exact e
        · exact hsame i e2)
      obtain ⟨hb, fi, me, se, hfi, hk⟩ := hLj
      refine h_st rfl rfl ?_
      refine h_st rfl rfl ?_
      refine h_st rfl rfl ?_
      refine h_pc (if_neg (fun z9 => (nI_ge (show j < 8 by omega) (by decide)) (of_decide_eq_true z9))) ?_
      refine h_st rfl rfl ?_
      refine h_st rfl rfl ?_
      refine h_st rfl ((e_aa hs (by decide) hin).trans (by rw [hv])) ?_
      refine h_st rfl rfl ?_
      refine h_st rfl rfl ?_
      refine h_st rfl rfl ?_
      refine h_st rfl rfl ?_
      refine h_st rfl (e_get hk rfl) ?_
      refine h_st rfl rfl ?_
      refine h_br (fun q1 => ?_) (fun q1 => ?_)
      · refine h_st rfl rfl ?_
        refine h_st rfl rfl ?_
        exact ih1 _ _ _ hx hn (hnop (if_pos (Or.inl (nI_z hb.2.2 q1))))
      · obtain ⟨c', hc'⟩ : ∃ c', (sf j).1 = c' + 1 := ⟨(sf j).1 - 1, by cases h : (sf j).1 with | zero => exact absurd (show nI (sf j).1 ≤ 0 by rw [h]; decide) q1 | succ m => rfl⟩
        refine h_st rfl rfl ?_
        refine h_st rfl (e_get h0 rfl) ?_
        refine h_st rfl rfl ?_
        refine h_st rfl (e_get hk rfl) ?_
        refine h_st rfl rfl ?_
        refine h_br (fun q2 => ?_) (fun q2 => ?_)
        · refine h_st rfl rfl ?_
          refine h_st rfl rfl ?_
          exact ih1 _ _ _ hx hn (hnop (if_pos (Or.inr q2)))
        · have est : stp (gaf j) tm (sf j) = (c', tm + gaf j) := by
            unfold stp
            rw [if_neg (fun z => z.elim (fun y => by omega) q2), hc']
            rfl
          refine h_st rfl rfl ?_
          refine h_st rfl rfl ?_
          refine h_cv2 rfl (Nat.le_of_ble_eq_true rfl) (rcv1 hx.ty hS.1) rfl (c_12x hr hx.ty hS hp h0 (hc' ▸ (⟨hb, fi, me, se, hfi, hk⟩ : Lk σ p (nI j) (gaf j) (hif j) (quf j) (paf j) (sf j).2 (sof j) (mof j) (pof j) (acf j) (waf j) (sf j).1))) (fun σ2 hq => ?_)
          obtain ⟨K2, ex, hn2, hoth, hLp⟩ := hq
          have hL2 : Ls σ2 f gaf hif quf paf sof mof pof acf waf (fun i => if i < j + 1 then stp (gaf i) tm (sf i) else sf i) := by
            intro i q hi hq
            by_cases e2 : i = j
            · subst e2
              have eq : q = p := by rw [hvj] at hq; cases hq; rfl
              subst eq
              simp only [if_pos (Nat.lt_succ_self i), est]
              exact hLp
            · have hqp : q ≠ p := fun e => e2 (nu_inj hi (by omega) ((hL i q hi hq).nu (e ▸ hL j p (by omega) hvj)))
              have := (hL i q hi hq).same (hoth q (hf i q hi hq) hqp)
              simp only [hsame i e2]
              exact this
          replace hx := hx.trans ex
          replace hn := hn2.trans hn
          refine h_st rfl rfl ?_
          refine h_st rfl rfl ?_
          exact ih1 _ _ _ hx hn hL2
theorem c_11x (hr : (ra 3).1 = 16) {tm : Int32} {f : Nat → Option Nat} {gaf hif quf paf : Nat → Int32} {sof mof pof acf waf : Nat → Nat} {sf : Nat → Nat × Int32} (hT : Ty σ K) (hS : S0 K) (hs0 : σ.2[1]? = some (.inl (4, rfs 8 f))) (hn0 : σ.2[0]? = some (.inr (7, [.ref 1, .ref 2, .ref 3, .ref 4, .ref 6, .int tm]))) (hL : Ls σ f gaf hif quf paf sof mof pof acf waf (sf)) : hE ra (d + 5) 11 [.ref 0] σ (pV (fun σ' => ∃ K', Ex false 0 0 K σ K' σ' ∧ σ'.2[0]? = σ.2[0]? ∧ Ls σ' f gaf hif quf paf sof mof pof acf waf (fun i => stp (gaf i) tm (sf i)))) := by
  refine h_in rfl rfl (Nat.le_of_ble_eq_true rfl) ?_
  refine h_st rfl rfl ?_
  refine h_st rfl (e_get hn0 rfl) ?_
  refine h_st rfl rfl ?_
  refine h_st rfl rfl ?_
  refine h_st rfl (e_len hs0 (by decide)) ?_
  refine h_st rfl rfl ?_
  refine h_st rfl rfl ?_
  refine h_st rfl rfl ?_
  exact c_11lx hr hS hs0 hn0 8 0 _ _ _ rfl (Ex.refl hT) rfl (hL.eq (fun i _ _ => if_neg (Nat.not_lt_zero _)))
theorem c_7bx {f : Nat → Option Nat} {gaf hif quf paf : Nat → Int32} {sof mof pof acf waf : Nat → Nat} {sf : Nat → Nat × Int32} (hs : σ.2[1]? = some (.inl (4, rfs 8 f))) (hL : Ls σ f gaf hif quf paf sof mof pof acf waf (sf)) : ∀ (m j : Nat) (x4 : Option Value), j + m = 8 → (∀ i, i < j → f i ≠ none → (sf i).1 = 0) → hG ra (d + 1) 7 σ [some (.ref 0), some (.ref 1), some (.int (nI 8)), some (.int (nI j)), x4] [] 68 (pI (fun σ' x => σ' = σ ∧ (x ≠ 0 → ∀ i, i < 8 → f i ≠ none → (sf i).1 = 0))) := by
  intro m
  induction m with
  | zero =>
    intro j x4 hj hz
    have hj : j = 8 := by omega
    subst hj
    refine h_st rfl rfl ?_
    refine h_st rfl rfl ?_
    refine h_st rfl rfl ?_
    refine h_pc (if_pos (decide_eq_true (nI_le (Nat.le_refl 8) (by decide)))) ?_
    refine h_st rfl rfl ?_
    exact h_rt rfl rfl (⟨_, _, rfl, rfl, fun _ => hz⟩)
  | succ m ih =>
    intro j x4 hj hz
    have ih1 := fun x4 h => ih (j + 1) x4 (by omega) h
    simp only [← nI_1] at ih1
    have hin : ¬ (nI j < 0 ∨ 8 ≤ (nI j).toNatClampNeg) := nI_in (by omega) (by decide)
    have ej : (nI j).toNatClampNeg = j := nI_clamp (by omega)
    have hgo : (f j ≠ none → (sf j).1 = 0) → ∀ i, i < j + 1 → f i ≠ none → (sf i).1 = 0 := fun h i hi hf => by
      by_cases e : i = j
      · subst e
        exact h hf
      · exact hz i (by omega) hf
    cases hv : f (nI j).toNatClampNeg with
    | none =>
      refine h_st rfl rfl ?_
      refine h_st rfl rfl ?_
      refine h_st rfl rfl ?_
      refine h_pc (if_neg (fun z9 => (nI_ge (show j < 8 by omega) (by decide)) (of_decide_eq_true z9))) ?_
      refine h_st rfl rfl ?_
      refine h_st rfl rfl ?_
      refine h_st rfl ((e_aa hs (by decide) hin).trans (by rw [hv])) ?_
      refine h_st rfl rfl ?_
      refine h_st rfl rfl ?_
      refine h_st rfl rfl ?_
      refine h_st rfl rfl ?_
      refine h_st rfl rfl ?_
      exact ih1 _ (hgo (fun h => absurd (by rw [← ej]; exact hv) h))
    | some q =>
      obtain ⟨hb, fi, me, se, hfi, hk⟩ := hL j q (by omega) (by rw [← ej]; exact hv)
      refine h_st rfl rfl ?_
      refine h_st rfl rfl ?_
      refine h_st rfl rfl ?_
      refine h_pc (if_neg (fun z9 => (nI_ge (show j < 8 by omega) (by decide)) (of_decide_eq_true z9))) ?_
      refine h_st rfl rfl ?_
      refine h_st rfl rfl ?_
      refine h_st rfl ((e_aa hs (by decide) hin).trans (by rw [hv])) ?_
      refine h_st rfl rfl ?_
      refine h_st rfl rfl ?_
      refine h_st rfl rfl ?_
      refine h_st rfl rfl ?_
      refine h_st rfl (e_get hk rfl) ?_
      refine h_st rfl rfl ?_
      refine h_br (fun q1 => ?_) (fun q1 => ?_)
      · refine h_st rfl rfl ?_
        refine h_st rfl rfl ?_
        exact ih1 _ (hgo (fun _ => nI_z hb.2.2 q1))
      · refine h_st rfl rfl ?_
        exact h_rt rfl rfl (⟨_, _, rfl, rfl, fun z => absurd rfl z⟩)
theorem c_7x {f : Nat → Option Nat} {gaf hif quf paf : Nat → Int32} {sof mof pof acf waf : Nat → Nat} {sf : Nat → Nat × Int32} (hT : Ty σ K) (hS : S0 K) (hs : σ.2[1]? = some (.inl (4, rfs 8 f))) (hL : Ls σ f gaf hif quf paf sof mof pof acf waf (sf)) : hE ra (d + 2) 7 [.ref 0] σ (pI (fun σ' x => σ' = σ ∧ (x ≠ 0 → ∀ i, i < 8 → f i ≠ none → (sf i).1 = 0))) := by
  obtain ⟨tm, h0⟩ := hT.k1 hS.1
  obtain ⟨f3, hs3, hf3⟩ := hT.k3 hS.2.2.1
  refine h_in rfl rfl (Nat.le_of_ble_eq_true rfl) ?_
  refine h_st rfl rfl ?_
  refine h_st rfl (e_get h0 rfl) ?_
  refine h_st rfl rfl ?_
  refine h_st rfl rfl ?_
  refine h_st rfl (e_len hs3 (by decide)) ?_
  refine h_st rfl rfl ?_
  refine h_st rfl rfl ?_
  refine h_st rfl rfl ?_
  refine c_7at hT hS ⟨_, _, rfl, rfl, fun z => absurd rfl z⟩ (fun x4 => ?_) 24 0 _ rfl
  refine h_st rfl rfl ?_
  refine h_st rfl (e_get h0 rfl) ?_
  refine h_st rfl rfl ?_
  refine h_st rfl rfl ?_
  refine h_st rfl (e_len hs (by decide)) ?_
  refine h_st rfl rfl ?_
  refine h_st rfl rfl ?_
  refine h_st rfl rfl ?_
  exact c_7bx hs hL 8 0 _ rfl (fun i hi => absurd hi (Nat.not_lt_zero _))
theorem c_9x (hT : Ty σ K) (hS : S0 K) (x : Int32) : hE ra (d + 2) 9 [.ref 0, .int x] σ (pV (fun σ' => Ex false 0 0 K σ K σ' ∧ (∀ tm, σ.2[0]? = some (.inr (7, [.ref 1, .ref 2, .ref 3, .ref 4, .ref 6, .int tm])) → σ'.2[0]? = some (.inr (7, [.ref 1, .ref 2, .ref 3, .ref 4, .ref 6, .int (tm + x)]))) ∧ ∀ q, K q = 18 → σ'.2[q]? = σ.2[q]?)) := by
  obtain ⟨tm, h0⟩ := hT.k1 hS.1
  obtain ⟨f2, hs2, hf2⟩ := hT.k2 hS.2.1
  have hx := Ex.refl (b := true) hT
  refine h_in rfl rfl (Nat.le_of_ble_eq_true rfl) ?_
  refine h_st rfl rfl ?_
  refine h_st rfl (e_get h0 rfl) ?_
  refine h_st rfl rfl ?_
  refine h_st rfl rfl ?_
  refine h_st rfl (e_len hs2 (by decide)) ?_
  refine h_st rfl rfl ?_
  refine h_st rfl rfl ?_
  refine h_st rfl rfl ?_
  refine c_9l hS (fun σ9 x5 hx => ?_) 8 0 _ _ rfl hx
  have h9 := (hx.cs (Or.inl hS.1)).trans h0
  have h18 : ∀ q, K q = 18 → σ9.2[q]? = σ.2[q]? := fun q hq => hx.cs (Or.inr hq)
  replace hx : Ex false 0 0 K σ K σ9 := hx.weak
  refine h_st rfl rfl ?_
  refine h_st rfl rfl ?_
  refine h_st rfl (e_get h9 rfl) ?_
  refine h_st rfl rfl ?_
  refine h_st rfl rfl ?_
  refine y_put rfl hx h9 hS.1 (by omega) (ncf (by omega)) (rfl) (Nat.le_of_ble_eq_true rfl) (ok_1 ⟨_, rfl⟩) (fun σ2 hx2 g2 ho => ?_)
  replace h18 := fun q (hq : K q = 18) => (ho q (kne hq hS.1 (by decide))).trans (h18 q hq)
  replace h9 := g2
  clear g2 ho
  replace hx := hx2
  clear hx2
  exact h_rv rfl (⟨_, rfl, hx, fun t9 ht9 => by rw [h0] at ht9; cases ht9; exact h9, h18⟩)
def itr (ga tm : Int32) : Nat → Nat × Int32 → Nat × Int32
  | 0, s => s
  | k + 1, s => stp ga (tm + nI k) (itr ga tm k s)
theorem itr_q {ga tm : Int32} {s : Nat × Int32} {k : Nat} (h : (itr ga tm k s).1 = 0) : ∀ m, itr ga tm (k + m) s = itr ga tm k s
  | 0 => rfl
  | m + 1 => by
    show stp ga (tm + nI (k + m)) (itr ga tm (k + m) s) = _
    rw [itr_q h m]
    exact if_pos (Or.inl h)
theorem c_6lx {n : Nat} {tm x1 : Int32} {f : Nat → Option Nat} {gaf hif quf paf : Nat → Int32} {sof mof pof acf waf : Nat → Nat} {sf : Nat → Nat × Int32} (hr : (ra 3).1 = 16) (h1 : (ra 1).1 = 12) (h2 : (ra 2).1 = 12) (hn : n ≤ 2000) (hS0 : S0 K0) (hs0 : σ0.2[1]? = some (.inl (4, rfs 8 f))) : ∀ (m j : Nat) (σ : ae_S) (K : Nat → Nat), j + m = n → Ex false 0 0 K0 σ0 K σ → σ.2[0]? = some (.inr (7, [.ref 1, .ref 2, .ref 3, .ref 4, .ref 6, .int (tm + nI j)])) → Ls σ f gaf hif quf paf sof mof pof acf waf (fun i => itr (gaf i) tm j (sf i)) → hG ra (d + 5) 6 σ [some (.ref 0), some (.int x1), some (.int (nI n)), some (.int (nI j))] [] 19 (pI (fun σ' v => ∃ K', Ex false 0 0 K0 σ0 K' σ' ∧ σ'.2[0]? = some (.inr (7, [.ref 1, .ref 2, .ref 3, .ref 4, .ref 6, .int (tm + nI n)])) ∧ v = tm + nI n ∧ Ls σ' f gaf hif quf paf sof mof pof acf waf (fun i => itr (gaf i) tm n (sf i)))) := by
  intro m
  induction m with
  | zero =>
    intro j σ K hj hx h0 hL
    have hj : j = n := by omega
    subst hj
    refine h_st rfl rfl ?_
    refine h_st rfl rfl ?_
    refine h_st rfl rfl ?_
    refine h_pc (if_pos (decide_eq_true (nI_le (Nat.le_refl _) (by omega)))) ?_
    refine h_st rfl rfl ?_
    refine h_st rfl (e_get h0 rfl) ?_
    exact h_rt rfl rfl (⟨_, _, rfl, K, hx, h0, rfl, hL⟩)
  | succ m ih =>
    intro j σ K hj hx h0 hL
    have hS := hx.s0 hS0
    have hs := (hx.c1 hS0.2.1).trans hs0
    have hf := k18_of hx.ty hS hs
    have ih1 := fun σ K h1 h2 h3 => ih (j + 1) σ K (by omega) h1 h2 h3
    simp only [← nI_1] at ih1
    have ea : tm + nI j + (nI n - nI j) = tm + nI n := by rw [pk_sub (by omega), Int32.add_assoc, nI_add]; congr 2; omega
    have eb : tm + nI j + 1 = tm + (nI j + 1) := Int32.add_assoc _ _ _
    refine h_st rfl rfl ?_
    refine h_st rfl rfl ?_
    refine h_st rfl rfl ?_
    refine h_pc (if_neg (fun z9 => (nI_ge (show j < n by omega) (by omega)) (of_decide_eq_true z9))) ?_
    refine h_st rfl rfl ?_
    refine h_ci1 rfl (Nat.le_of_ble_eq_true rfl) (rcv1 hx.ty hS.1) rfl (c_7x hx.ty hS hs hL) (fun σ' y hy => ?_)
    obtain ⟨hss, hqt⟩ := hy
    replace hss := hss.symm
    subst hss
    refine h_st rfl rfl ?_
    refine h_br (fun q1 => ?_) (fun q1 => ?_)
    · refine h_st rfl rfl ?_
      refine h_cv1 rfl (Nat.le_of_ble_eq_true rfl) (rcv1 hx.ty hS.1) rfl (c_11x hr hx.ty hS hs h0 hL) (fun σ2 hq => ?_)
      obtain ⟨K2, ex, hn2, hL2⟩ := hq
      replace hx := hx.trans ex
      have hf2 := fun i q hi hq => ex.kd (hf i q hi hq) (by decide)
      replace hS := ex.s0 hS
      replace h0 := hn2.trans h0
      refine h_st rfl rfl ?_
      refine h_cv1 rfl (Nat.le_of_ble_eq_true rfl) (rcv1 hx.ty hS.1) rfl (c_31t (b := true) hx.ty hS hr h1 h2) (fun σ3 hq => ?_)
      obtain ⟨K3, ex3⟩ := hq
      replace h0 := (ex3.cs (Or.inl hS.1)).trans h0
      replace hL2 := hL2.same (fun i q hi hq => ex3.cs (Or.inr (hf2 i q hi hq)))
      replace hf2 := fun i q hi hq => ex3.kd (hf2 i q hi hq) (by decide)
      replace hx := hx.trans ex3.weak
      replace hS := ex3.s0 hS
      refine h_st rfl rfl ?_
      refine h_cv1 rfl (Nat.le_of_ble_eq_true rfl) (rcv1 hx.ty hS.1) rfl (c_58t (b := true) hx.ty hS) (fun σ4 ex4 => ?_)
      replace h0 := (ex4.cs (Or.inl hS.1)).trans h0
      replace hL2 := hL2.same (fun i q hi hq => ex4.cs (Or.inr (hf2 i q hi hq)))
      replace hx := hx.trans ex4.weak
      refine h_st rfl rfl ?_
      refine h_st rfl rfl ?_
      refine h_cv2 rfl (Nat.le_of_ble_eq_true rfl) (rcv1 hx.ty hS.1) rfl (c_9x hx.ty hS 1) (fun σ5 hq => ?_)
      obtain ⟨ex5, ht, h18⟩ := hq
      replace hL2 := hL2.same (fun i q hi hq => h18 q (hf2 i q hi hq))
      replace hx := hx.trans ex5
      replace h0 := ht _ h0
      rw [eb] at h0
      refine h_st rfl rfl ?_
      refine h_st rfl rfl ?_
      exact ih1 _ _ hx h0 hL2
    · refine h_st rfl rfl ?_
      refine h_st rfl rfl ?_
      refine h_st rfl rfl ?_
      refine h_st rfl rfl ?_
      refine h_cv2 rfl (Nat.le_of_ble_eq_true rfl) (rcv1 hx.ty hS.1) rfl (c_9x hx.ty hS _) (fun σ5 hq => ?_)
      obtain ⟨ex5, ht, h18⟩ := hq
      replace hL := hL.same (fun i q hi hq => h18 q (hf i q hi hq))
      replace hx := hx.trans ex5
      replace h0 := ht _ h0
      rw [ea] at h0
      replace hL : Ls σ5 f gaf hif quf paf sof mof pof acf waf (fun i => itr (gaf i) tm n (sf i)) := hL.eq (fun i hi hfi => by rw [show n = j + (n - j) by omega]; exact itr_q (hqt q1 i hi hfi) _)
      refine h_st rfl rfl ?_
      refine h_st rfl rfl ?_
      refine h_st rfl (e_get h0 rfl) ?_
      exact h_rt rfl rfl (⟨_, _, rfl, K, hx, h0, rfl, hL⟩)
theorem c_6x {f : Nat → Option Nat} {gaf hif quf paf : Nat → Int32} {sof mof pof acf waf : Nat → Nat} {sf : Nat → Nat × Int32} (hT : Ty σ K) (hS : S0 K) (hr : (ra 3).1 = 16) (h1 : (ra 1).1 = 12) (h2 : (ra 2).1 = 12) {tm : Int32} (h0 : σ.2[0]? = some (.inr (7, [.ref 1, .ref 2, .ref 3, .ref 4, .ref 6, .int tm]))) (hs0 : σ.2[1]? = some (.inl (4, rfs 8 f))) (hL : Ls σ f gaf hif quf paf sof mof pof acf waf (sf)) (x : Int32) : hE ra (d + 6) 6 [.ref 0, .int x] σ (pI (fun σ' v => ∃ K' N, N = (if x < 0 ∨ 2000 < x then 0 else x.toNatClampNeg) ∧ Ex false 0 0 K σ K' σ' ∧ σ'.2[0]? = some (.inr (7, [.ref 1, .ref 2, .ref 3, .ref 4, .ref 6, .int (tm + nI N)])) ∧ v = tm + nI N ∧ Ls σ' f gaf hif quf paf sof mof pof acf waf (fun i => itr (gaf i) tm N (sf i)))) := by
  have e0 : tm + nI 0 = tm := by rw [nI_0, Int32.add_zero]
  have h0' := h0
  rw [← e0] at h0'
  have hz : (x < 0 ∨ 2000 < x) → hG ra (d + 5) 6 σ [some (.ref 0), some (.int x), some (.int 0), some (.int 0)] [] 19 (pI (fun σ' v => ∃ K' N, N = (if x < 0 ∨ 2000 < x then 0 else x.toNatClampNeg) ∧ Ex false 0 0 K σ K' σ' ∧ σ'.2[0]? = some (.inr (7, [.ref 1, .ref 2, .ref 3, .ref 4, .ref 6, .int (tm + nI N)])) ∧ v = tm + nI N ∧ Ls σ' f gaf hif quf paf sof mof pof acf waf (fun i => itr (gaf i) tm N (sf i)))) := by
    intro hc
    obtain ⟨r, g1, σ9, v, rfl, K9, a1, a2, a3, a4⟩ := c_6lx (ra := ra) (d := d) (n := 0) (x1 := x) hr h1 h2 (Nat.zero_le 2000) hS hs0 0 0 σ K rfl (Ex.refl hT) h0' hL
    exact ⟨_, g1, σ9, v, rfl, K9, 0, (if_pos hc).symm, a1, a2, a3, a4⟩
  refine h_in rfl rfl (Nat.le_of_ble_eq_true rfl) ?_
  refine h_st rfl rfl ?_
  refine h_st rfl rfl ?_
  refine h_br (fun q1 => ?_) (fun q1 => ?_)
  · refine h_st rfl rfl ?_
    refine h_st rfl rfl ?_
    refine h_st rfl rfl ?_
    refine h_st rfl rfl ?_
    refine h_st rfl rfl ?_
    exact hz (Or.inl q1)
  · refine h_st rfl rfl ?_
    refine h_st rfl rfl ?_
    refine h_st rfl rfl ?_
    refine h_br (fun q2 => ?_) (fun q2 => ?_)
    · refine h_st rfl rfl ?_
      refine h_st rfl rfl ?_
      refine h_st rfl rfl ?_
      refine h_st rfl rfl ?_
      obtain ⟨n, hn, rfl⟩ := nI_of2 (x := x) (M := 2000) (n := 2000) (by decide) q1 q2
      obtain ⟨r, g1, σ9, v, rfl, K9, a1, a2, a3, a4⟩ := c_6lx (ra := ra) (d := d) (n := n) (x1 := nI n) hr h1 h2 hn hS hs0 n 0 σ K (Nat.zero_add _) (Ex.refl hT) h0' hL
      exact ⟨_, g1, σ9, v, rfl, K9, n, by rw [if_neg (fun z => z.elim q1 (fun z => absurd q2 (Int32.not_le.mpr z))), nI_clamp (by omega)], a1, a2, a3, a4⟩
    · refine h_st rfl rfl ?_
      refine h_st rfl rfl ?_
      refine h_st rfl rfl ?_
      refine h_st rfl rfl ?_
      refine h_st rfl rfl ?_
      exact hz (Or.inr (Int32.not_le.mp q2))
end TYD
