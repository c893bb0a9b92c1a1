section LAW
variable {σ σ' : ae_S} {xs : Nat → Int32} {L n t : Nat} {K K' : Nat → Nat} {F F1 F' : Nat → Nat → Int32} {c u g c' u' g' tm : Int32}
def nt (t : Int32) : ae_C := .inr (7, [.ref 1, .ref 2, .ref 3, .ref 4, .ref 6, .int t])
def Iv (n : Nat) (K : Nat → Nat) (F : Nat → Nat → Int32) (c u g tm : Int32) (σ : ae_S) : Prop := σ.2[0]? = some (nt tm) ∧ Ty σ K ∧ S0 K ∧ (∀ p, 176 ≤ p → p ≤ 215 → K p = 0) ∧ RS false σ F σ c u g F ∧ RP F g [] [] ∧ (∃ f9, σ.2[215]? = some (.inl (3, 1, .inr (.inl f9)))) ∧ Wt1 σ ≤ 1528 + n ∧ Wt2 σ ≤ 501948 + 6 * n
theorem Iv.up1 (h : Iv n K F c u g tm σ) : Iv (n + 1) K F c u g tm σ := ⟨h.1, h.2.1, h.2.2.1, h.2.2.2.1, h.2.2.2.2.1, h.2.2.2.2.2.1, h.2.2.2.2.2.2.1, by have := h.2.2.2.2.2.2.2.1; omega, by have := h.2.2.2.2.2.2.2.2; omega⟩
theorem Iv.lw {tm' : Int32} (h : Iv n K F c u g tm σ) (hl : Lw 215 K σ K' σ') (h0 : σ'.2[0]? = some (nt tm')) : Iv (n + 1) K' F c u g tm' σ' := by
  obtain ⟨-, a1, a2, a3, a4, a5, ⟨f9, a6⟩, a7, a8⟩ := h
  obtain ⟨b1, b2, b3, b4, b5, b6, b7⟩ := hl
  have hlt := (List.getElem?_eq_some_iff.mp a6).1
  have hz : ∀ p, 176 ≤ p → p ≤ 215 → K' p = 0 := fun p q1 q2 => (b4 p (by omega) (a3 p q1 q2)).1
  have hs : ∀ p, 176 ≤ p → p < 215 → σ'.2[p]? = σ.2[p]? := fun p q1 q2 => (b4 p (by omega) (a3 p q1 (by omega))).2 (by omega)
  have g9 : ∀ q k, k ≠ 0 → K q = k → K' q = k := fun q k hk e => (b3 q (by rw [e]; exact hk)).trans e
  refine ⟨h0, b1, ⟨g9 _ _ (by decide) a2.1, g9 _ _ (by decide) a2.2.1, g9 _ _ (by decide) a2.2.2.1, g9 _ _ (by decide) a2.2.2.2.1, g9 _ _ (by decide) a2.2.2.2.2.1, g9 _ _ (by decide) a2.2.2.2.2.2⟩, hz, ⟨⟨rfl, rfl, fun _ _ => rfl⟩, (hs 176 (by decide) (by decide)).trans a4.2.1, fun q hq => ?_, fun z => by cases z⟩, a5, b5, by omega, by omega⟩
  have hb := rf_A_bd (p := q.1) (t := q.2.1) (n := q.2.2.1) (m := q.2.2.2.1) (v := q.2.2.2.2) hq
  exact (hs q.1 (by omega) hb.2).trans (a4.2.2.1 q hq)
theorem rf_cov {q : Nat} (h1 : 177 ≤ q) (h2 : q < 215) : ∃ x ∈ rf_A, x.1 = q := by
  have h := List.all_eq_true.mp (show (List.range 38).all (fun i => rf_A.any (fun x => x.1 == 177 + i)) = true by decide +kernel) (q - 177) (List.mem_range.mpr (by omega))
  obtain ⟨x, hx, e⟩ := List.any_eq_true.mp h
  have e := beq_iff_eq.mp e
  exact ⟨x, hx, by omega⟩
theorem Iv.rf {b : Bool} (h : Iv n K F c u g tm σ) (hr : RS b σ F1 σ' c' u' g' F') (hP : RP F' g' [] []) : Iv n K F' c' u' g' tm σ' := by
  obtain ⟨a0, a1, a2, a3, a4, a5, ⟨f9, a6⟩, a7, a8⟩ := h
  obtain ⟨⟨r1, r2, r3⟩, r4, r5, r6⟩ := hr
  have hw : ∀ w : ae_C → Nat, (∀ x, w (.inr x) = 0) → (∀ a n g, w (.inl (a, n, .inl g)) = 0) → σ'.2.map w = σ.2.map w := fun w w1 w2 => map_same r2 (fun q x hx => by
    by_cases q1 : q < 176 ∨ 215 ≤ q
    · exact ⟨x, (r3 q q1).trans hx, rfl⟩
    · by_cases q2 : q = 176
      · subst q2
        rw [a4.2.1] at hx
        cases hx
        exact ⟨_, r4, by rw [w1, w1]⟩
      · obtain ⟨y, hy, rfl⟩ := rf_cov (q := q) (by omega) (by omega)
        rw [a4.2.2.1 y hy] at hx
        cases hx
        exact ⟨_, r5 y hy, by rw [w2, w2]⟩)
  refine ⟨(r3 0 (by decide)).trans a0, fun q hq => ?_, a2, a3, ⟨⟨rfl, rfl, fun _ _ => rfl⟩, r4, r5, fun z => by cases z⟩, hP, ⟨f9, (r3 215 (Or.inr (Nat.le_refl _))).trans a6⟩, ?_, ?_⟩
  · obtain ⟨x, x1, x2⟩ := a1 q hq
    have q1 : q < 176 ∨ 215 ≤ q := Classical.byContradiction (fun z => hq (a3 q (by omega) (by omega)))
    exact ⟨x, (r3 q q1).trans x1, x2⟩
  · unfold Wt1 at *
    rw [r1, hw (fun c => (wt c).1) (fun _ => rfl) (fun _ _ _ => rfl)]
    exact a7
  · unfold Wt2 at *
    rw [r1, hw (fun c => (wt c).2) (fun _ => rfl) (fun _ _ _ => rfl)]
    exact a8
theorem lw_b {np : Nat} {L' : ae_Ls} {s : List Value} (hL : L ≤ 3584) (h : 7 * t < L) : o_ia np (ra0 L xs) σ L' (.int (nI (7 * t)) :: .retAddr 0 :: s) = some (σ, L', .int (xs (7 * t)) :: s, np) := by
  have e := e_ro (ra := ra0 L xs) (σ := σ) (L := L') (k := s) (np := np) (q := 0) (i := nI (7 * t)) (by decide) (show ¬ (nI (7 * t) < 0 ∨ L ≤ (nI (7 * t)).toNatClampNeg) from nI_in h (by omega))
  rw [nI_clamp (by omega)] at e
  exact e
theorem lw_a {np k : Nat} {L' : ae_Ls} {s : List Value} (hL : L ≤ 3584) (h : 7 * t + k < L) : o_ia np (ra0 L xs) σ L' (.int (nI (7 * t) + nI k) :: .retAddr 0 :: s) = some (σ, L', .int (xs (7 * t + k)) :: s, np) := by
  rw [nI_add]
  have e := e_ro (ra := ra0 L xs) (σ := σ) (L := L') (k := s) (np := np) (q := 0) (i := nI (7 * t + k)) (by decide) (show ¬ (nI (7 * t + k) < 0 ∨ L ≤ (nI (7 * t + k)).toNatClampNeg) from nI_in h (by omega))
  rw [nI_clamp (by omega)] at e
  exact e
theorem HT.rs {b b0 : Bool} {σ0 : ae_S} {F0 : Nat → Nat → Int32} (h : RS b σ F1 σ' c' u' g' F') (h0 : RS b0 σ0 F0 σ c u g F) : HT σ σ' := fun q y hy hc => by
  by_cases q1 : q < 176 ∨ 215 ≤ q
  · exact (h.1.2.2 q q1).trans hy
  · exfalso
    rcases hc with hc | hc
    · omega
    · by_cases q2 : q = 176
      · subst q2
        rw [h0.2.1] at hy
        cases hy
        exact hc rfl
      · obtain ⟨x, hx, rfl⟩ := rf_cov (q := q) (by omega) (by omega)
        rw [h0.2.2.1 x hx] at hy
        cases hy
        have hb := of_decide_eq_true (List.all_eq_true.mp (show rf_A.all (fun x => decide (x.2.1 = 2 ∨ (x.2.1 = 0 ∧ x.2.2.1 ≠ 2))) = true by decide +kernel) x hx)
        rcases hb with hb | hb
        · exact hc.2.1 hb
        · exact hb.2 (hc.2.2 hb.1)
/-- both sides keep to one abstract network -/
def SM (σ : ae_S) (F : Nat → Nat → Int32) (u : Int32) : Prop := ∃ w f v a, CN σ w f a ∧ RR F v a ∧ AW a ∧ nT a = u
def lwP : ae_S × ae_O → Prop := pI (fun σ x => x = 1 ∧ σ.1.1 ≤ 601024 ∧ σ.1.2 ≤ 7293034)
theorem b_6 {x y a b : Int32} {A : Prop} (h : (x = a ∧ A) ∨ (x = b ∧ ¬ A)) (h2 : (y = a ∧ A) ∨ (y = b ∧ ¬ A)) : x = y := by
  rcases h with ⟨e1, q1⟩ | ⟨e1, q1⟩ <;> rcases h2 with ⟨e2, q2⟩ | ⟨e2, q2⟩
  · rw [e1, e2]
  · exact absurd q1 q2
  · exact absurd q2 q1
  · rw [e1, e2]
set_option maxRecDepth 8000 in
theorem lw_0 (hL : L ≤ 3584) (ht : 7 * t + 7 ≤ L) (hI : Iv t K F c u g u σ) (hK : SM σ F u) {P : ae_S × ae_O → Prop} (hc : ∀ σ K F c u g x5 x6, Iv (t + 1) K F c u g u σ → SM σ F u → hG (ra0 L xs) 7 0 σ [some (.retAddr 0), some (.ref 0), some (.ref 176), some (.ref 215), some (.int (nI (7 * t))), x5, x6] [] 734 P) {x5 x6 : Option Value} : hG (ra0 L xs) 7 0 σ [some (.retAddr 0), some (.ref 0), some (.ref 176), some (.ref 215), some (.int (nI (7 * t))), x5, x6] [] 112 P := by
  obtain ⟨f9, ho9⟩ := hI.2.2.2.2.2.2.1
  have hT := hI.2.1
  have hS := hI.2.2.1
  have hKo := hI.2.2.2.1 215 (by decide) (Nat.le_refl _)
  have h0 := hI.1
  obtain ⟨w, f, v, a, hC, hR, hA, hu⟩ := hK
  subst hu
  refine h_st rfl rfl ?_
  refine h_st rfl rfl ?_
  refine h_st rfl rfl ?_
  refine h_st rfl rfl ?_
  refine h_st rfl rfl ?_
  refine h_st rfl (lw_a (k := 1) hL (by omega)) ?_
  refine h_st rfl rfl ?_
  refine h_st rfl rfl ?_
  refine h_st rfl rfl ?_
  refine h_st rfl rfl ?_
  refine h_st rfl (lw_a (k := 2) hL (by omega)) ?_
  refine h_st rfl rfl ?_
  refine h_st rfl rfl ?_
  refine h_st rfl rfl ?_
  refine h_st rfl rfl ?_
  refine h_st rfl (lw_a (k := 3) hL (by omega)) ?_
  refine h_st rfl rfl ?_
  refine h_st rfl rfl ?_
  refine h_st rfl rfl ?_
  refine h_st rfl rfl ?_
  refine h_st rfl (lw_a (k := 4) hL (by omega)) ?_
  refine h_st rfl rfl ?_
  refine h_st rfl rfl ?_
  refine h_st rfl rfl ?_
  refine h_st rfl rfl ?_
  refine h_st rfl (lw_a (k := 5) hL (by omega)) ?_
  refine h_st rfl rfl ?_
  refine h_st rfl rfl ?_
  refine h_st rfl rfl ?_
  refine h_st rfl rfl ?_
  refine h_st rfl (lw_a (k := 6) hL (by omega)) ?_
  refine h_ci7 rfl (Nat.le_of_ble_eq_true rfl) rfl rfl (c_79q hT hS ho9 hKo hC _ _ _ _ _ _) (fun σ2 x2 hq => ?_)
  obtain ⟨⟨K2, hlw⟩, hn0, w2, f2, hC2⟩ := hq
  replace hI := hI.lw hlw (hn0.trans h0)
  refine h_st rfl rfl ?_
  refine h_st rfl rfl ?_
  refine h_st rfl rfl ?_
  refine h_st rfl rfl ?_
  refine h_st rfl rfl ?_
  refine h_st rfl rfl ?_
  refine h_st rfl (lw_a (k := 1) hL (by omega)) ?_
  refine h_st rfl rfl ?_
  refine h_st rfl rfl ?_
  refine h_st rfl rfl ?_
  refine h_st rfl rfl ?_
  refine h_st rfl (lw_a (k := 2) hL (by omega)) ?_
  refine h_st rfl rfl ?_
  refine h_st rfl rfl ?_
  refine h_st rfl rfl ?_
  refine h_st rfl rfl ?_
  refine h_st rfl (lw_a (k := 3) hL (by omega)) ?_
  refine h_st rfl rfl ?_
  refine h_st rfl rfl ?_
  refine h_st rfl rfl ?_
  refine h_st rfl rfl ?_
  refine h_st rfl (lw_a (k := 4) hL (by omega)) ?_
  refine h_st rfl rfl ?_
  refine h_st rfl rfl ?_
  refine h_st rfl rfl ?_
  refine h_st rfl rfl ?_
  refine h_st rfl (lw_a (k := 5) hL (by omega)) ?_
  refine h_st rfl rfl ?_
  refine h_st rfl rfl ?_
  refine h_st rfl rfl ?_
  refine h_st rfl rfl ?_
  refine h_st rfl (lw_a (k := 6) hL (by omega)) ?_
  refine h_cv7 rfl (Nat.le_of_ble_eq_true rfl) (e_rcv hI.2.2.2.2.1.2.1) rfl (r_97w hI.2.2.2.2.1 hR hI.2.2.2.2.2.1 _ _ _ _ _ _) (fun σ3 hq => ?_)
  obtain ⟨c3, F3, h3, hP3, hR3⟩ := hq
  have hK : SM σ3 F3 _ := ⟨w2, f2, v, _, hC2.hh (HT.rs h3 hI.2.2.2.2.1), hR3, aw_lk hA _ _ _ _ _ _, nt_lk _ _ _ _ _ _⟩
  replace hI := hI.rf h3 hP3
  refine h_st rfl rfl ?_
  exact hc _ _ _ _ _ _ _ _ hI hK
set_option maxRecDepth 8000 in
theorem lw_1 (hL : L ≤ 3584) (ht : 7 * t + 7 ≤ L) (hI : Iv t K F c u g u σ) (hK : SM σ F u) {P : ae_S × ae_O → Prop} (hc : ∀ σ K F c u g x5 x6, Iv (t + 1) K F c u g u σ → SM σ F u → hG (ra0 L xs) 7 0 σ [some (.retAddr 0), some (.ref 0), some (.ref 176), some (.ref 215), some (.int (nI (7 * t))), x5, x6] [] 734 P) {x5 x6 : Option Value} : hG (ra0 L xs) 7 0 σ [some (.retAddr 0), some (.ref 0), some (.ref 176), some (.ref 215), some (.int (nI (7 * t))), x5, x6] [] 199 P := by
  obtain ⟨f9, ho9⟩ := hI.2.2.2.2.2.2.1
  have hT := hI.2.1
  have hS := hI.2.2.1
  have hKo := hI.2.2.2.1 215 (by decide) (Nat.le_refl _)
  have h0 := hI.1
  obtain ⟨w, f, v, a, hC, hR, hA, hu⟩ := hK
  subst hu
  refine h_st rfl rfl ?_
  refine h_st rfl rfl ?_
  refine h_st rfl rfl ?_
  refine h_st rfl rfl ?_
  refine h_st rfl rfl ?_
  refine h_st rfl (lw_a (k := 1) hL (by omega)) ?_
  refine h_st rfl rfl ?_
  refine h_st rfl rfl ?_
  refine h_st rfl rfl ?_
  refine h_st rfl rfl ?_
  refine h_st rfl (lw_a (k := 2) hL (by omega)) ?_
  refine h_st rfl rfl ?_
  refine h_st rfl rfl ?_
  refine h_st rfl rfl ?_
  refine h_st rfl rfl ?_
  refine h_st rfl (lw_a (k := 3) hL (by omega)) ?_
  refine h_st rfl rfl ?_
  refine h_ci5 rfl (Nat.le_of_ble_eq_true rfl) rfl rfl (c_86q hT hS ho9 hKo (by decide) hC _ _ _) (fun σ2 x2 hq => ?_)
  obtain ⟨⟨K2, hlw⟩, hn0, hC2⟩ := hq
  replace hI := hI.lw hlw (hn0.trans h0)
  refine h_st rfl rfl ?_
  refine h_st rfl rfl ?_
  refine h_st rfl rfl ?_
  refine h_st rfl rfl ?_
  refine h_st rfl rfl ?_
  refine h_st rfl rfl ?_
  refine h_st rfl (lw_a (k := 1) hL (by omega)) ?_
  refine h_st rfl rfl ?_
  refine h_st rfl rfl ?_
  refine h_st rfl rfl ?_
  refine h_st rfl rfl ?_
  refine h_st rfl (lw_a (k := 2) hL (by omega)) ?_
  refine h_st rfl rfl ?_
  refine h_st rfl rfl ?_
  refine h_st rfl rfl ?_
  refine h_st rfl rfl ?_
  refine h_st rfl (lw_a (k := 3) hL (by omega)) ?_
  refine h_ci4 rfl (Nat.le_of_ble_eq_true rfl) (e_rcv hI.2.2.2.2.1.2.1) rfl (r_98w hI.2.2.2.2.1 hR hI.2.2.2.2.2.1 _ _ _) (fun σ3 y3 hq => ?_)
  obtain ⟨c3, F3, h3, hP3, hR3⟩ := hq
  have hK : SM σ3 F3 _ := ⟨w, f, v, _, hC2.hh (HT.rs h3 hI.2.2.2.2.1), hR3, aw_wr hA _ _ _, nt_wr _ _ _⟩
  replace hI := hI.rf h3 hP3
  refine h_st rfl rfl ?_
  refine h_st rfl rfl ?_
  exact hc _ _ _ _ _ _ _ _ hI hK
set_option maxRecDepth 8000 in
theorem lw_2 (hL : L ≤ 3584) (ht : 7 * t + 7 ≤ L) (hI : Iv t K F c u g u σ) (hK : SM σ F u) {P : ae_S × ae_O → Prop} (hc : ∀ σ K F c u g x5 x6, Iv (t + 1) K F c u g u σ → SM σ F u → hG (ra0 L xs) 7 0 σ [some (.retAddr 0), some (.ref 0), some (.ref 176), some (.ref 215), some (.int (nI (7 * t))), x5, x6] [] 734 P) {x5 x6 : Option Value} : hG (ra0 L xs) 7 0 σ [some (.retAddr 0), some (.ref 0), some (.ref 176), some (.ref 215), some (.int (nI (7 * t))), x5, x6] [] 251 P := by
  obtain ⟨f9, ho9⟩ := hI.2.2.2.2.2.2.1
  have hT := hI.2.1
  have hS := hI.2.2.1
  have hKo := hI.2.2.2.1 215 (by decide) (Nat.le_refl _)
  have h0 := hI.1
  obtain ⟨w, f, v, a, hC, hR, hA, hu⟩ := hK
  subst hu
  refine h_st rfl rfl ?_
  refine h_st rfl rfl ?_
  refine h_st rfl rfl ?_
  refine h_st rfl rfl ?_
  refine h_st rfl rfl ?_
  refine h_st rfl (lw_a (k := 1) hL (by omega)) ?_
  refine h_ci2 rfl (Nat.le_of_ble_eq_true rfl) (rcv1 hT hS.1) rfl (pI_and (c_6t hT hS rfl rfl rfl h0 _) (c_6m rfl rfl rfl hC hA)) (fun σ2 x2 hq => ?_)
  obtain ⟨⟨K2, ex, -, -⟩, hx2, w2, hC2⟩ := hq
  replace hI := hI.lw (ex.up.lw (by decide) (by decide) ho9 hKo) hC2.1.1.1
  refine h_st rfl rfl ?_
  refine h_st rfl rfl ?_
  refine h_st rfl rfl ?_
  refine h_st rfl rfl ?_
  refine h_st rfl rfl ?_
  refine h_st rfl rfl ?_
  refine h_st rfl (lw_a (k := 1) hL (by omega)) ?_
  refine h_ci2 rfl (Nat.le_of_ble_eq_true rfl) (e_rcv hI.2.2.2.2.1.2.1) rfl (r_101w hI.2.2.2.2.1 hI.2.2.2.2.2.1 hR _) (fun σ3 y3 hq => ?_)
  obtain ⟨N3, eN3, hy3, F3, v3, h3, hP3, hR3⟩ := hq
  subst eN3
  have hK : SM σ3 F3 _ := ⟨w2, f, v3, _, hC2.hh (HT.rs h3 hI.2.2.2.2.1), hR3, wa_tcn hA _, rfl⟩
  replace hI := hI.rf h3 hP3
  refine h_st rfl rfl ?_
  refine h_st rfl rfl ?_
  exact hc _ _ _ _ _ _ _ _ hI hK
set_option maxRecDepth 8000 in
theorem lw_3 (hL : L ≤ 3584) (ht : 7 * t + 7 ≤ L) (hI : Iv t K F c u g u σ) (hK : SM σ F u) {P : ae_S × ae_O → Prop} (hc : ∀ σ K F c u g x5 x6, Iv (t + 1) K F c u g u σ → SM σ F u → hG (ra0 L xs) 7 0 σ [some (.retAddr 0), some (.ref 0), some (.ref 176), some (.ref 215), some (.int (nI (7 * t))), x5, x6] [] 734 P) {x5 x6 : Option Value} : hG (ra0 L xs) 7 0 σ [some (.retAddr 0), some (.ref 0), some (.ref 176), some (.ref 215), some (.int (nI (7 * t))), x5, x6] [] 276 P := by
  obtain ⟨f9, ho9⟩ := hI.2.2.2.2.2.2.1
  have hT := hI.2.1
  have hS := hI.2.2.1
  have hKo := hI.2.2.2.1 215 (by decide) (Nat.le_refl _)
  have h0 := hI.1
  obtain ⟨w, f, v, a, hC, hR, hA, hu⟩ := hK
  subst hu
  refine h_st rfl rfl ?_
  refine h_st rfl rfl ?_
  refine h_st rfl rfl ?_
  refine h_st rfl rfl ?_
  refine h_st rfl rfl ?_
  refine h_st rfl (lw_a (k := 1) hL (by omega)) ?_
  refine h_st rfl rfl ?_
  refine h_st rfl rfl ?_
  refine h_st rfl rfl ?_
  refine h_st rfl rfl ?_
  refine h_st rfl (lw_a (k := 2) hL (by omega)) ?_
  refine h_st rfl rfl ?_
  refine h_ci4 rfl (Nat.le_of_ble_eq_true rfl) rfl rfl (c_91q hT hS ho9 hKo (by decide) hC _ _) (fun σ2 x2 hq => ?_)
  obtain ⟨⟨K2, hlw⟩, hn0, hC2, hx2⟩ := hq
  replace hI := hI.lw hlw (hn0.trans h0)
  refine h_st rfl rfl ?_
  refine h_st rfl rfl ?_
  refine h_st rfl rfl ?_
  refine h_st rfl rfl ?_
  refine h_st rfl rfl ?_
  refine h_st rfl rfl ?_
  refine h_st rfl (lw_a (k := 1) hL (by omega)) ?_
  refine h_st rfl rfl ?_
  refine h_st rfl rfl ?_
  refine h_st rfl rfl ?_
  refine h_st rfl rfl ?_
  refine h_st rfl (lw_a (k := 2) hL (by omega)) ?_
  refine h_ci3 rfl (Nat.le_of_ble_eq_true rfl) (e_rcv hI.2.2.2.2.1.2.1) rfl (r_130w hI.2.2.2.2.1 hR hI.2.2.2.2.2.1 _ _) (fun σ3 y3 hq => ?_)
  obtain ⟨c3, g3, F3, h3, hP3, hR3, hy3⟩ := hq
  have hK : SM σ3 F3 _ := ⟨w, f, v, _, hC2.hh (HT.rs h3 hI.2.2.2.2.1), hR3, aw_rd hA _ _, nt_rd _ _⟩
  replace hI := hI.rf h3 hP3
  refine h_st rfl rfl ?_
  refine h_st rfl rfl ?_
  exact hc _ _ _ _ _ _ _ _ hI hK
set_option maxRecDepth 8000 in
theorem lw_4 (hL : L ≤ 3584) (ht : 7 * t + 7 ≤ L) (hI : Iv t K F c u g u σ) (hK : SM σ F u) {P : ae_S × ae_O → Prop} (hc : ∀ σ K F c u g x5 x6, Iv (t + 1) K F c u g u σ → SM σ F u → hG (ra0 L xs) 7 0 σ [some (.retAddr 0), some (.ref 0), some (.ref 176), some (.ref 215), some (.int (nI (7 * t))), x5, x6] [] 734 P) {x5 x6 : Option Value} : hG (ra0 L xs) 7 0 σ [some (.retAddr 0), some (.ref 0), some (.ref 176), some (.ref 215), some (.int (nI (7 * t))), x5, x6] [] 316 P := by
  obtain ⟨f9, ho9⟩ := hI.2.2.2.2.2.2.1
  have hT := hI.2.1
  have hS := hI.2.2.1
  have hKo := hI.2.2.2.1 215 (by decide) (Nat.le_refl _)
  have h0 := hI.1
  obtain ⟨w, f, v, a, hC, hR, hA, hu⟩ := hK
  subst hu
  refine h_st rfl rfl ?_
  refine h_st rfl rfl ?_
  refine h_st rfl rfl ?_
  refine h_st rfl rfl ?_
  refine h_st rfl rfl ?_
  refine h_st rfl (lw_a (k := 1) hL (by omega)) ?_
  refine h_ci2 rfl (Nat.le_of_ble_eq_true rfl) (rcv1 hT hS.1) rfl (c_63t hT hS _) (fun σ2 x2 hq => ?_)
  replace hq := hq.symm
  subst hq
  replace hI := hI.up1
  refine h_st rfl rfl ?_
  refine h_st rfl rfl ?_
  refine h_st rfl rfl ?_
  refine h_st rfl rfl ?_
  refine h_st rfl rfl ?_
  refine h_st rfl rfl ?_
  refine h_st rfl (lw_a (k := 1) hL (by omega)) ?_
  refine h_ci2 rfl (Nat.le_of_ble_eq_true rfl) (e_rcv hI.2.2.2.2.1.2.1) rfl (r_131t hI.2.2.2.2.1 hI.2.2.2.2.2.1.2.2.2.2.2.2 _) (fun σ3 y3 hq => ?_)
  have hK : SM σ3 F _ := ⟨w, f, v, a, hC.hh (HT.rs hq hI.2.2.2.2.1), hR, hA, rfl⟩
  replace hI := hI.rf hq hI.2.2.2.2.2.1
  refine h_st rfl rfl ?_
  refine h_st rfl rfl ?_
  exact hc _ _ _ _ _ _ _ _ hI hK
set_option maxRecDepth 8000 in
theorem lw_5 (hL : L ≤ 3584) (ht : 7 * t + 7 ≤ L) (hI : Iv t K F c u g u σ) (hK : SM σ F u) {P : ae_S × ae_O → Prop} (hc : ∀ σ K F c u g x5 x6, Iv (t + 1) K F c u g u σ → SM σ F u → hG (ra0 L xs) 7 0 σ [some (.retAddr 0), some (.ref 0), some (.ref 176), some (.ref 215), some (.int (nI (7 * t))), x5, x6] [] 734 P) {x5 x6 : Option Value} : hG (ra0 L xs) 7 0 σ [some (.retAddr 0), some (.ref 0), some (.ref 176), some (.ref 215), some (.int (nI (7 * t))), x5, x6] [] 341 P := by
  obtain ⟨f9, ho9⟩ := hI.2.2.2.2.2.2.1
  have hT := hI.2.1
  have hS := hI.2.2.1
  have hKo := hI.2.2.2.1 215 (by decide) (Nat.le_refl _)
  have h0 := hI.1
  obtain ⟨w, f, v, a, hC, hR, hA, hu⟩ := hK
  subst hu
  refine h_st rfl rfl ?_
  refine h_st rfl rfl ?_
  refine h_st rfl rfl ?_
  refine h_st rfl rfl ?_
  refine h_st rfl rfl ?_
  refine h_st rfl (lw_a (k := 1) hL (by omega)) ?_
  refine h_st rfl rfl ?_
  refine h_st rfl rfl ?_
  refine h_st rfl rfl ?_
  refine h_st rfl rfl ?_
  refine h_st rfl (lw_a (k := 2) hL (by omega)) ?_
  refine h_ci3 rfl (Nat.le_of_ble_eq_true rfl) (rcv1 hT hS.1) rfl (c_64n hC _ _) (fun σ2 x2 hq => ?_)
  obtain ⟨hss, hx2⟩ := hq
  replace hss := hss.symm
  subst hss
  replace hI := hI.up1
  refine h_st rfl rfl ?_
  refine h_st rfl rfl ?_
  refine h_st rfl rfl ?_
  refine h_st rfl rfl ?_
  refine h_st rfl rfl ?_
  refine h_st rfl (lw_a (k := 1) hL (by omega)) ?_
  refine h_st rfl rfl ?_
  refine h_st rfl rfl ?_
  refine h_st rfl rfl ?_
  refine h_st rfl rfl ?_
  refine h_st rfl (lw_a (k := 2) hL (by omega)) ?_
  refine h_ci3 rfl (Nat.le_of_ble_eq_true rfl) (e_rcv hI.2.2.2.2.1.2.1) rfl (r_132w hI.2.2.2.2.1 hR _ _) (fun σ3 y3 hq => ?_)
  obtain ⟨h3, hy3⟩ := hq
  have hK : SM σ3 F _ := ⟨w, f, v, a, hC.hh (HT.rs h3 hI.2.2.2.2.1), hR, hA, rfl⟩
  replace hI := hI.rf h3 hI.2.2.2.2.2.1
  refine h_st rfl rfl ?_
  refine h_pc (if_pos (decide_eq_true (hx2.trans hy3.symm))) ?_
  exact hc _ _ _ _ _ _ _ _ hI hK
set_option maxRecDepth 8000 in
theorem lw_6 (hL : L ≤ 3584) (ht : 7 * t + 7 ≤ L) (hI : Iv t K F c u g u σ) (hK : SM σ F u) {P : ae_S × ae_O → Prop} (hc : ∀ σ K F c u g x5 x6, Iv (t + 1) K F c u g u σ → SM σ F u → hG (ra0 L xs) 7 0 σ [some (.retAddr 0), some (.ref 0), some (.ref 176), some (.ref 215), some (.int (nI (7 * t))), x5, x6] [] 734 P) {x5 x6 : Option Value} : hG (ra0 L xs) 7 0 σ [some (.retAddr 0), some (.ref 0), some (.ref 176), some (.ref 215), some (.int (nI (7 * t))), x5, x6] [] 378 P := by
  obtain ⟨f9, ho9⟩ := hI.2.2.2.2.2.2.1
  have hT := hI.2.1
  have hS := hI.2.2.1
  have hKo := hI.2.2.2.1 215 (by decide) (Nat.le_refl _)
  have h0 := hI.1
  obtain ⟨w, f, v, a, hC, hR, hA, hu⟩ := hK
  subst hu
  refine h_st rfl rfl ?_
  refine h_st rfl rfl ?_
  refine h_st rfl rfl ?_
  refine h_st rfl rfl ?_
  refine h_st rfl rfl ?_
  refine h_st rfl (lw_a (k := 1) hL (by omega)) ?_
  refine h_st rfl rfl ?_
  refine h_st rfl rfl ?_
  refine h_st rfl rfl ?_
  refine h_st rfl rfl ?_
  refine h_st rfl (lw_a (k := 2) hL (by omega)) ?_
  refine h_st rfl rfl ?_
  refine h_st rfl rfl ?_
  refine h_st rfl rfl ?_
  refine h_st rfl rfl ?_
  refine h_st rfl (lw_a (k := 3) hL (by omega)) ?_
  refine h_st rfl rfl ?_
  refine h_st rfl rfl ?_
  refine h_st rfl rfl ?_
  refine h_st rfl rfl ?_
  refine h_st rfl (lw_a (k := 4) hL (by omega)) ?_
  refine h_ci5 rfl (Nat.le_of_ble_eq_true rfl) (rcv1 hT hS.1) rfl (pI_and (c_67t (b := true) hT hS _ _ _ _) (c_67m hC _ _ _ _)) (fun σ2 x2 hq => ?_)
  obtain ⟨⟨ex, -⟩, hC2⟩ := hq
  replace hI := hI.lw (ex.up.lw (by decide) (by decide) ho9 hKo) ((ex.cs (Or.inl hS.1)).trans h0)
  refine h_st rfl rfl ?_
  refine h_st rfl rfl ?_
  refine h_st rfl rfl ?_
  refine h_st rfl rfl ?_
  refine h_st rfl rfl ?_
  refine h_st rfl rfl ?_
  refine h_st rfl (lw_a (k := 1) hL (by omega)) ?_
  refine h_st rfl rfl ?_
  refine h_st rfl rfl ?_
  refine h_st rfl rfl ?_
  refine h_st rfl rfl ?_
  refine h_st rfl (lw_a (k := 2) hL (by omega)) ?_
  refine h_st rfl rfl ?_
  refine h_st rfl rfl ?_
  refine h_st rfl rfl ?_
  refine h_st rfl rfl ?_
  refine h_st rfl (lw_a (k := 3) hL (by omega)) ?_
  refine h_st rfl rfl ?_
  refine h_st rfl rfl ?_
  refine h_st rfl rfl ?_
  refine h_st rfl rfl ?_
  refine h_st rfl (lw_a (k := 4) hL (by omega)) ?_
  refine h_ci5 rfl (Nat.le_of_ble_eq_true rfl) (e_rcv hI.2.2.2.2.1.2.1) rfl (r_133w hI.2.2.2.2.1 hR hI.2.2.2.2.2.1 _ _ _ _) (fun σ3 y3 hq => ?_)
  obtain ⟨F3, h3, hP3, hR3⟩ := hq
  have hK : SM σ3 F3 _ := ⟨w, f, v, _, hC2.hh (HT.rs h3 hI.2.2.2.2.1), hR3, aw_hm hA _ _ _ _, nt_hm _ _ _ _⟩
  replace hI := hI.rf h3 hP3
  refine h_st rfl rfl ?_
  refine h_st rfl rfl ?_
  exact hc _ _ _ _ _ _ _ _ hI hK
set_option maxRecDepth 8000 in
theorem lw_7 (hL : L ≤ 3584) (ht : 7 * t + 7 ≤ L) (hI : Iv t K F c u g u σ) (hK : SM σ F u) {P : ae_S × ae_O → Prop} (hc : ∀ σ K F c u g x5 x6, Iv (t + 1) K F c u g u σ → SM σ F u → hG (ra0 L xs) 7 0 σ [some (.retAddr 0), some (.ref 0), some (.ref 176), some (.ref 215), some (.int (nI (7 * t))), x5, x6] [] 734 P) {x5 x6 : Option Value} : hG (ra0 L xs) 7 0 σ [some (.retAddr 0), some (.ref 0), some (.ref 176), some (.ref 215), some (.int (nI (7 * t))), x5, x6] [] 439 P := by
  obtain ⟨f9, ho9⟩ := hI.2.2.2.2.2.2.1
  have hT := hI.2.1
  have hS := hI.2.2.1
  have hKo := hI.2.2.2.1 215 (by decide) (Nat.le_refl _)
  have h0 := hI.1
  obtain ⟨w, f, v, a, hC, hR, hA, hu⟩ := hK
  subst hu
  refine h_st rfl rfl ?_
  refine h_st rfl rfl ?_
  refine h_st rfl rfl ?_
  refine h_st rfl rfl ?_
  refine h_st rfl rfl ?_
  refine h_st rfl (lw_a (k := 1) hL (by omega)) ?_
  refine h_st rfl rfl ?_
  refine h_st rfl rfl ?_
  refine h_st rfl rfl ?_
  refine h_st rfl rfl ?_
  refine h_st rfl (lw_a (k := 2) hL (by omega)) ?_
  refine h_st rfl rfl ?_
  refine h_st rfl rfl ?_
  refine h_st rfl rfl ?_
  refine h_st rfl rfl ?_
  refine h_st rfl (lw_a (k := 3) hL (by omega)) ?_
  refine h_st rfl rfl ?_
  refine h_st rfl rfl ?_
  refine h_st rfl rfl ?_
  refine h_st rfl rfl ?_
  refine h_st rfl (lw_a (k := 4) hL (by omega)) ?_
  refine h_st rfl rfl ?_
  refine h_st rfl rfl ?_
  refine h_st rfl rfl ?_
  refine h_st rfl rfl ?_
  refine h_st rfl (lw_a (k := 5) hL (by omega)) ?_
  refine h_ci6 rfl (Nat.le_of_ble_eq_true rfl) (rcv1 hT hS.1) rfl (pI_and (c_69t (b := true) hT hS rfl _ _ _ _ _) (c_69m rfl hC _ _ _ _ _)) (fun σ2 x2 hq => ?_)
  obtain ⟨⟨K2, ex⟩, hx2, w2, hC2⟩ := hq
  replace hI := hI.lw (ex.up.lw (by decide) (by decide) ho9 hKo) ((ex.cs (Or.inl hS.1)).trans h0)
  refine h_st rfl rfl ?_
  refine h_st rfl rfl ?_
  refine h_st rfl rfl ?_
  refine h_st rfl rfl ?_
  refine h_st rfl rfl ?_
  refine h_st rfl rfl ?_
  refine h_st rfl (lw_a (k := 1) hL (by omega)) ?_
  refine h_st rfl rfl ?_
  refine h_st rfl rfl ?_
  refine h_st rfl rfl ?_
  refine h_st rfl rfl ?_
  refine h_st rfl (lw_a (k := 2) hL (by omega)) ?_
  refine h_st rfl rfl ?_
  refine h_st rfl rfl ?_
  refine h_st rfl rfl ?_
  refine h_st rfl rfl ?_
  refine h_st rfl (lw_a (k := 3) hL (by omega)) ?_
  refine h_st rfl rfl ?_
  refine h_st rfl rfl ?_
  refine h_st rfl rfl ?_
  refine h_st rfl rfl ?_
  refine h_st rfl (lw_a (k := 4) hL (by omega)) ?_
  refine h_st rfl rfl ?_
  refine h_st rfl rfl ?_
  refine h_st rfl rfl ?_
  refine h_st rfl rfl ?_
  refine h_st rfl (lw_a (k := 5) hL (by omega)) ?_
  refine h_ci6 rfl (Nat.le_of_ble_eq_true rfl) (e_rcv hI.2.2.2.2.1.2.1) rfl (r_135w hI.2.2.2.2.1 hR hI.2.2.2.2.2.1 _ _ _ _ _) (fun σ3 y3 hq => ?_)
  obtain ⟨hy3, F3, v3, h3, hP3, hR3⟩ := hq
  have hK : SM σ3 F3 _ := ⟨w2, f, v3, _, hC2.hh (HT.rs h3 hI.2.2.2.2.1), hR3, aw_bb hA _ _ _ _ _, nt_bb _ _ _ _ _⟩
  replace hI := hI.rf h3 hP3
  refine h_st rfl rfl ?_
  refine h_st rfl rfl ?_
  exact hc _ _ _ _ _ _ _ _ hI hK
set_option maxRecDepth 8000 in
theorem lw_8 (hL : L ≤ 3584) (ht : 7 * t + 7 ≤ L) (hI : Iv t K F c u g u σ) (hK : SM σ F u) {P : ae_S × ae_O → Prop} (hc : ∀ σ K F c u g x5 x6, Iv (t + 1) K F c u g u σ → SM σ F u → hG (ra0 L xs) 7 0 σ [some (.retAddr 0), some (.ref 0), some (.ref 176), some (.ref 215), some (.int (nI (7 * t))), x5, x6] [] 734 P) {x5 x6 : Option Value} : hG (ra0 L xs) 7 0 σ [some (.retAddr 0), some (.ref 0), some (.ref 176), some (.ref 215), some (.int (nI (7 * t))), x5, x6] [] 512 P := by
  obtain ⟨f9, ho9⟩ := hI.2.2.2.2.2.2.1
  have hT := hI.2.1
  have hS := hI.2.2.1
  have hKo := hI.2.2.2.1 215 (by decide) (Nat.le_refl _)
  have h0 := hI.1
  obtain ⟨w, f, v, a, hC, hR, hA, hu⟩ := hK
  subst hu
  refine h_st rfl rfl ?_
  refine h_st rfl rfl ?_
  refine h_st rfl rfl ?_
  refine h_st rfl rfl ?_
  refine h_st rfl rfl ?_
  refine h_st rfl (lw_a (k := 1) hL (by omega)) ?_
  refine h_st rfl rfl ?_
  refine h_st rfl rfl ?_
  refine h_st rfl rfl ?_
  refine h_st rfl rfl ?_
  refine h_st rfl (lw_a (k := 2) hL (by omega)) ?_
  refine h_st rfl rfl ?_
  refine h_st rfl rfl ?_
  refine h_st rfl rfl ?_
  refine h_st rfl rfl ?_
  refine h_st rfl (lw_a (k := 3) hL (by omega)) ?_
  refine h_ci4 rfl (Nat.le_of_ble_eq_true rfl) (rcv1 hT hS.1) rfl (c_70n hC _ _ _) (fun σ2 x2 hq => ?_)
  obtain ⟨hss, hx2⟩ := hq
  replace hss := hss.symm
  subst hss
  replace hI := hI.up1
  refine h_st rfl rfl ?_
  refine h_st rfl rfl ?_
  refine h_st rfl rfl ?_
  refine h_st rfl rfl ?_
  refine h_st rfl rfl ?_
  refine h_st rfl rfl ?_
  refine h_st rfl (lw_a (k := 1) hL (by omega)) ?_
  refine h_st rfl rfl ?_
  refine h_st rfl rfl ?_
  refine h_st rfl rfl ?_
  refine h_st rfl rfl ?_
  refine h_st rfl (lw_a (k := 2) hL (by omega)) ?_
  refine h_st rfl rfl ?_
  refine h_st rfl rfl ?_
  refine h_st rfl rfl ?_
  refine h_st rfl rfl ?_
  refine h_st rfl (lw_a (k := 3) hL (by omega)) ?_
  refine h_ci4 rfl (Nat.le_of_ble_eq_true rfl) (e_rcv hI.2.2.2.2.1.2.1) rfl (r_136w hI.2.2.2.2.1 hR _ _ _) (fun σ3 y3 hq => ?_)
  obtain ⟨h3, hy3⟩ := hq
  have hK : SM σ3 F _ := ⟨w, f, v, a, hC.hh (HT.rs h3 hI.2.2.2.2.1), hR, hA, rfl⟩
  replace hI := hI.rf h3 hI.2.2.2.2.2.1
  refine h_st rfl rfl ?_
  refine h_st rfl rfl ?_
  exact hc _ _ _ _ _ _ _ _ hI hK
set_option maxRecDepth 8000 in
theorem lw_9 (hL : L ≤ 3584) (ht : 7 * t + 7 ≤ L) (hI : Iv t K F c u g u σ) (hK : SM σ F u) {P : ae_S × ae_O → Prop} (hc : ∀ σ K F c u g x5 x6, Iv (t + 1) K F c u g u σ → SM σ F u → hG (ra0 L xs) 7 0 σ [some (.retAddr 0), some (.ref 0), some (.ref 176), some (.ref 215), some (.int (nI (7 * t))), x5, x6] [] 734 P) {x5 x6 : Option Value} : hG (ra0 L xs) 7 0 σ [some (.retAddr 0), some (.ref 0), some (.ref 176), some (.ref 215), some (.int (nI (7 * t))), x5, x6] [] 561 P := by
  obtain ⟨f9, ho9⟩ := hI.2.2.2.2.2.2.1
  have hT := hI.2.1
  have hS := hI.2.2.1
  have hKo := hI.2.2.2.1 215 (by decide) (Nat.le_refl _)
  have h0 := hI.1
  obtain ⟨w, f, v, a, hC, hR, hA, hu⟩ := hK
  subst hu
  refine h_st rfl rfl ?_
  refine h_st rfl rfl ?_
  refine h_st rfl rfl ?_
  refine h_st rfl rfl ?_
  refine h_st rfl rfl ?_
  refine h_st rfl (lw_a (k := 1) hL (by omega)) ?_
  refine h_st rfl rfl ?_
  refine h_st rfl rfl ?_
  refine h_st rfl rfl ?_
  refine h_st rfl rfl ?_
  refine h_st rfl (lw_a (k := 2) hL (by omega)) ?_
  refine h_st rfl rfl ?_
  refine h_st rfl rfl ?_
  refine h_st rfl rfl ?_
  refine h_st rfl rfl ?_
  refine h_st rfl (lw_a (k := 3) hL (by omega)) ?_
  refine h_ci4 rfl (Nat.le_of_ble_eq_true rfl) (rcv1 hT hS.1) rfl (c_71n hC _ _ _) (fun σ2 x2 hq => ?_)
  obtain ⟨hss, hx2⟩ := hq
  replace hss := hss.symm
  subst hss
  replace hI := hI.up1
  refine h_st rfl rfl ?_
  refine h_st rfl rfl ?_
  refine h_st rfl rfl ?_
  refine h_st rfl rfl ?_
  refine h_st rfl rfl ?_
  refine h_st rfl rfl ?_
  refine h_st rfl (lw_a (k := 1) hL (by omega)) ?_
  refine h_st rfl rfl ?_
  refine h_st rfl rfl ?_
  refine h_st rfl rfl ?_
  refine h_st rfl rfl ?_
  refine h_st rfl (lw_a (k := 2) hL (by omega)) ?_
  refine h_st rfl rfl ?_
  refine h_st rfl rfl ?_
  refine h_st rfl rfl ?_
  refine h_st rfl rfl ?_
  refine h_st rfl (lw_a (k := 3) hL (by omega)) ?_
  refine h_ci4 rfl (Nat.le_of_ble_eq_true rfl) (e_rcv hI.2.2.2.2.1.2.1) rfl (r_137w hI.2.2.2.2.1 hR _ _ _) (fun σ3 y3 hq => ?_)
  obtain ⟨h3, hy3⟩ := hq
  have hK : SM σ3 F _ := ⟨w, f, v, a, hC.hh (HT.rs h3 hI.2.2.2.2.1), hR, hA, rfl⟩
  replace hI := hI.rf h3 hI.2.2.2.2.2.1
  refine h_st rfl rfl ?_
  refine h_st rfl rfl ?_
  exact hc _ _ _ _ _ _ _ _ hI hK
set_option maxRecDepth 8000 in
theorem lw_10 (hL : L ≤ 3584) (ht : 7 * t + 7 ≤ L) (hI : Iv t K F c u g u σ) (hK : SM σ F u) {P : ae_S × ae_O → Prop} (hc : ∀ σ K F c u g x5 x6, Iv (t + 1) K F c u g u σ → SM σ F u → hG (ra0 L xs) 7 0 σ [some (.retAddr 0), some (.ref 0), some (.ref 176), some (.ref 215), some (.int (nI (7 * t))), x5, x6] [] 734 P) {x5 x6 : Option Value} : hG (ra0 L xs) 7 0 σ [some (.retAddr 0), some (.ref 0), some (.ref 176), some (.ref 215), some (.int (nI (7 * t))), x5, x6] [] 610 P := by
  obtain ⟨f9, ho9⟩ := hI.2.2.2.2.2.2.1
  have hT := hI.2.1
  have hS := hI.2.2.1
  have hKo := hI.2.2.2.1 215 (by decide) (Nat.le_refl _)
  have h0 := hI.1
  obtain ⟨w, f, v, a, hC, hR, hA, hu⟩ := hK
  subst hu
  refine h_st rfl rfl ?_
  refine h_st rfl rfl ?_
  refine h_st rfl rfl ?_
  refine h_st rfl rfl ?_
  refine h_st rfl rfl ?_
  refine h_st rfl (lw_a (k := 1) hL (by omega)) ?_
  refine h_ci2 rfl (Nat.le_of_ble_eq_true rfl) (rcv1 hT hS.1) rfl (c_72t hT hS _) (fun σ2 x2 hq => ?_)
  replace hq := hq.symm
  subst hq
  replace hI := hI.up1
  refine h_st rfl rfl ?_
  refine h_st rfl rfl ?_
  refine h_st rfl rfl ?_
  refine h_st rfl rfl ?_
  refine h_st rfl rfl ?_
  refine h_st rfl rfl ?_
  refine h_st rfl (lw_a (k := 1) hL (by omega)) ?_
  refine h_ci2 rfl (Nat.le_of_ble_eq_true rfl) (e_rcv hI.2.2.2.2.1.2.1) rfl (r_138t hI.2.2.2.2.1 _) (fun σ3 y3 hq => ?_)
  have hK : SM σ3 F _ := ⟨w, f, v, a, hC.hh (HT.rs hq.1 hI.2.2.2.2.1), hR, hA, rfl⟩
  replace hI := hI.rf hq.1 hI.2.2.2.2.2.1
  refine h_st rfl rfl ?_
  refine h_st rfl rfl ?_
  exact hc _ _ _ _ _ _ _ _ hI hK
set_option maxRecDepth 8000 in
theorem lw_11 (hL : L ≤ 3584) (ht : 7 * t + 7 ≤ L) (hI : Iv t K F c u g u σ) (hK : SM σ F u) {P : ae_S × ae_O → Prop} (hc : ∀ σ K F c u g x5 x6, Iv (t + 1) K F c u g u σ → SM σ F u → hG (ra0 L xs) 7 0 σ [some (.retAddr 0), some (.ref 0), some (.ref 176), some (.ref 215), some (.int (nI (7 * t))), x5, x6] [] 734 P) {x5 x6 : Option Value} : hG (ra0 L xs) 7 0 σ [some (.retAddr 0), some (.ref 0), some (.ref 176), some (.ref 215), some (.int (nI (7 * t))), x5, x6] [] 635 P := by
  obtain ⟨f9, ho9⟩ := hI.2.2.2.2.2.2.1
  have hT := hI.2.1
  have hS := hI.2.2.1
  have hKo := hI.2.2.2.1 215 (by decide) (Nat.le_refl _)
  have h0 := hI.1
  obtain ⟨w, f, v, a, hC, hR, hA, hu⟩ := hK
  subst hu
  refine h_st rfl rfl ?_
  refine h_st rfl rfl ?_
  refine h_st rfl rfl ?_
  refine h_st rfl rfl ?_
  refine h_st rfl rfl ?_
  refine h_st rfl (lw_a (k := 1) hL (by omega)) ?_
  refine h_st rfl rfl ?_
  refine h_st rfl rfl ?_
  refine h_st rfl rfl ?_
  refine h_st rfl rfl ?_
  refine h_st rfl (lw_a (k := 2) hL (by omega)) ?_
  refine h_ci3 rfl (Nat.le_of_ble_eq_true rfl) (rcv1 hT hS.1) rfl (c_73n hC _ _) (fun σ2 x2 hq => ?_)
  obtain ⟨hss, hx2⟩ := hq
  replace hss := hss.symm
  subst hss
  replace hI := hI.up1
  refine h_st rfl rfl ?_
  refine h_st rfl rfl ?_
  refine h_st rfl rfl ?_
  refine h_st rfl rfl ?_
  refine h_st rfl rfl ?_
  refine h_st rfl rfl ?_
  refine h_st rfl (lw_a (k := 1) hL (by omega)) ?_
  refine h_st rfl rfl ?_
  refine h_st rfl rfl ?_
  refine h_st rfl rfl ?_
  refine h_st rfl rfl ?_
  refine h_st rfl (lw_a (k := 2) hL (by omega)) ?_
  refine h_ci3 rfl (Nat.le_of_ble_eq_true rfl) (e_rcv hI.2.2.2.2.1.2.1) rfl (r_139w hI.2.2.2.2.1 hR _ _) (fun σ3 y3 hq => ?_)
  obtain ⟨h3, hy3⟩ := hq
  have hK : SM σ3 F _ := ⟨w, f, v, a, hC.hh (HT.rs h3 hI.2.2.2.2.1), hR, hA, rfl⟩
  replace hI := hI.rf h3 hI.2.2.2.2.2.1
  refine h_st rfl rfl ?_
  refine h_st rfl rfl ?_
  exact hc _ _ _ _ _ _ _ _ hI hK
set_option maxRecDepth 8000 in
theorem lw_12 (hL : L ≤ 3584) (ht : 7 * t + 7 ≤ L) (hI : Iv t K F c u g u σ) (hK : SM σ F u) {P : ae_S × ae_O → Prop} (hc : ∀ σ K F c u g x5 x6, Iv (t + 1) K F c u g u σ → SM σ F u → hG (ra0 L xs) 7 0 σ [some (.retAddr 0), some (.ref 0), some (.ref 176), some (.ref 215), some (.int (nI (7 * t))), x5, x6] [] 734 P) {x5 x6 : Option Value} : hG (ra0 L xs) 7 0 σ [some (.retAddr 0), some (.ref 0), some (.ref 176), some (.ref 215), some (.int (nI (7 * t))), x5, x6] [] 672 P := by
  obtain ⟨f9, ho9⟩ := hI.2.2.2.2.2.2.1
  have hT := hI.2.1
  have hS := hI.2.2.1
  have hKo := hI.2.2.2.1 215 (by decide) (Nat.le_refl _)
  have h0 := hI.1
  obtain ⟨w, f, v, a, hC, hR, hA, hu⟩ := hK
  subst hu
  refine h_st rfl rfl ?_
  refine h_st rfl rfl ?_
  refine h_st rfl rfl ?_
  refine h_st rfl rfl ?_
  refine h_st rfl rfl ?_
  refine h_st rfl (lw_a (k := 1) hL (by omega)) ?_
  refine h_ci2 rfl (Nat.le_of_ble_eq_true rfl) (rcv1 hT hS.1) rfl (c_74t hT hS _) (fun σ2 x2 hq => ?_)
  replace hq := hq.symm
  subst hq
  replace hI := hI.up1
  refine h_st rfl rfl ?_
  refine h_st rfl rfl ?_
  refine h_st rfl rfl ?_
  refine h_st rfl rfl ?_
  refine h_st rfl rfl ?_
  refine h_st rfl rfl ?_
  refine h_st rfl (lw_a (k := 1) hL (by omega)) ?_
  refine h_ci2 rfl (Nat.le_of_ble_eq_true rfl) (e_rcv hI.2.2.2.2.1.2.1) rfl (r_140t hI.2.2.2.2.1 _) (fun σ3 y3 hq => ?_)
  have hK : SM σ3 F _ := ⟨w, f, v, a, hC.hh (HT.rs hq hI.2.2.2.2.1), hR, hA, rfl⟩
  replace hI := hI.rf hq hI.2.2.2.2.2.1
  refine h_st rfl rfl ?_
  refine h_st rfl rfl ?_
  exact hc _ _ _ _ _ _ _ _ hI hK
set_option maxRecDepth 8000 in
theorem lw_13 (hL : L ≤ 3584) (ht : 7 * t + 7 ≤ L) (hI : Iv t K F c u g u σ) (hK : SM σ F u) {P : ae_S × ae_O → Prop} (hc : ∀ σ K F c u g x5 x6, Iv (t + 1) K F c u g u σ → SM σ F u → hG (ra0 L xs) 7 0 σ [some (.retAddr 0), some (.ref 0), some (.ref 176), some (.ref 215), some (.int (nI (7 * t))), x5, x6] [] 734 P) {x5 x6 : Option Value} : hG (ra0 L xs) 7 0 σ [some (.retAddr 0), some (.ref 0), some (.ref 176), some (.ref 215), some (.int (nI (7 * t))), x5, x6] [] 697 P := by
  obtain ⟨f9, ho9⟩ := hI.2.2.2.2.2.2.1
  have hT := hI.2.1
  have hS := hI.2.2.1
  have hKo := hI.2.2.2.1 215 (by decide) (Nat.le_refl _)
  have h0 := hI.1
  obtain ⟨w, f, v, a, hC, hR, hA, hu⟩ := hK
  subst hu
  refine h_st rfl rfl ?_
  refine h_st rfl rfl ?_
  refine h_st rfl rfl ?_
  refine h_st rfl rfl ?_
  refine h_st rfl rfl ?_
  refine h_st rfl (lw_a (k := 1) hL (by omega)) ?_
  refine h_st rfl rfl ?_
  refine h_st rfl rfl ?_
  refine h_st rfl rfl ?_
  refine h_st rfl rfl ?_
  refine h_st rfl (lw_a (k := 2) hL (by omega)) ?_
  refine h_ci3 rfl (Nat.le_of_ble_eq_true rfl) (rcv1 hT hS.1) rfl (c_75t hT hS _ _) (fun σ2 x2 hq => ?_)
  replace hq := hq.symm
  subst hq
  replace hI := hI.up1
  refine h_st rfl rfl ?_
  refine h_st rfl rfl ?_
  refine h_st rfl rfl ?_
  refine h_st rfl rfl ?_
  refine h_st rfl rfl ?_
  refine h_st rfl rfl ?_
  refine h_st rfl (lw_a (k := 1) hL (by omega)) ?_
  refine h_st rfl rfl ?_
  refine h_st rfl rfl ?_
  refine h_st rfl rfl ?_
  refine h_st rfl rfl ?_
  refine h_st rfl (lw_a (k := 2) hL (by omega)) ?_
  refine h_ci3 rfl (Nat.le_of_ble_eq_true rfl) (e_rcv hI.2.2.2.2.1.2.1) rfl (r_141t hI.2.2.2.2.1 _ _) (fun σ3 y3 hq => ?_)
  have hK : SM σ3 F _ := ⟨w, f, v, a, hC.hh (HT.rs hq hI.2.2.2.2.1), hR, hA, rfl⟩
  replace hI := hI.rf hq hI.2.2.2.2.2.1
  refine h_st rfl rfl ?_
  refine h_st rfl rfl ?_
  exact hc _ _ _ _ _ _ _ _ hI hK
set_option maxRecDepth 8000 in
theorem lw_l (hL : L ≤ 3584) : ∀ (m t : Nat) (σ : ae_S) (K : Nat → Nat) (F : Nat → Nat → Int32) (c u g : Int32) (x5 x6 : Option Value), t + m = 512 → Iv t K F c u g u σ → SM σ F u → hG (ra0 L xs) 7 0 σ [some (.retAddr 0), some (.ref 0), some (.ref 176), some (.ref 215), some (.int (nI (7 * t))), x5, x6] [] 23 lwP := by
  have hex : ∀ (t : Nat) (σ : ae_S) (K : Nat → Nat) (F : Nat → Nat → Int32) (c u g : Int32) (x5 x6 : Option Value), t ≤ 512 → Iv t K F c u g u σ → L < 7 * t + 7 → hG (ra0 L xs) 7 0 σ [some (.retAddr 0), some (.ref 0), some (.ref 176), some (.ref 215), some (.int (nI (7 * t))), x5, x6] [] 23 lwP := by
    intro t σ K F c u g x5 x6 htT hI hlt
    have w1 := hI.2.2.2.2.2.2.2.1
    have w2 := hI.2.2.2.2.2.2.2.2
    have v1 : σ.1.1 ≤ Wt1 σ := Nat.le_add_right _ _
    have v2 : σ.1.2 ≤ Wt2 σ := Nat.le_add_right _ _
    have hq : (Int32.ofNat L - 7 : Int32) < nI (7 * t) := by
      show nI L - nI 7 < nI (7 * t)
      by_cases h7 : L < 7
      · exact Int32.lt_of_lt_of_le (pk_sneg (by decide) (by omega)) (nI_le (a := 0) (Nat.zero_le _) (by omega))
      · rw [pk_sub (by omega)]
        exact (nI_ltI (by omega) (by omega)).mpr (by omega)
    refine h_st rfl rfl ?_
    refine h_st rfl rfl ?_
    refine h_st rfl (e_lenR (by decide)) ?_
    refine h_st rfl rfl ?_
    refine h_st rfl rfl ?_
    refine h_st rfl rfl ?_
    refine h_pc (if_pos (decide_eq_true (hq))) ?_
    refine h_st rfl rfl ?_
    exact h_rt rfl rfl (⟨_, _, rfl, rfl, by omega, by omega⟩)
  intro m
  induction m with
  | zero =>
    intro t σ K F c u g x5 x6 htT hI hK
    exact hex t σ K F c u g x5 x6 (by omega) hI (by omega)
  | succ m ih =>
    intro t σ K F c u g x5 x6 htT hI hK
    by_cases hlt : L < 7 * t + 7
    · exact hex t σ K F c u g x5 x6 (by omega) hI hlt
    have ht : 7 * t + 7 ≤ L := by omega
    have hc : ∀ σ K F c u g x5 x6, Iv (t + 1) K F c u g u σ → SM σ F u → hG (ra0 L xs) 7 0 σ [some (.retAddr 0), some (.ref 0), some (.ref 176), some (.ref 215), some (.int (nI (7 * t))), x5, x6] [] 734 lwP := by
      intro σ K F c u g x5 x6 hI hK
      have ih1 := ih (t + 1) σ K F c u g x5 x6 (by omega) hI hK
      have e7 : nI (7 * (t + 1)) = nI (7 * t) + 7 := by
        show nI (7 * (t + 1)) = nI (7 * t) + nI 7
        rw [nI_add, Nat.mul_succ]
      rw [e7] at ih1
      refine h_st rfl rfl ?_
      refine h_st rfl rfl ?_
      exact ih1
    have hq : ¬ (Int32.ofNat L - 7 : Int32) < nI (7 * t) := by
      show ¬ nI L - nI 7 < nI (7 * t)
      rw [pk_sub (by omega)]
      exact Int32.not_lt.mpr (nI_le (by omega) (by omega))
    obtain ⟨j, hj, e⟩ := pk_andE (xs (7 * t)) (m := 15) 4 (by decide)
    refine h_st rfl rfl ?_
    refine h_st rfl rfl ?_
    refine h_st rfl (e_lenR (by decide)) ?_
    refine h_st rfl rfl ?_
    refine h_st rfl rfl ?_
    refine h_st rfl rfl ?_
    refine h_pc (if_neg (fun z9 => (hq) (of_decide_eq_true z9))) ?_
    refine h_st rfl rfl ?_
    refine h_st rfl rfl ?_
    refine h_st rfl (lw_b hL (by omega)) ?_
    refine h_st rfl rfl ?_
    refine h_st rfl rfl ?_
    refine h_st rfl rfl ?_
    have hj : j = 0 ∨ j = 1 ∨ j = 2 ∨ j = 3 ∨ j = 4 ∨ j = 5 ∨ j = 6 ∨ j = 7 ∨ j = 8 ∨ j = 9 ∨ j = 10 ∨ j = 11 ∨ j = 12 ∨ j = 13 ∨ j = 14 ∨ j = 15 := by omega
    rcases hj with rfl | rfl | rfl | rfl | rfl | rfl | rfl | rfl | rfl | rfl | rfl | rfl | rfl | rfl | rfl | rfl
    · refine h_pc (?_ : _ = 112) ?_
      · show (if (xs (7 * t) &&& 15).toInt < (0 : Int) ∨ (13 : Int) < (xs (7 * t) &&& 15).toInt then 734 else ([112, 199, 251, 276, 316, 341, 378, 439, 512, 561, 610, 635, 672, 697] : List Nat).getD ((xs (7 * t) &&& 15).toInt - 0).toNat 0) = 112
        rw [e]
        decide
      · exact lw_0 hL ht hI hK hc
    · refine h_pc (?_ : _ = 199) ?_
      · show (if (xs (7 * t) &&& 15).toInt < (0 : Int) ∨ (13 : Int) < (xs (7 * t) &&& 15).toInt then 734 else ([112, 199, 251, 276, 316, 341, 378, 439, 512, 561, 610, 635, 672, 697] : List Nat).getD ((xs (7 * t) &&& 15).toInt - 0).toNat 0) = 199
        rw [e]
        decide
      · exact lw_1 hL ht hI hK hc
    · refine h_pc (?_ : _ = 251) ?_
      · show (if (xs (7 * t) &&& 15).toInt < (0 : Int) ∨ (13 : Int) < (xs (7 * t) &&& 15).toInt then 734 else ([112, 199, 251, 276, 316, 341, 378, 439, 512, 561, 610, 635, 672, 697] : List Nat).getD ((xs (7 * t) &&& 15).toInt - 0).toNat 0) = 251
        rw [e]
        decide
      · exact lw_2 hL ht hI hK hc
    · refine h_pc (?_ : _ = 276) ?_
      · show (if (xs (7 * t) &&& 15).toInt < (0 : Int) ∨ (13 : Int) < (xs (7 * t) &&& 15).toInt then 734 else ([112, 199, 251, 276, 316, 341, 378, 439, 512, 561, 610, 635, 672, 697] : List Nat).getD ((xs (7 * t) &&& 15).toInt - 0).toNat 0) = 276
        rw [e]
        decide
      · exact lw_3 hL ht hI hK hc
    · refine h_pc (?_ : _ = 316) ?_
      · show (if (xs (7 * t) &&& 15).toInt < (0 : Int) ∨ (13 : Int) < (xs (7 * t) &&& 15).toInt then 734 else ([112, 199, 251, 276, 316, 341, 378, 439, 512, 561, 610, 635, 672, 697] : List Nat).getD ((xs (7 * t) &&& 15).toInt - 0).toNat 0) = 316
        rw [e]
        decide
      · exact lw_4 hL ht hI hK hc
    · refine h_pc (?_ : _ = 341) ?_
      · show (if (xs (7 * t) &&& 15).toInt < (0 : Int) ∨ (13 : Int) < (xs (7 * t) &&& 15).toInt then 734 else ([112, 199, 251, 276, 316, 341, 378, 439, 512, 561, 610, 635, 672, 697] : List Nat).getD ((xs (7 * t) &&& 15).toInt - 0).toNat 0) = 341
        rw [e]
        decide
      · exact lw_5 hL ht hI hK hc
    · refine h_pc (?_ : _ = 378) ?_
      · show (if (xs (7 * t) &&& 15).toInt < (0 : Int) ∨ (13 : Int) < (xs (7 * t) &&& 15).toInt then 734 else ([112, 199, 251, 276, 316, 341, 378, 439, 512, 561, 610, 635, 672, 697] : List Nat).getD ((xs (7 * t) &&& 15).toInt - 0).toNat 0) = 378
        rw [e]
        decide
      · exact lw_6 hL ht hI hK hc
    · refine h_pc (?_ : _ = 439) ?_
      · show (if (xs (7 * t) &&& 15).toInt < (0 : Int) ∨ (13 : Int) < (xs (7 * t) &&& 15).toInt then 734 else ([112, 199, 251, 276, 316, 341, 378, 439, 512, 561, 610, 635, 672, 697] : List Nat).getD ((xs (7 * t) &&& 15).toInt - 0).toNat 0) = 439
        rw [e]
        decide
      · exact lw_7 hL ht hI hK hc
    · refine h_pc (?_ : _ = 512) ?_
      · show (if (xs (7 * t) &&& 15).toInt < (0 : Int) ∨ (13 : Int) < (xs (7 * t) &&& 15).toInt then 734 else ([112, 199, 251, 276, 316, 341, 378, 439, 512, 561, 610, 635, 672, 697] : List Nat).getD ((xs (7 * t) &&& 15).toInt - 0).toNat 0) = 512
        rw [e]
        decide
      · exact lw_8 hL ht hI hK hc
    · refine h_pc (?_ : _ = 561) ?_
      · show (if (xs (7 * t) &&& 15).toInt < (0 : Int) ∨ (13 : Int) < (xs (7 * t) &&& 15).toInt then 734 else ([112, 199, 251, 276, 316, 341, 378, 439, 512, 561, 610, 635, 672, 697] : List Nat).getD ((xs (7 * t) &&& 15).toInt - 0).toNat 0) = 561
        rw [e]
        decide
      · exact lw_9 hL ht hI hK hc
    · refine h_pc (?_ : _ = 610) ?_
      · show (if (xs (7 * t) &&& 15).toInt < (0 : Int) ∨ (13 : Int) < (xs (7 * t) &&& 15).toInt then 734 else ([112, 199, 251, 276, 316, 341, 378, 439, 512, 561, 610, 635, 672, 697] : List Nat).getD ((xs (7 * t) &&& 15).toInt - 0).toNat 0) = 610
        rw [e]
        decide
      · exact lw_10 hL ht hI hK hc
    · refine h_pc (?_ : _ = 635) ?_
      · show (if (xs (7 * t) &&& 15).toInt < (0 : Int) ∨ (13 : Int) < (xs (7 * t) &&& 15).toInt then 734 else ([112, 199, 251, 276, 316, 341, 378, 439, 512, 561, 610, 635, 672, 697] : List Nat).getD ((xs (7 * t) &&& 15).toInt - 0).toNat 0) = 635
        rw [e]
        decide
      · exact lw_11 hL ht hI hK hc
    · refine h_pc (?_ : _ = 672) ?_
      · show (if (xs (7 * t) &&& 15).toInt < (0 : Int) ∨ (13 : Int) < (xs (7 * t) &&& 15).toInt then 734 else ([112, 199, 251, 276, 316, 341, 378, 439, 512, 561, 610, 635, 672, 697] : List Nat).getD ((xs (7 * t) &&& 15).toInt - 0).toNat 0) = 672
        rw [e]
        decide
      · exact lw_12 hL ht hI hK hc
    · refine h_pc (?_ : _ = 697) ?_
      · show (if (xs (7 * t) &&& 15).toInt < (0 : Int) ∨ (13 : Int) < (xs (7 * t) &&& 15).toInt then 734 else ([112, 199, 251, 276, 316, 341, 378, 439, 512, 561, 610, 635, 672, 697] : List Nat).getD ((xs (7 * t) &&& 15).toInt - 0).toNat 0) = 697
        rw [e]
        decide
      · exact lw_13 hL ht hI hK hc
    · refine h_pc (?_ : _ = 734) ?_
      · show (if (xs (7 * t) &&& 15).toInt < (0 : Int) ∨ (13 : Int) < (xs (7 * t) &&& 15).toInt then 734 else ([112, 199, 251, 276, 316, 341, 378, 439, 512, 561, 610, 635, 672, 697] : List Nat).getD ((xs (7 * t) &&& 15).toInt - 0).toNat 0) = 734
        rw [e]
        decide
      · exact hc _ _ _ _ _ _ _ _ hI.up1 hK
    · refine h_pc (?_ : _ = 734) ?_
      · show (if (xs (7 * t) &&& 15).toInt < (0 : Int) ∨ (13 : Int) < (xs (7 * t) &&& 15).toInt then 734 else ([112, 199, 251, 276, 316, 341, 378, 439, 512, 561, 610, 635, 672, 697] : List Nat).getD ((xs (7 * t) &&& 15).toInt - 0).toNat 0) = 734
        rw [e]
        decide
      · exact hc _ _ _ _ _ _ _ _ hI.up1 hK
theorem app_at {l : List ae_C} {x : ae_C} (h : l.length = 215) : (l ++ [x])[215]? = some x := by
  rw [List.getElem?_append_right (by omega), h]
  rfl
theorem fz3_0 : fz3.2[0]? = some (nt 0) := by
  obtain ⟨f1, f2, f3, f5, hc, hlen, h0, _⟩ := fr_cls fz3_ok
  exact h0
theorem sm0 : SM fz3 (cf fz3) 0 := by
  obtain ⟨f, h⟩ := cn0
  exact ⟨wz, f, _, a0, h, rr0, aw0, rfl⟩
theorem iv0 : Iv 0 kz (cf fz3) 0 0 0 0 fz3 := by
  refine ⟨fz3_0, ty0, s00, fun p h _ => kz_0 h, rs0, rp0, ⟨fun _ => 0, ?_⟩, fz3_w.1, fz3_w.2⟩
  unfold fz3
  exact app_at fz2_ok.2
theorem lw_c1 (ra : ae_R) : hE ra 7 1 [.ref 0] ((1, 6), [.inr (7, cd_Net)]) (pV (fun σ' => σ' = fz1)) := ⟨_, gE_of (mo_ev atc_ok ra 7 1000 1 [.ref 0] _ _ (fz_eq fz1_ok)), fz1, rfl, rfl⟩
theorem lw_c2 (ra : ae_R) : hE ra 7 95 [.ref 176] ((fz1.1.1 + 1, fz1.1.2 + 41), fz1.2 ++ [.inr (8, cd_Model)]) (pV (fun σ' => σ' = fz2)) := ⟨_, gE_of (mo_ev atc_ok ra 7 3000 95 [.ref 176] _ _ (fz_eq fz2_ok.1)), fz2, rfl, rfl⟩
theorem lw_go {L : Nat} (hL : L ≤ 3584) : hG (ra0 L xs) 7 0 ((0, 0), []) (ae_ent [.retAddr 0] 7) [] 0 lwP := by
  refine h_st rfl rfl ?_
  refine h_st rfl rfl ?_
  refine h_cv1 (a0 := .ref 0) rfl (Nat.le_of_ble_eq_true rfl) rfl rfl (lw_c1 _) (fun σ1 e1 => ?_)
  have n1 : σ1.2.length = 176 := by rw [e1]; exact fz1_len
  have k2 : hE (ra0 L xs) 7 95 [.ref 176] ((σ1.1.1 + 1, σ1.1.2 + 41), σ1.2 ++ [.inr (8, cd_Model)]) (pV (fun σ' => σ' = fz2)) := by rw [e1]; exact lw_c2 _
  clear e1
  refine h_st rfl rfl ?_
  refine h_st rfl rfl ?_
  rw [n1]
  refine h_st rfl rfl ?_
  refine h_cv1 (a0 := .ref 176) rfl (Nat.le_of_ble_eq_true rfl) (e_rcv (fs := cd_Model) (by rw [← n1]; simp)) rfl k2 (fun σ2 e2 => ?_)
  have n2 : σ2.2.length = 215 := by rw [e2]; exact fz2_ok.2
  have hF : Iv 0 kz (cf fz3) 0 0 0 0 ((σ2.1.1 + 1, σ2.1.2 + (1 : Int32).toNatClampNeg), σ2.2 ++ [.inl (3, ae_zero 3 (1 : Int32).toNatClampNeg)]) := by
    rw [e2, show (1 : Int32).toNatClampNeg = 1 from by decide]
    exact iv0
  have hF2 : SM ((σ2.1.1 + 1, σ2.1.2 + (1 : Int32).toNatClampNeg), σ2.2 ++ [.inl (3, ae_zero 3 (1 : Int32).toNatClampNeg)]) (cf fz3) 0 := by
    rw [e2, show (1 : Int32).toNatClampNeg = 1 from by decide]
    exact sm0
  clear e2
  refine h_st rfl rfl ?_
  refine h_st rfl rfl ?_
  refine h_st rfl (e_na (by decide)) ?_
  rw [n2]
  refine h_st rfl rfl ?_
  refine h_st rfl rfl ?_
  refine h_st rfl rfl ?_
  exact lw_l hL 512 0 _ _ _ _ _ _ _ _ rfl hF hF2
theorem pure_ok {L : Nat} {xs : Nat → Int32} (hL : L ≤ 3584) : pure_run L xs := by
  obtain ⟨r, ⟨N, hN⟩, σF, x, rfl, rfl, b1, b2⟩ := lw_go (xs := xs) hL
  exact ⟨N, σF, hN N N (Nat.le_refl _) (Nat.le_refl _), b1, b2⟩
end LAW
