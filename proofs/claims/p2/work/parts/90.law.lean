section LAW
variable {σ σ' : ae_S} {xs : Nat → Int32} {L n t : Nat} {K K' : Nat → Nat} {F F1 F' : Nat → Nat → Int32} {c u g c' u' g' tm : Int32}
def nt (t : Int32) : ae_C := .inr (7, [.ref 1, .ref 2, .ref 3, .ref 4, .ref 6, .int t])
def Iv (n : Nat) (K : Nat → Nat) (F : Nat → Nat → Int32) (c u g tm : Int32) (σ : ae_S) : Prop := σ.2[0]? = some (nt tm) ∧ Ty σ K ∧ S0 K ∧ (∀ p, 176 ≤ p → p ≤ 215 → K p = 0) ∧ RS false σ F σ c u g F ∧ RP F g [] [] ∧ (∃ f9, σ.2[215]? = some (.inl (3, 1, .inr (.inl f9)))) ∧ Wt1 σ ≤ 1528 + n ∧ Wt2 σ ≤ 501948 + 6 * n
theorem Iv.up1 (h : Iv n K F c u g tm σ) : Iv (n + 1) K F c u g tm σ := ⟨h.1, h.2.1, h.2.2.1, h.2.2.2.1, h.2.2.2.2.1, h.2.2.2.2.2.1, h.2.2.2.2.2.2.1, by have := h.2.2.2.2.2.2.2.1; omega, by have := h.2.2.2.2.2.2.2.2; omega⟩
theorem Iv.lw {tm' : Int32} (h : Iv n K F c u g tm σ) (hl : Lw 215 K σ K' σ') (h0 : σ'.2[0]? = some (nt tm')) : Iv (n + 1) K' F c u g tm' σ' := by
  obtain ⟨-, a1, a2, a3, a4, a5, ⟨f9, a6⟩, a7, a8⟩ := h
  obtain ⟨b1, b2, b3, b4, b5, b6, b7⟩ := hl
  have hlt := (List.getElem?_eq_some_iff.mp a6).1
  have hz : ∀ p, 176 ≤ p → p ≤ 215 → K' p = 0 := fun p q1 q2 => (b4 p (by omega) (a3 p q1 q2)).1
  have hs : ∀ p, 176 ≤ p → p < 215 → σ'.2[p]? = σ.2[p]? := fun p q1 q2 => (b4 p (by omega) (a3 p q1 (by omega))).2 (by omega)
  have g9 : ∀ q k, k ≠ 0 → K q = k → K' q = k := fun q k hk e => (b3 q (by rw [e]; exact hk)).trans e
  refine ⟨h0, b1, ⟨g9 _ _ (by decide) a2.1, g9 _ _ (by decide) a2.2.1, g9 _ _ (by decide) a2.2.2.1, g9 _ _ (by decide) a2.2.2.2.1, g9 _ _ (by decide) a2.2.2.2.2.1, g9 _ _ (by decide) a2.2.2.2.2.2⟩, hz, ⟨⟨rfl, rfl, fun _ _ => rfl⟩, (hs 176 (by decide) (by decide)).trans a4.2.1, fun q hq => ?_, fun z => by cases z⟩, a5, b5, by omega, by omega⟩
  have hb := rf_A_bd (p := q.1) (t := q.2.1) (n := q.2.2.1) (m := q.2.2.2.1) (v := q.2.2.2.2) hq
  exact (hs q.1 (by omega) hb.2).trans (a4.2.2.1 q hq)
theorem rf_cov {q : Nat} (h1 : 177 ≤ q) (h2 : q < 215) : ∃ x ∈ rf_A, x.1 = q := by
  have h := List.all_eq_true.mp (show (List.range 38).all (fun i => rf_A.any (fun x => x.1 == 177 + i)) = true by decide +kernel) (q - 177) (List.mem_range.mpr (by omega))
  obtain ⟨x, hx, e⟩ := List.any_eq_true.mp h
  have e := beq_iff_eq.mp e
  exact ⟨x, hx, by omega⟩
theorem Iv.rf {b : Bool} (h : Iv n K F c u g tm σ) (hr : RS b σ F1 σ' c' u' g' F') (hP : RP F' g' [] []) : Iv n K F' c' u' g' tm σ' := by
  obtain ⟨a0, a1, a2, a3, a4, a5, ⟨f9, a6⟩, a7, a8⟩ := h
  obtain ⟨⟨r1, r2, r3⟩, r4, r5, r6⟩ := hr
  have hw : ∀ w : ae_C → Nat, (∀ x, w (.inr x) = 0) → (∀ a n g, w (.inl (a, n, .inl g)) = 0) → σ'.2.map w = σ.2.map w := fun w w1 w2 => map_same r2 (fun q x hx => by
    by_cases q1 : q < 176 ∨ 215 ≤ q
    · exact ⟨x, (r3 q q1).trans hx, rfl⟩
    · by_cases q2 : q = 176
      · subst q2
        rw [a4.2.1] at hx
        cases hx
        exact ⟨_, r4, by rw [w1, w1]⟩
      · obtain ⟨y, hy, rfl⟩ := rf_cov (q := q) (by omega) (by omega)
        rw [a4.2.2.1 y hy] at hx
        cases hx
        exact ⟨_, r5 y hy, by rw [w2, w2]⟩)
  refine ⟨(r3 0 (by decide)).trans a0, fun q hq => ?_, a2, a3, ⟨⟨rfl, rfl, fun _ _ => rfl⟩, r4, r5, fun z => by cases z⟩, hP, ⟨f9, (r3 215 (Or.inr (Nat.le_refl _))).trans a6⟩, ?_, ?_⟩
  · obtain ⟨x, x1, x2⟩ := a1 q hq
    have q1 : q < 176 ∨ 215 ≤ q := Classical.byContradiction (fun z => hq (a3 q (by omega) (by omega)))
    exact ⟨x, (r3 q q1).trans x1, x2⟩
  · unfold Wt1 at *
    rw [r1, hw (fun c => (wt c).1) (fun _ => rfl) (fun _ _ _ => rfl)]
    exact a7
  · unfold Wt2 at *
    rw [r1, hw (fun c => (wt c).2) (fun _ => rfl) (fun _ _ _ => rfl)]
    exact a8
theorem lw_b {np : Nat} {L' : ae_Ls} {s : List Value} (hL : L ≤ 3584) (h : 7 * t < L) : o_ia np (ra0 L xs) σ L' (.int (nI (7 * t)) :: .retAddr 0 :: s) = some (σ, L', .int (xs (7 * t)) :: s, np) := by
  have e := e_ro (ra := ra0 L xs) (σ := σ) (L := L') (k := s) (np := np) (q := 0) (i := nI (7 * t)) (by decide) (show ¬ (nI (7 * t) < 0 ∨ L ≤ (nI (7 * t)).toNatClampNeg) from nI_in h (by omega))
  rw [nI_clamp (by omega)] at e
  exact e
theorem lw_a {np k : Nat} {L' : ae_Ls} {s : List Value} (hL : L ≤ 3584) (h : 7 * t + k < L) : o_ia np (ra0 L xs) σ L' (.int (nI (7 * t) + nI k) :: .retAddr 0 :: s) = some (σ, L', .int (xs (7 * t + k)) :: s, np) := by
  rw [nI_add]
  have e := e_ro (ra := ra0 L xs) (σ := σ) (L := L') (k := s) (np := np) (q := 0) (i := nI (7 * t + k)) (by decide) (show ¬ (nI (7 * t + k) < 0 ∨ L ≤ (nI (7 * t + k)).toNatClampNeg) from nI_in h (by omega))
  rw [nI_clamp (by omega)] at e
  exact e
/-- the links that are set up, on both sides -/
def LK (σ : ae_S) (F : Nat → Nat → Int32) : Prop := ∃ f, σ.2[1]? = some (.inl (4, rfs 8 f)) ∧ ∀ l, l < 8 → (f l = none ↔ F 177 l = 0)
theorem LK.st (h : LK σ F) (h1 : σ'.2[1]? = σ.2[1]?) (hF : F' 177 = F 177) : LK σ' F' := by
  obtain ⟨f, a1, a2⟩ := h
  exact ⟨f, h1.trans a1, fun l hl => by rw [hF]; exact a2 l hl⟩
theorem RS.c1 {b : Bool} {σ0 : ae_S} {F0 : Nat → Nat → Int32} (h : RS b σ0 F0 σ c u g F) : σ.2[1]? = σ0.2[1]? := h.1.2.2 1 (Or.inl (by decide))
theorem lk_l {x l so ga mo ta fl : Int32} {σ2 : ae_S} (hK : LK σ F) (h1 : σ'.2[1]? = σ2.2[1]?)
    (hx : (x = 0 ∧ okL l so ga mo ta fl ∧ ∃ j f q, j < 8 ∧ l = nI j ∧ σ.2[1]? = some (.inl (4, rfs 8 f)) ∧ f j = none ∧ σ2.2[1]? = some (.inl (4, rfs 8 (va_up f j (some q))))) ∨ (x = 1 ∧ ¬ okL l so ga mo ta fl ∧ σ2.2[1]? = σ.2[1]?) ∨ (x = 2 ∧ okL l so ga mo ta fl ∧ σ2.2[1]? = σ.2[1]? ∧ ∃ j f, j < 8 ∧ l = nI j ∧ σ.2[1]? = some (.inl (4, rfs 8 f)) ∧ f j ≠ none))
    (hm : (¬ okL l so ga mo ta fl ∧ c' = 1 ∧ F' = F) ∨ (okL l so ga mo ta fl ∧ ∃ j, j < 8 ∧ l = nI j ∧ ((F 177 j ≠ 0 ∧ c' = 2 ∧ F' = F) ∨ (F 177 j = 0 ∧ c' = 0 ∧ F' 177 = upd (F 177) j 1)))) : c' = x ∧ LK σ' F' := by
  obtain ⟨f0, k1, k2⟩ := hK
  rcases hx with ⟨rfl, hok, j, f, q, hj, hlj, hs1, hfj, hs2⟩ | ⟨rfl, hno, hs2⟩ | ⟨rfl, hok, hs2, j, f, hj, hlj, hs1, hfj⟩
  · rcases hm with ⟨hno, _⟩ | ⟨_, j', hj', hlj', hm⟩
    · exact absurd hok hno
    have ejj : j' = j := nI_inj (by omega) (by omega) (hlj'.symm.trans hlj)
    subst ejj
    rw [hs1] at k1
    cases k1
    rcases hm with ⟨hm, _⟩ | ⟨_, rfl, hF⟩
    · exact absurd ((k2 j' hj).mp hfj) hm
    refine ⟨rfl, _, h1.trans hs2, fun i hi => ?_⟩
    rw [hF]
    by_cases e : i = j'
    · subst e
      rw [pk_us]
      constructor
      · intro z
        simp [va_up] at z
      · intro z
        exact absurd z (by decide)
    · rw [pk_un e]
      have : va_up f0 j' (some q) i = f0 i := by simp [va_up, e]
      rw [this]
      exact k2 i hi
  · rcases hm with ⟨_, rfl, rfl⟩ | ⟨hok, _⟩
    · exact ⟨rfl, f0, h1.trans (hs2.trans k1), k2⟩
    · exact absurd hok hno
  · rcases hm with ⟨hno, _⟩ | ⟨_, j', hj', hlj', hm⟩
    · exact absurd hok hno
    have ejj : j' = j := nI_inj (by omega) (by omega) (hlj'.symm.trans hlj)
    subst ejj
    have k1' := k1
    rw [hs1] at k1
    cases k1
    rcases hm with ⟨_, rfl, rfl⟩ | ⟨hz, _⟩
    · exact ⟨rfl, f0, h1.trans (hs2.trans k1'), k2⟩
    · exact absurd ((k2 j' hj).mpr hz) hfj
def lwP : ae_S × ae_O → Prop := pI (fun σ x => x = 1 ∧ σ.1.1 ≤ 601024 ∧ σ.1.2 ≤ 7293034)
theorem b_6 {x y a b : Int32} {A : Prop} (h : (x = a ∧ A) ∨ (x = b ∧ ¬ A)) (h2 : (y = a ∧ A) ∨ (y = b ∧ ¬ A)) : x = y := by
  rcases h with ⟨e1, q1⟩ | ⟨e1, q1⟩ <;> rcases h2 with ⟨e2, q2⟩ | ⟨e2, q2⟩
  · rw [e1, e2]
  · exact absurd q1 q2
  · exact absurd q2 q1
  · rw [e1, e2]
set_option maxRecDepth 8000 in
theorem lw_0 (hL : L ≤ 3584) (ht : 7 * t + 7 ≤ L) (hI : Iv t K F c u g u σ) (hK : LK σ F) {P : ae_S × ae_O → Prop} (hc : ∀ σ K F c u g x5 x6, Iv (t + 1) K F c u g u σ → LK σ F → hG (ra0 L xs) 7 0 σ [some (.retAddr 0), some (.ref 0), some (.ref 176), some (.ref 215), some (.int (nI (7 * t))), x5, x6] [] 745 P) {x5 x6 : Option Value} : hG (ra0 L xs) 7 0 σ [some (.retAddr 0), some (.ref 0), some (.ref 176), some (.ref 215), some (.int (nI (7 * t))), x5, x6] [] 112 P := by
  obtain ⟨f9, ho9⟩ := hI.2.2.2.2.2.2.1
  have hT := hI.2.1
  have hS := hI.2.2.1
  have hKo := hI.2.2.2.1 215 (by decide) (Nat.le_refl _)
  have h0 := hI.1
  refine h_st rfl rfl ?_
  refine h_st rfl rfl ?_
  refine h_st rfl rfl ?_
  refine h_st rfl rfl ?_
  refine h_st rfl rfl ?_
  refine h_st rfl (lw_a (k := 1) hL (by omega)) ?_
  refine h_st rfl rfl ?_
  refine h_st rfl rfl ?_
  refine h_st rfl rfl ?_
  refine h_st rfl rfl ?_
  refine h_st rfl (lw_a (k := 2) hL (by omega)) ?_
  refine h_st rfl rfl ?_
  refine h_st rfl rfl ?_
  refine h_st rfl rfl ?_
  refine h_st rfl rfl ?_
  refine h_st rfl (lw_a (k := 3) hL (by omega)) ?_
  refine h_st rfl rfl ?_
  refine h_st rfl rfl ?_
  refine h_st rfl rfl ?_
  refine h_st rfl rfl ?_
  refine h_st rfl (lw_a (k := 4) hL (by omega)) ?_
  refine h_st rfl rfl ?_
  refine h_st rfl rfl ?_
  refine h_st rfl rfl ?_
  refine h_st rfl rfl ?_
  refine h_st rfl (lw_a (k := 5) hL (by omega)) ?_
  refine h_st rfl rfl ?_
  refine h_st rfl rfl ?_
  refine h_st rfl rfl ?_
  refine h_st rfl rfl ?_
  refine h_st rfl (lw_a (k := 6) hL (by omega)) ?_
  refine h_ci7 rfl (Nat.le_of_ble_eq_true rfl) rfl rfl (c_79t hT hS ho9 hKo _ _ _ _ _ _) (fun σ2 x2 hq => ?_)
  obtain ⟨⟨K2, hlw⟩, hn0, hx2⟩ := hq
  replace hI := hI.lw hlw (hn0.trans h0)
  refine h_st rfl rfl ?_
  refine h_st rfl rfl ?_
  refine h_st rfl rfl ?_
  refine h_st rfl rfl ?_
  refine h_st rfl rfl ?_
  refine h_st rfl rfl ?_
  refine h_st rfl (lw_a (k := 1) hL (by omega)) ?_
  refine h_st rfl rfl ?_
  refine h_st rfl rfl ?_
  refine h_st rfl rfl ?_
  refine h_st rfl rfl ?_
  refine h_st rfl (lw_a (k := 2) hL (by omega)) ?_
  refine h_st rfl rfl ?_
  refine h_st rfl rfl ?_
  refine h_st rfl rfl ?_
  refine h_st rfl rfl ?_
  refine h_st rfl (lw_a (k := 3) hL (by omega)) ?_
  refine h_st rfl rfl ?_
  refine h_st rfl rfl ?_
  refine h_st rfl rfl ?_
  refine h_st rfl rfl ?_
  refine h_st rfl (lw_a (k := 4) hL (by omega)) ?_
  refine h_st rfl rfl ?_
  refine h_st rfl rfl ?_
  refine h_st rfl rfl ?_
  refine h_st rfl rfl ?_
  refine h_st rfl (lw_a (k := 5) hL (by omega)) ?_
  refine h_st rfl rfl ?_
  refine h_st rfl rfl ?_
  refine h_st rfl rfl ?_
  refine h_st rfl rfl ?_
  refine h_st rfl (lw_a (k := 6) hL (by omega)) ?_
  refine h_cv7 rfl (Nat.le_of_ble_eq_true rfl) (e_rcv hI.2.2.2.2.1.2.1) rfl (r_97t hI.2.2.2.2.1 hI.2.2.2.2.2.1 _ _ _ _ _ _) (fun σ3 hq => ?_)
  obtain ⟨c3, F3, h3, hP3, hm3⟩ := hq
  obtain ⟨hcx, hK3⟩ := lk_l hK h3.c1 hx2 (hm3.imp id (fun z => ⟨z.1, z.2.elim (fun j y => ⟨j, y.1, y.2.1, y.2.2.imp id (fun v => ⟨v.1, v.2.1, v.2.2.1⟩)⟩)⟩))
  replace hK := hK3
  replace hI := hI.rf h3 hP3
  refine h_st rfl rfl ?_
  refine h_ci1 rfl (Nat.le_of_ble_eq_true rfl) (e_rcv hI.2.2.2.2.1.2.1) rfl (r_96 hI.2.2.2.2.1.2.1) (fun σ4 x4 hq => ?_)
  obtain ⟨hss, rfl⟩ := hq
  replace hss := hss.symm
  subst hss
  refine h_st rfl rfl ?_
  refine h_st rfl rfl ?_
  refine h_pc (if_pos (decide_eq_true (hcx))) ?_
  refine h_st rfl rfl ?_
  exact hc _ _ _ _ _ _ _ _ hI hK
set_option maxRecDepth 8000 in
theorem lw_1 (hL : L ≤ 3584) (ht : 7 * t + 7 ≤ L) (hI : Iv t K F c u g u σ) (hK : LK σ F) {P : ae_S × ae_O → Prop} (hc : ∀ σ K F c u g x5 x6, Iv (t + 1) K F c u g u σ → LK σ F → hG (ra0 L xs) 7 0 σ [some (.retAddr 0), some (.ref 0), some (.ref 176), some (.ref 215), some (.int (nI (7 * t))), x5, x6] [] 745 P) {x5 x6 : Option Value} : hG (ra0 L xs) 7 0 σ [some (.retAddr 0), some (.ref 0), some (.ref 176), some (.ref 215), some (.int (nI (7 * t))), x5, x6] [] 210 P := by
  obtain ⟨f9, ho9⟩ := hI.2.2.2.2.2.2.1
  have hT := hI.2.1
  have hS := hI.2.2.1
  have hKo := hI.2.2.2.1 215 (by decide) (Nat.le_refl _)
  have h0 := hI.1
  refine h_st rfl rfl ?_
  refine h_st rfl rfl ?_
  refine h_st rfl rfl ?_
  refine h_st rfl rfl ?_
  refine h_st rfl rfl ?_
  refine h_st rfl (lw_a (k := 1) hL (by omega)) ?_
  refine h_st rfl rfl ?_
  refine h_st rfl rfl ?_
  refine h_st rfl rfl ?_
  refine h_st rfl rfl ?_
  refine h_st rfl (lw_a (k := 2) hL (by omega)) ?_
  refine h_st rfl rfl ?_
  refine h_st rfl rfl ?_
  refine h_st rfl rfl ?_
  refine h_st rfl rfl ?_
  refine h_st rfl (lw_a (k := 3) hL (by omega)) ?_
  refine h_st rfl rfl ?_
  refine h_ci5 rfl (Nat.le_of_ble_eq_true rfl) rfl rfl (c_86t hT hS ho9 hKo _ _ _) (fun σ2 x2 hq => ?_)
  obtain ⟨⟨K2, hlw⟩, hn0, hn1⟩ := hq
  replace hI := hI.lw hlw (hn0.trans h0)
  replace hK := hK.st (F' := F) hn1 rfl
  refine h_st rfl rfl ?_
  refine h_st rfl rfl ?_
  refine h_st rfl rfl ?_
  refine h_st rfl rfl ?_
  refine h_st rfl rfl ?_
  refine h_st rfl rfl ?_
  refine h_st rfl (lw_a (k := 1) hL (by omega)) ?_
  refine h_st rfl rfl ?_
  refine h_st rfl rfl ?_
  refine h_st rfl rfl ?_
  refine h_st rfl rfl ?_
  refine h_st rfl (lw_a (k := 2) hL (by omega)) ?_
  refine h_st rfl rfl ?_
  refine h_st rfl rfl ?_
  refine h_st rfl rfl ?_
  refine h_st rfl rfl ?_
  refine h_st rfl (lw_a (k := 3) hL (by omega)) ?_
  refine h_ci4 rfl (Nat.le_of_ble_eq_true rfl) (e_rcv hI.2.2.2.2.1.2.1) rfl (r_98t hI.2.2.2.2.1 hI.2.2.2.2.2.1 _ _ _) (fun σ3 y3 hq => ?_)
  obtain ⟨c3, F3, h3, hP3, ag3⟩ := hq
  replace hK := hK.st h3.c1 (ag3 177 (by decide))
  replace hI := hI.rf h3 hP3
  refine h_st rfl rfl ?_
  refine h_st rfl rfl ?_
  exact hc _ _ _ _ _ _ _ _ hI hK
set_option maxRecDepth 8000 in
theorem lw_2 (hL : L ≤ 3584) (ht : 7 * t + 7 ≤ L) (hI : Iv t K F c u g u σ) (hK : LK σ F) {P : ae_S × ae_O → Prop} (hc : ∀ σ K F c u g x5 x6, Iv (t + 1) K F c u g u σ → LK σ F → hG (ra0 L xs) 7 0 σ [some (.retAddr 0), some (.ref 0), some (.ref 176), some (.ref 215), some (.int (nI (7 * t))), x5, x6] [] 745 P) {x5 x6 : Option Value} : hG (ra0 L xs) 7 0 σ [some (.retAddr 0), some (.ref 0), some (.ref 176), some (.ref 215), some (.int (nI (7 * t))), x5, x6] [] 262 P := by
  obtain ⟨f9, ho9⟩ := hI.2.2.2.2.2.2.1
  have hT := hI.2.1
  have hS := hI.2.2.1
  have hKo := hI.2.2.2.1 215 (by decide) (Nat.le_refl _)
  have h0 := hI.1
  refine h_st rfl rfl ?_
  refine h_st rfl rfl ?_
  refine h_st rfl rfl ?_
  refine h_st rfl rfl ?_
  refine h_st rfl rfl ?_
  refine h_st rfl (lw_a (k := 1) hL (by omega)) ?_
  refine h_ci2 rfl (Nat.le_of_ble_eq_true rfl) (rcv1 hT hS.1) rfl (c_6t hT hS rfl rfl rfl h0 _) (fun σ2 x2 hq => ?_)
  obtain ⟨K2, ex, h02, s3⟩ := hq
  replace hI := hI.lw (ex.up.lw (by decide) (by decide) ho9 hKo) h02
  replace hK := hK.st (F' := F) (ex.c1 hS.2.1) rfl
  refine h_st rfl rfl ?_
  refine h_st rfl rfl ?_
  refine h_st rfl rfl ?_
  refine h_st rfl rfl ?_
  refine h_st rfl rfl ?_
  refine h_st rfl rfl ?_
  refine h_st rfl (lw_a (k := 1) hL (by omega)) ?_
  refine h_ci2 rfl (Nat.le_of_ble_eq_true rfl) (e_rcv hI.2.2.2.2.1.2.1) rfl (r_101tt hI.2.2.2.2.1 hI.2.2.2.2.2.1 _) (fun σ3 y3 hq => ?_)
  obtain ⟨u2, F3, h3, hP3, ag3⟩ := hq
  replace hK := hK.st h3.c1 (ag3 177 (by decide))
  replace hI := hI.rf h3 hP3
  refine h_st rfl rfl ?_
  refine h_st rfl rfl ?_
  exact hc _ _ _ _ _ _ _ _ hI hK
set_option maxRecDepth 8000 in
theorem lw_3 (hL : L ≤ 3584) (ht : 7 * t + 7 ≤ L) (hI : Iv t K F c u g u σ) (hK : LK σ F) {P : ae_S × ae_O → Prop} (hc : ∀ σ K F c u g x5 x6, Iv (t + 1) K F c u g u σ → LK σ F → hG (ra0 L xs) 7 0 σ [some (.retAddr 0), some (.ref 0), some (.ref 176), some (.ref 215), some (.int (nI (7 * t))), x5, x6] [] 745 P) {x5 x6 : Option Value} : hG (ra0 L xs) 7 0 σ [some (.retAddr 0), some (.ref 0), some (.ref 176), some (.ref 215), some (.int (nI (7 * t))), x5, x6] [] 287 P := by
  obtain ⟨f9, ho9⟩ := hI.2.2.2.2.2.2.1
  have hT := hI.2.1
  have hS := hI.2.2.1
  have hKo := hI.2.2.2.1 215 (by decide) (Nat.le_refl _)
  have h0 := hI.1
  refine h_st rfl rfl ?_
  refine h_st rfl rfl ?_
  refine h_st rfl rfl ?_
  refine h_st rfl rfl ?_
  refine h_st rfl rfl ?_
  refine h_st rfl (lw_a (k := 1) hL (by omega)) ?_
  refine h_st rfl rfl ?_
  refine h_st rfl rfl ?_
  refine h_st rfl rfl ?_
  refine h_st rfl rfl ?_
  refine h_st rfl (lw_a (k := 2) hL (by omega)) ?_
  refine h_st rfl rfl ?_
  refine h_ci4 rfl (Nat.le_of_ble_eq_true rfl) rfl rfl (c_91t hT hS ho9 hKo _ _) (fun σ2 x2 hq => ?_)
  obtain ⟨⟨K2, hlw⟩, hn0, hn1⟩ := hq
  replace hI := hI.lw hlw (hn0.trans h0)
  replace hK := hK.st (F' := F) hn1 rfl
  refine h_st rfl rfl ?_
  refine h_st rfl rfl ?_
  refine h_st rfl rfl ?_
  refine h_st rfl rfl ?_
  refine h_st rfl rfl ?_
  refine h_st rfl rfl ?_
  refine h_st rfl (lw_a (k := 1) hL (by omega)) ?_
  refine h_st rfl rfl ?_
  refine h_st rfl rfl ?_
  refine h_st rfl rfl ?_
  refine h_st rfl rfl ?_
  refine h_st rfl (lw_a (k := 2) hL (by omega)) ?_
  refine h_ci3 rfl (Nat.le_of_ble_eq_true rfl) (e_rcv hI.2.2.2.2.1.2.1) rfl (r_130t hI.2.2.2.2.1 hI.2.2.2.2.2.1 _ _) (fun σ3 y3 hq => ?_)
  obtain ⟨c3, g3, F3, h3, hP3, ag3⟩ := hq
  replace hK := hK.st h3.c1 (ag3 177 (by decide))
  replace hI := hI.rf h3 hP3
  refine h_st rfl rfl ?_
  refine h_st rfl rfl ?_
  exact hc _ _ _ _ _ _ _ _ hI hK
set_option maxRecDepth 8000 in
theorem lw_4 (hL : L ≤ 3584) (ht : 7 * t + 7 ≤ L) (hI : Iv t K F c u g u σ) (hK : LK σ F) {P : ae_S × ae_O → Prop} (hc : ∀ σ K F c u g x5 x6, Iv (t + 1) K F c u g u σ → LK σ F → hG (ra0 L xs) 7 0 σ [some (.retAddr 0), some (.ref 0), some (.ref 176), some (.ref 215), some (.int (nI (7 * t))), x5, x6] [] 745 P) {x5 x6 : Option Value} : hG (ra0 L xs) 7 0 σ [some (.retAddr 0), some (.ref 0), some (.ref 176), some (.ref 215), some (.int (nI (7 * t))), x5, x6] [] 327 P := by
  obtain ⟨f9, ho9⟩ := hI.2.2.2.2.2.2.1
  have hT := hI.2.1
  have hS := hI.2.2.1
  have hKo := hI.2.2.2.1 215 (by decide) (Nat.le_refl _)
  have h0 := hI.1
  refine h_st rfl rfl ?_
  refine h_st rfl rfl ?_
  refine h_st rfl rfl ?_
  refine h_st rfl rfl ?_
  refine h_st rfl rfl ?_
  refine h_st rfl (lw_a (k := 1) hL (by omega)) ?_
  refine h_ci2 rfl (Nat.le_of_ble_eq_true rfl) (rcv1 hT hS.1) rfl (c_63t hT hS _) (fun σ2 x2 hq => ?_)
  replace hq := hq.symm
  subst hq
  replace hI := hI.up1
  refine h_st rfl rfl ?_
  refine h_st rfl rfl ?_
  refine h_st rfl rfl ?_
  refine h_st rfl rfl ?_
  refine h_st rfl rfl ?_
  refine h_st rfl rfl ?_
  refine h_st rfl (lw_a (k := 1) hL (by omega)) ?_
  refine h_ci2 rfl (Nat.le_of_ble_eq_true rfl) (e_rcv hI.2.2.2.2.1.2.1) rfl (r_131t hI.2.2.2.2.1 hI.2.2.2.2.2.1.2.2.2.2.2.2 _) (fun σ3 y3 hq => ?_)
  replace hK := hK.st (F' := F) hq.c1 rfl
  replace hI := hI.rf hq hI.2.2.2.2.2.1
  refine h_st rfl rfl ?_
  refine h_st rfl rfl ?_
  exact hc _ _ _ _ _ _ _ _ hI hK
set_option maxRecDepth 8000 in
theorem lw_5 (hL : L ≤ 3584) (ht : 7 * t + 7 ≤ L) (hI : Iv t K F c u g u σ) (hK : LK σ F) {P : ae_S × ae_O → Prop} (hc : ∀ σ K F c u g x5 x6, Iv (t + 1) K F c u g u σ → LK σ F → hG (ra0 L xs) 7 0 σ [some (.retAddr 0), some (.ref 0), some (.ref 176), some (.ref 215), some (.int (nI (7 * t))), x5, x6] [] 745 P) {x5 x6 : Option Value} : hG (ra0 L xs) 7 0 σ [some (.retAddr 0), some (.ref 0), some (.ref 176), some (.ref 215), some (.int (nI (7 * t))), x5, x6] [] 352 P := by
  obtain ⟨f9, ho9⟩ := hI.2.2.2.2.2.2.1
  have hT := hI.2.1
  have hS := hI.2.2.1
  have hKo := hI.2.2.2.1 215 (by decide) (Nat.le_refl _)
  have h0 := hI.1
  refine h_st rfl rfl ?_
  refine h_st rfl rfl ?_
  refine h_st rfl rfl ?_
  refine h_st rfl rfl ?_
  refine h_st rfl rfl ?_
  refine h_st rfl (lw_a (k := 1) hL (by omega)) ?_
  refine h_st rfl rfl ?_
  refine h_st rfl rfl ?_
  refine h_st rfl rfl ?_
  refine h_st rfl rfl ?_
  refine h_st rfl (lw_a (k := 2) hL (by omega)) ?_
  refine h_ci3 rfl (Nat.le_of_ble_eq_true rfl) (rcv1 hT hS.1) rfl (c_64t hT hS _ _) (fun σ2 x2 hq => ?_)
  replace hq := hq.symm
  subst hq
  replace hI := hI.up1
  refine h_st rfl rfl ?_
  refine h_st rfl rfl ?_
  refine h_st rfl rfl ?_
  refine h_st rfl rfl ?_
  refine h_st rfl rfl ?_
  refine h_st rfl rfl ?_
  refine h_st rfl (lw_a (k := 1) hL (by omega)) ?_
  refine h_st rfl rfl ?_
  refine h_st rfl rfl ?_
  refine h_st rfl rfl ?_
  refine h_st rfl rfl ?_
  refine h_st rfl (lw_a (k := 2) hL (by omega)) ?_
  refine h_ci3 rfl (Nat.le_of_ble_eq_true rfl) (e_rcv hI.2.2.2.2.1.2.1) rfl (r_132t hI.2.2.2.2.1 _ _) (fun σ3 y3 hq => ?_)
  replace hK := hK.st (F' := F) hq.c1 rfl
  replace hI := hI.rf hq hI.2.2.2.2.2.1
  refine h_st rfl rfl ?_
  refine h_st rfl rfl ?_
  exact hc _ _ _ _ _ _ _ _ hI hK
set_option maxRecDepth 8000 in
theorem lw_6 (hL : L ≤ 3584) (ht : 7 * t + 7 ≤ L) (hI : Iv t K F c u g u σ) (hK : LK σ F) {P : ae_S × ae_O → Prop} (hc : ∀ σ K F c u g x5 x6, Iv (t + 1) K F c u g u σ → LK σ F → hG (ra0 L xs) 7 0 σ [some (.retAddr 0), some (.ref 0), some (.ref 176), some (.ref 215), some (.int (nI (7 * t))), x5, x6] [] 745 P) {x5 x6 : Option Value} : hG (ra0 L xs) 7 0 σ [some (.retAddr 0), some (.ref 0), some (.ref 176), some (.ref 215), some (.int (nI (7 * t))), x5, x6] [] 389 P := by
  obtain ⟨f9, ho9⟩ := hI.2.2.2.2.2.2.1
  have hT := hI.2.1
  have hS := hI.2.2.1
  have hKo := hI.2.2.2.1 215 (by decide) (Nat.le_refl _)
  have h0 := hI.1
  refine h_st rfl rfl ?_
  refine h_st rfl rfl ?_
  refine h_st rfl rfl ?_
  refine h_st rfl rfl ?_
  refine h_st rfl rfl ?_
  refine h_st rfl (lw_a (k := 1) hL (by omega)) ?_
  refine h_st rfl rfl ?_
  refine h_st rfl rfl ?_
  refine h_st rfl rfl ?_
  refine h_st rfl rfl ?_
  refine h_st rfl (lw_a (k := 2) hL (by omega)) ?_
  refine h_st rfl rfl ?_
  refine h_st rfl rfl ?_
  refine h_st rfl rfl ?_
  refine h_st rfl rfl ?_
  refine h_st rfl (lw_a (k := 3) hL (by omega)) ?_
  refine h_st rfl rfl ?_
  refine h_st rfl rfl ?_
  refine h_st rfl rfl ?_
  refine h_st rfl rfl ?_
  refine h_st rfl (lw_a (k := 4) hL (by omega)) ?_
  refine h_ci5 rfl (Nat.le_of_ble_eq_true rfl) (rcv1 hT hS.1) rfl (c_67t (b := true) hT hS _ _ _ _) (fun σ2 x2 hq => ?_)
  obtain ⟨ex, s3⟩ := hq
  replace hI := hI.lw (ex.up.lw (by decide) (by decide) ho9 hKo) ((ex.cs (Or.inl hS.1)).trans h0)
  replace hK := hK.st (F' := F) (ex.c1 hS.2.1) rfl
  refine h_st rfl rfl ?_
  refine h_st rfl rfl ?_
  refine h_st rfl rfl ?_
  refine h_st rfl rfl ?_
  refine h_st rfl rfl ?_
  refine h_st rfl rfl ?_
  refine h_st rfl (lw_a (k := 1) hL (by omega)) ?_
  refine h_st rfl rfl ?_
  refine h_st rfl rfl ?_
  refine h_st rfl rfl ?_
  refine h_st rfl rfl ?_
  refine h_st rfl (lw_a (k := 2) hL (by omega)) ?_
  refine h_st rfl rfl ?_
  refine h_st rfl rfl ?_
  refine h_st rfl rfl ?_
  refine h_st rfl rfl ?_
  refine h_st rfl (lw_a (k := 3) hL (by omega)) ?_
  refine h_st rfl rfl ?_
  refine h_st rfl rfl ?_
  refine h_st rfl rfl ?_
  refine h_st rfl rfl ?_
  refine h_st rfl (lw_a (k := 4) hL (by omega)) ?_
  refine h_ci5 rfl (Nat.le_of_ble_eq_true rfl) (e_rcv hI.2.2.2.2.1.2.1) rfl (r_133t hI.2.2.2.2.1.base hI.2.2.2.2.2.1 _ _ _ _) (fun σ3 y3 hq => ?_)
  obtain ⟨⟨F3, h3, hP3⟩, u2⟩ := hq
  replace hK := hK.st h3.c1 (h3.2.2.2 rfl 177 (by decide) (by decide))
  replace hI := hI.rf h3 hP3
  refine h_st rfl rfl ?_
  refine h_st rfl rfl ?_
  exact hc _ _ _ _ _ _ _ _ hI hK
set_option maxRecDepth 8000 in
theorem lw_7 (hL : L ≤ 3584) (ht : 7 * t + 7 ≤ L) (hI : Iv t K F c u g u σ) (hK : LK σ F) {P : ae_S × ae_O → Prop} (hc : ∀ σ K F c u g x5 x6, Iv (t + 1) K F c u g u σ → LK σ F → hG (ra0 L xs) 7 0 σ [some (.retAddr 0), some (.ref 0), some (.ref 176), some (.ref 215), some (.int (nI (7 * t))), x5, x6] [] 745 P) {x5 x6 : Option Value} : hG (ra0 L xs) 7 0 σ [some (.retAddr 0), some (.ref 0), some (.ref 176), some (.ref 215), some (.int (nI (7 * t))), x5, x6] [] 450 P := by
  obtain ⟨f9, ho9⟩ := hI.2.2.2.2.2.2.1
  have hT := hI.2.1
  have hS := hI.2.2.1
  have hKo := hI.2.2.2.1 215 (by decide) (Nat.le_refl _)
  have h0 := hI.1
  refine h_st rfl rfl ?_
  refine h_st rfl rfl ?_
  refine h_st rfl rfl ?_
  refine h_st rfl rfl ?_
  refine h_st rfl rfl ?_
  refine h_st rfl (lw_a (k := 1) hL (by omega)) ?_
  refine h_st rfl rfl ?_
  refine h_st rfl rfl ?_
  refine h_st rfl rfl ?_
  refine h_st rfl rfl ?_
  refine h_st rfl (lw_a (k := 2) hL (by omega)) ?_
  refine h_st rfl rfl ?_
  refine h_st rfl rfl ?_
  refine h_st rfl rfl ?_
  refine h_st rfl rfl ?_
  refine h_st rfl (lw_a (k := 3) hL (by omega)) ?_
  refine h_st rfl rfl ?_
  refine h_st rfl rfl ?_
  refine h_st rfl rfl ?_
  refine h_st rfl rfl ?_
  refine h_st rfl (lw_a (k := 4) hL (by omega)) ?_
  refine h_st rfl rfl ?_
  refine h_st rfl rfl ?_
  refine h_st rfl rfl ?_
  refine h_st rfl rfl ?_
  refine h_st rfl (lw_a (k := 5) hL (by omega)) ?_
  refine h_ci6 rfl (Nat.le_of_ble_eq_true rfl) (rcv1 hT hS.1) rfl (c_69t (b := true) hT hS rfl _ _ _ _ _) (fun σ2 x2 hq => ?_)
  obtain ⟨K2, ex⟩ := hq
  replace hI := hI.lw (ex.up.lw (by decide) (by decide) ho9 hKo) ((ex.cs (Or.inl hS.1)).trans h0)
  replace hK := hK.st (F' := F) (ex.c1 hS.2.1) rfl
  refine h_st rfl rfl ?_
  refine h_st rfl rfl ?_
  refine h_st rfl rfl ?_
  refine h_st rfl rfl ?_
  refine h_st rfl rfl ?_
  refine h_st rfl rfl ?_
  refine h_st rfl (lw_a (k := 1) hL (by omega)) ?_
  refine h_st rfl rfl ?_
  refine h_st rfl rfl ?_
  refine h_st rfl rfl ?_
  refine h_st rfl rfl ?_
  refine h_st rfl (lw_a (k := 2) hL (by omega)) ?_
  refine h_st rfl rfl ?_
  refine h_st rfl rfl ?_
  refine h_st rfl rfl ?_
  refine h_st rfl rfl ?_
  refine h_st rfl (lw_a (k := 3) hL (by omega)) ?_
  refine h_st rfl rfl ?_
  refine h_st rfl rfl ?_
  refine h_st rfl rfl ?_
  refine h_st rfl rfl ?_
  refine h_st rfl (lw_a (k := 4) hL (by omega)) ?_
  refine h_st rfl rfl ?_
  refine h_st rfl rfl ?_
  refine h_st rfl rfl ?_
  refine h_st rfl rfl ?_
  refine h_st rfl (lw_a (k := 5) hL (by omega)) ?_
  refine h_ci6 rfl (Nat.le_of_ble_eq_true rfl) (e_rcv hI.2.2.2.2.1.2.1) rfl (r_135t hI.2.2.2.2.1 hI.2.2.2.2.2.1 _ _ _ _ _) (fun σ3 y3 hq => ?_)
  obtain ⟨F3, h3, hP3, ag3⟩ := hq
  replace hK := hK.st h3.c1 (ag3 177 (by decide))
  replace hI := hI.rf h3 hP3
  refine h_st rfl rfl ?_
  refine h_st rfl rfl ?_
  exact hc _ _ _ _ _ _ _ _ hI hK
set_option maxRecDepth 8000 in
theorem lw_8 (hL : L ≤ 3584) (ht : 7 * t + 7 ≤ L) (hI : Iv t K F c u g u σ) (hK : LK σ F) {P : ae_S × ae_O → Prop} (hc : ∀ σ K F c u g x5 x6, Iv (t + 1) K F c u g u σ → LK σ F → hG (ra0 L xs) 7 0 σ [some (.retAddr 0), some (.ref 0), some (.ref 176), some (.ref 215), some (.int (nI (7 * t))), x5, x6] [] 745 P) {x5 x6 : Option Value} : hG (ra0 L xs) 7 0 σ [some (.retAddr 0), some (.ref 0), some (.ref 176), some (.ref 215), some (.int (nI (7 * t))), x5, x6] [] 523 P := by
  obtain ⟨f9, ho9⟩ := hI.2.2.2.2.2.2.1
  have hT := hI.2.1
  have hS := hI.2.2.1
  have hKo := hI.2.2.2.1 215 (by decide) (Nat.le_refl _)
  have h0 := hI.1
  refine h_st rfl rfl ?_
  refine h_st rfl rfl ?_
  refine h_st rfl rfl ?_
  refine h_st rfl rfl ?_
  refine h_st rfl rfl ?_
  refine h_st rfl (lw_a (k := 1) hL (by omega)) ?_
  refine h_st rfl rfl ?_
  refine h_st rfl rfl ?_
  refine h_st rfl rfl ?_
  refine h_st rfl rfl ?_
  refine h_st rfl (lw_a (k := 2) hL (by omega)) ?_
  refine h_st rfl rfl ?_
  refine h_st rfl rfl ?_
  refine h_st rfl rfl ?_
  refine h_st rfl rfl ?_
  refine h_st rfl (lw_a (k := 3) hL (by omega)) ?_
  refine h_ci4 rfl (Nat.le_of_ble_eq_true rfl) (rcv1 hT hS.1) rfl (c_70t hT hS _ _ _) (fun σ2 x2 hq => ?_)
  replace hq := hq.symm
  subst hq
  replace hI := hI.up1
  refine h_st rfl rfl ?_
  refine h_st rfl rfl ?_
  refine h_st rfl rfl ?_
  refine h_st rfl rfl ?_
  refine h_st rfl rfl ?_
  refine h_st rfl rfl ?_
  refine h_st rfl (lw_a (k := 1) hL (by omega)) ?_
  refine h_st rfl rfl ?_
  refine h_st rfl rfl ?_
  refine h_st rfl rfl ?_
  refine h_st rfl rfl ?_
  refine h_st rfl (lw_a (k := 2) hL (by omega)) ?_
  refine h_st rfl rfl ?_
  refine h_st rfl rfl ?_
  refine h_st rfl rfl ?_
  refine h_st rfl rfl ?_
  refine h_st rfl (lw_a (k := 3) hL (by omega)) ?_
  refine h_ci4 rfl (Nat.le_of_ble_eq_true rfl) (e_rcv hI.2.2.2.2.1.2.1) rfl (r_136t hI.2.2.2.2.1 hI.2.2.2.2.2.1 _ _ _) (fun σ3 y3 hq => ?_)
  replace hK := hK.st (F' := F) hq.c1 rfl
  replace hI := hI.rf hq hI.2.2.2.2.2.1
  refine h_st rfl rfl ?_
  refine h_st rfl rfl ?_
  exact hc _ _ _ _ _ _ _ _ hI hK
set_option maxRecDepth 8000 in
theorem lw_9 (hL : L ≤ 3584) (ht : 7 * t + 7 ≤ L) (hI : Iv t K F c u g u σ) (hK : LK σ F) {P : ae_S × ae_O → Prop} (hc : ∀ σ K F c u g x5 x6, Iv (t + 1) K F c u g u σ → LK σ F → hG (ra0 L xs) 7 0 σ [some (.retAddr 0), some (.ref 0), some (.ref 176), some (.ref 215), some (.int (nI (7 * t))), x5, x6] [] 745 P) {x5 x6 : Option Value} : hG (ra0 L xs) 7 0 σ [some (.retAddr 0), some (.ref 0), some (.ref 176), some (.ref 215), some (.int (nI (7 * t))), x5, x6] [] 572 P := by
  obtain ⟨f9, ho9⟩ := hI.2.2.2.2.2.2.1
  have hT := hI.2.1
  have hS := hI.2.2.1
  have hKo := hI.2.2.2.1 215 (by decide) (Nat.le_refl _)
  have h0 := hI.1
  refine h_st rfl rfl ?_
  refine h_st rfl rfl ?_
  refine h_st rfl rfl ?_
  refine h_st rfl rfl ?_
  refine h_st rfl rfl ?_
  refine h_st rfl (lw_a (k := 1) hL (by omega)) ?_
  refine h_st rfl rfl ?_
  refine h_st rfl rfl ?_
  refine h_st rfl rfl ?_
  refine h_st rfl rfl ?_
  refine h_st rfl (lw_a (k := 2) hL (by omega)) ?_
  refine h_st rfl rfl ?_
  refine h_st rfl rfl ?_
  refine h_st rfl rfl ?_
  refine h_st rfl rfl ?_
  refine h_st rfl (lw_a (k := 3) hL (by omega)) ?_
  refine h_ci4 rfl (Nat.le_of_ble_eq_true rfl) (rcv1 hT hS.1) rfl (c_71t hT hS _ _ _) (fun σ2 x2 hq => ?_)
  replace hq := hq.symm
  subst hq
  replace hI := hI.up1
  refine h_st rfl rfl ?_
  refine h_st rfl rfl ?_
  refine h_st rfl rfl ?_
  refine h_st rfl rfl ?_
  refine h_st rfl rfl ?_
  refine h_st rfl rfl ?_
  refine h_st rfl (lw_a (k := 1) hL (by omega)) ?_
  refine h_st rfl rfl ?_
  refine h_st rfl rfl ?_
  refine h_st rfl rfl ?_
  refine h_st rfl rfl ?_
  refine h_st rfl (lw_a (k := 2) hL (by omega)) ?_
  refine h_st rfl rfl ?_
  refine h_st rfl rfl ?_
  refine h_st rfl rfl ?_
  refine h_st rfl rfl ?_
  refine h_st rfl (lw_a (k := 3) hL (by omega)) ?_
  refine h_ci4 rfl (Nat.le_of_ble_eq_true rfl) (e_rcv hI.2.2.2.2.1.2.1) rfl (r_137t hI.2.2.2.2.1 _ _ _) (fun σ3 y3 hq => ?_)
  replace hK := hK.st (F' := F) hq.c1 rfl
  replace hI := hI.rf hq hI.2.2.2.2.2.1
  refine h_st rfl rfl ?_
  refine h_st rfl rfl ?_
  exact hc _ _ _ _ _ _ _ _ hI hK
set_option maxRecDepth 8000 in
theorem lw_10 (hL : L ≤ 3584) (ht : 7 * t + 7 ≤ L) (hI : Iv t K F c u g u σ) (hK : LK σ F) {P : ae_S × ae_O → Prop} (hc : ∀ σ K F c u g x5 x6, Iv (t + 1) K F c u g u σ → LK σ F → hG (ra0 L xs) 7 0 σ [some (.retAddr 0), some (.ref 0), some (.ref 176), some (.ref 215), some (.int (nI (7 * t))), x5, x6] [] 745 P) {x5 x6 : Option Value} : hG (ra0 L xs) 7 0 σ [some (.retAddr 0), some (.ref 0), some (.ref 176), some (.ref 215), some (.int (nI (7 * t))), x5, x6] [] 621 P := by
  obtain ⟨f9, ho9⟩ := hI.2.2.2.2.2.2.1
  have hT := hI.2.1
  have hS := hI.2.2.1
  have hKo := hI.2.2.2.1 215 (by decide) (Nat.le_refl _)
  have h0 := hI.1
  refine h_st rfl rfl ?_
  refine h_st rfl rfl ?_
  refine h_st rfl rfl ?_
  refine h_st rfl rfl ?_
  refine h_st rfl rfl ?_
  refine h_st rfl (lw_a (k := 1) hL (by omega)) ?_
  refine h_ci2 rfl (Nat.le_of_ble_eq_true rfl) (rcv1 hT hS.1) rfl (c_72t hT hS _) (fun σ2 x2 hq => ?_)
  replace hq := hq.symm
  subst hq
  replace hI := hI.up1
  refine h_st rfl rfl ?_
  refine h_st rfl rfl ?_
  refine h_st rfl rfl ?_
  refine h_st rfl rfl ?_
  refine h_st rfl rfl ?_
  refine h_st rfl rfl ?_
  refine h_st rfl (lw_a (k := 1) hL (by omega)) ?_
  refine h_ci2 rfl (Nat.le_of_ble_eq_true rfl) (e_rcv hI.2.2.2.2.1.2.1) rfl (r_138t hI.2.2.2.2.1 _) (fun σ3 y3 hq => ?_)
  replace hK := hK.st (F' := F) hq.1.c1 rfl
  replace hI := hI.rf hq.1 hI.2.2.2.2.2.1
  refine h_st rfl rfl ?_
  refine h_st rfl rfl ?_
  exact hc _ _ _ _ _ _ _ _ hI hK
set_option maxRecDepth 8000 in
theorem lw_11 (hL : L ≤ 3584) (ht : 7 * t + 7 ≤ L) (hI : Iv t K F c u g u σ) (hK : LK σ F) {P : ae_S × ae_O → Prop} (hc : ∀ σ K F c u g x5 x6, Iv (t + 1) K F c u g u σ → LK σ F → hG (ra0 L xs) 7 0 σ [some (.retAddr 0), some (.ref 0), some (.ref 176), some (.ref 215), some (.int (nI (7 * t))), x5, x6] [] 745 P) {x5 x6 : Option Value} : hG (ra0 L xs) 7 0 σ [some (.retAddr 0), some (.ref 0), some (.ref 176), some (.ref 215), some (.int (nI (7 * t))), x5, x6] [] 646 P := by
  obtain ⟨f9, ho9⟩ := hI.2.2.2.2.2.2.1
  have hT := hI.2.1
  have hS := hI.2.2.1
  have hKo := hI.2.2.2.1 215 (by decide) (Nat.le_refl _)
  have h0 := hI.1
  refine h_st rfl rfl ?_
  refine h_st rfl rfl ?_
  refine h_st rfl rfl ?_
  refine h_st rfl rfl ?_
  refine h_st rfl rfl ?_
  refine h_st rfl (lw_a (k := 1) hL (by omega)) ?_
  refine h_st rfl rfl ?_
  refine h_st rfl rfl ?_
  refine h_st rfl rfl ?_
  refine h_st rfl rfl ?_
  refine h_st rfl (lw_a (k := 2) hL (by omega)) ?_
  refine h_ci3 rfl (Nat.le_of_ble_eq_true rfl) (rcv1 hT hS.1) rfl (c_73t hT hS _ _) (fun σ2 x2 hq => ?_)
  replace hq := hq.symm
  subst hq
  replace hI := hI.up1
  refine h_st rfl rfl ?_
  refine h_st rfl rfl ?_
  refine h_st rfl rfl ?_
  refine h_st rfl rfl ?_
  refine h_st rfl rfl ?_
  refine h_st rfl rfl ?_
  refine h_st rfl (lw_a (k := 1) hL (by omega)) ?_
  refine h_st rfl rfl ?_
  refine h_st rfl rfl ?_
  refine h_st rfl rfl ?_
  refine h_st rfl rfl ?_
  refine h_st rfl (lw_a (k := 2) hL (by omega)) ?_
  refine h_ci3 rfl (Nat.le_of_ble_eq_true rfl) (e_rcv hI.2.2.2.2.1.2.1) rfl (r_139t hI.2.2.2.2.1 _ _) (fun σ3 y3 hq => ?_)
  replace hK := hK.st (F' := F) hq.c1 rfl
  replace hI := hI.rf hq hI.2.2.2.2.2.1
  refine h_st rfl rfl ?_
  refine h_st rfl rfl ?_
  exact hc _ _ _ _ _ _ _ _ hI hK
set_option maxRecDepth 8000 in
theorem lw_12 (hL : L ≤ 3584) (ht : 7 * t + 7 ≤ L) (hI : Iv t K F c u g u σ) (hK : LK σ F) {P : ae_S × ae_O → Prop} (hc : ∀ σ K F c u g x5 x6, Iv (t + 1) K F c u g u σ → LK σ F → hG (ra0 L xs) 7 0 σ [some (.retAddr 0), some (.ref 0), some (.ref 176), some (.ref 215), some (.int (nI (7 * t))), x5, x6] [] 745 P) {x5 x6 : Option Value} : hG (ra0 L xs) 7 0 σ [some (.retAddr 0), some (.ref 0), some (.ref 176), some (.ref 215), some (.int (nI (7 * t))), x5, x6] [] 683 P := by
  obtain ⟨f9, ho9⟩ := hI.2.2.2.2.2.2.1
  have hT := hI.2.1
  have hS := hI.2.2.1
  have hKo := hI.2.2.2.1 215 (by decide) (Nat.le_refl _)
  have h0 := hI.1
  refine h_st rfl rfl ?_
  refine h_st rfl rfl ?_
  refine h_st rfl rfl ?_
  refine h_st rfl rfl ?_
  refine h_st rfl rfl ?_
  refine h_st rfl (lw_a (k := 1) hL (by omega)) ?_
  refine h_ci2 rfl (Nat.le_of_ble_eq_true rfl) (rcv1 hT hS.1) rfl (c_74t hT hS _) (fun σ2 x2 hq => ?_)
  replace hq := hq.symm
  subst hq
  replace hI := hI.up1
  refine h_st rfl rfl ?_
  refine h_st rfl rfl ?_
  refine h_st rfl rfl ?_
  refine h_st rfl rfl ?_
  refine h_st rfl rfl ?_
  refine h_st rfl rfl ?_
  refine h_st rfl (lw_a (k := 1) hL (by omega)) ?_
  refine h_ci2 rfl (Nat.le_of_ble_eq_true rfl) (e_rcv hI.2.2.2.2.1.2.1) rfl (r_140t hI.2.2.2.2.1 _) (fun σ3 y3 hq => ?_)
  replace hK := hK.st (F' := F) hq.c1 rfl
  replace hI := hI.rf hq hI.2.2.2.2.2.1
  refine h_st rfl rfl ?_
  refine h_st rfl rfl ?_
  exact hc _ _ _ _ _ _ _ _ hI hK
set_option maxRecDepth 8000 in
theorem lw_13 (hL : L ≤ 3584) (ht : 7 * t + 7 ≤ L) (hI : Iv t K F c u g u σ) (hK : LK σ F) {P : ae_S × ae_O → Prop} (hc : ∀ σ K F c u g x5 x6, Iv (t + 1) K F c u g u σ → LK σ F → hG (ra0 L xs) 7 0 σ [some (.retAddr 0), some (.ref 0), some (.ref 176), some (.ref 215), some (.int (nI (7 * t))), x5, x6] [] 745 P) {x5 x6 : Option Value} : hG (ra0 L xs) 7 0 σ [some (.retAddr 0), some (.ref 0), some (.ref 176), some (.ref 215), some (.int (nI (7 * t))), x5, x6] [] 708 P := by
  obtain ⟨f9, ho9⟩ := hI.2.2.2.2.2.2.1
  have hT := hI.2.1
  have hS := hI.2.2.1
  have hKo := hI.2.2.2.1 215 (by decide) (Nat.le_refl _)
  have h0 := hI.1
  refine h_st rfl rfl ?_
  refine h_st rfl rfl ?_
  refine h_st rfl rfl ?_
  refine h_st rfl rfl ?_
  refine h_st rfl rfl ?_
  refine h_st rfl (lw_a (k := 1) hL (by omega)) ?_
  refine h_st rfl rfl ?_
  refine h_st rfl rfl ?_
  refine h_st rfl rfl ?_
  refine h_st rfl rfl ?_
  refine h_st rfl (lw_a (k := 2) hL (by omega)) ?_
  refine h_ci3 rfl (Nat.le_of_ble_eq_true rfl) (rcv1 hT hS.1) rfl (c_75t hT hS _ _) (fun σ2 x2 hq => ?_)
  replace hq := hq.symm
  subst hq
  replace hI := hI.up1
  refine h_st rfl rfl ?_
  refine h_st rfl rfl ?_
  refine h_st rfl rfl ?_
  refine h_st rfl rfl ?_
  refine h_st rfl rfl ?_
  refine h_st rfl rfl ?_
  refine h_st rfl (lw_a (k := 1) hL (by omega)) ?_
  refine h_st rfl rfl ?_
  refine h_st rfl rfl ?_
  refine h_st rfl rfl ?_
  refine h_st rfl rfl ?_
  refine h_st rfl (lw_a (k := 2) hL (by omega)) ?_
  refine h_ci3 rfl (Nat.le_of_ble_eq_true rfl) (e_rcv hI.2.2.2.2.1.2.1) rfl (r_141t hI.2.2.2.2.1 _ _) (fun σ3 y3 hq => ?_)
  replace hK := hK.st (F' := F) hq.c1 rfl
  replace hI := hI.rf hq hI.2.2.2.2.2.1
  refine h_st rfl rfl ?_
  refine h_st rfl rfl ?_
  exact hc _ _ _ _ _ _ _ _ hI hK
set_option maxRecDepth 8000 in
theorem lw_l (hL : L ≤ 3584) : ∀ (m t : Nat) (σ : ae_S) (K : Nat → Nat) (F : Nat → Nat → Int32) (c u g : Int32) (x5 x6 : Option Value), t + m = 512 → Iv t K F c u g u σ → LK σ F → hG (ra0 L xs) 7 0 σ [some (.retAddr 0), some (.ref 0), some (.ref 176), some (.ref 215), some (.int (nI (7 * t))), x5, x6] [] 23 lwP := by
  have hex : ∀ (t : Nat) (σ : ae_S) (K : Nat → Nat) (F : Nat → Nat → Int32) (c u g : Int32) (x5 x6 : Option Value), t ≤ 512 → Iv t K F c u g u σ → L < 7 * t + 7 → hG (ra0 L xs) 7 0 σ [some (.retAddr 0), some (.ref 0), some (.ref 176), some (.ref 215), some (.int (nI (7 * t))), x5, x6] [] 23 lwP := by
    intro t σ K F c u g x5 x6 htT hI hlt
    have w1 := hI.2.2.2.2.2.2.2.1
    have w2 := hI.2.2.2.2.2.2.2.2
    have v1 : σ.1.1 ≤ Wt1 σ := Nat.le_add_right _ _
    have v2 : σ.1.2 ≤ Wt2 σ := Nat.le_add_right _ _
    have hq : (Int32.ofNat L - 7 : Int32) < nI (7 * t) := by
      show nI L - nI 7 < nI (7 * t)
      by_cases h7 : L < 7
      · exact Int32.lt_of_lt_of_le (pk_sneg (by decide) (by omega)) (nI_le (a := 0) (Nat.zero_le _) (by omega))
      · rw [pk_sub (by omega)]
        exact (nI_ltI (by omega) (by omega)).mpr (by omega)
    refine h_st rfl rfl ?_
    refine h_st rfl rfl ?_
    refine h_st rfl (e_lenR (by decide)) ?_
    refine h_st rfl rfl ?_
    refine h_st rfl rfl ?_
    refine h_st rfl rfl ?_
    refine h_pc (if_pos (decide_eq_true (hq))) ?_
    refine h_st rfl rfl ?_
    exact h_rt rfl rfl (⟨_, _, rfl, rfl, by omega, by omega⟩)
  intro m
  induction m with
  | zero =>
    intro t σ K F c u g x5 x6 htT hI hK
    exact hex t σ K F c u g x5 x6 (by omega) hI (by omega)
  | succ m ih =>
    intro t σ K F c u g x5 x6 htT hI hK
    by_cases hlt : L < 7 * t + 7
    · exact hex t σ K F c u g x5 x6 (by omega) hI hlt
    have ht : 7 * t + 7 ≤ L := by omega
    have hc : ∀ σ K F c u g x5 x6, Iv (t + 1) K F c u g u σ → LK σ F → hG (ra0 L xs) 7 0 σ [some (.retAddr 0), some (.ref 0), some (.ref 176), some (.ref 215), some (.int (nI (7 * t))), x5, x6] [] 745 lwP := by
      intro σ K F c u g x5 x6 hI hK
      have ih1 := ih (t + 1) σ K F c u g x5 x6 (by omega) hI hK
      have e7 : nI (7 * (t + 1)) = nI (7 * t) + 7 := by
        show nI (7 * (t + 1)) = nI (7 * t) + nI 7
        rw [nI_add, Nat.mul_succ]
      rw [e7] at ih1
      refine h_st rfl rfl ?_
      refine h_st rfl rfl ?_
      exact ih1
    have hq : ¬ (Int32.ofNat L - 7 : Int32) < nI (7 * t) := by
      show ¬ nI L - nI 7 < nI (7 * t)
      rw [pk_sub (by omega)]
      exact Int32.not_lt.mpr (nI_le (by omega) (by omega))
    obtain ⟨j, hj, e⟩ := pk_andE (xs (7 * t)) (m := 15) 4 (by decide)
    refine h_st rfl rfl ?_
    refine h_st rfl rfl ?_
    refine h_st rfl (e_lenR (by decide)) ?_
    refine h_st rfl rfl ?_
    refine h_st rfl rfl ?_
    refine h_st rfl rfl ?_
    refine h_pc (if_neg (fun z9 => (hq) (of_decide_eq_true z9))) ?_
    refine h_st rfl rfl ?_
    refine h_st rfl rfl ?_
    refine h_st rfl (lw_b hL (by omega)) ?_
    refine h_st rfl rfl ?_
    refine h_st rfl rfl ?_
    refine h_st rfl rfl ?_
    have hj : j = 0 ∨ j = 1 ∨ j = 2 ∨ j = 3 ∨ j = 4 ∨ j = 5 ∨ j = 6 ∨ j = 7 ∨ j = 8 ∨ j = 9 ∨ j = 10 ∨ j = 11 ∨ j = 12 ∨ j = 13 ∨ j = 14 ∨ j = 15 := by omega
    rcases hj with rfl | rfl | rfl | rfl | rfl | rfl | rfl | rfl | rfl | rfl | rfl | rfl | rfl | rfl | rfl | rfl
    · refine h_pc (?_ : _ = 112) ?_
      · show (if (xs (7 * t) &&& 15).toInt < (0 : Int) ∨ (13 : Int) < (xs (7 * t) &&& 15).toInt then 745 else ([112, 210, 262, 287, 327, 352, 389, 450, 523, 572, 621, 646, 683, 708] : List Nat).getD ((xs (7 * t) &&& 15).toInt - 0).toNat 0) = 112
        rw [e]
        decide
      · exact lw_0 hL ht hI hK hc
    · refine h_pc (?_ : _ = 210) ?_
      · show (if (xs (7 * t) &&& 15).toInt < (0 : Int) ∨ (13 : Int) < (xs (7 * t) &&& 15).toInt then 745 else ([112, 210, 262, 287, 327, 352, 389, 450, 523, 572, 621, 646, 683, 708] : List Nat).getD ((xs (7 * t) &&& 15).toInt - 0).toNat 0) = 210
        rw [e]
        decide
      · exact lw_1 hL ht hI hK hc
    · refine h_pc (?_ : _ = 262) ?_
      · show (if (xs (7 * t) &&& 15).toInt < (0 : Int) ∨ (13 : Int) < (xs (7 * t) &&& 15).toInt then 745 else ([112, 210, 262, 287, 327, 352, 389, 450, 523, 572, 621, 646, 683, 708] : List Nat).getD ((xs (7 * t) &&& 15).toInt - 0).toNat 0) = 262
        rw [e]
        decide
      · exact lw_2 hL ht hI hK hc
    · refine h_pc (?_ : _ = 287) ?_
      · show (if (xs (7 * t) &&& 15).toInt < (0 : Int) ∨ (13 : Int) < (xs (7 * t) &&& 15).toInt then 745 else ([112, 210, 262, 287, 327, 352, 389, 450, 523, 572, 621, 646, 683, 708] : List Nat).getD ((xs (7 * t) &&& 15).toInt - 0).toNat 0) = 287
        rw [e]
        decide
      · exact lw_3 hL ht hI hK hc
    · refine h_pc (?_ : _ = 327) ?_
      · show (if (xs (7 * t) &&& 15).toInt < (0 : Int) ∨ (13 : Int) < (xs (7 * t) &&& 15).toInt then 745 else ([112, 210, 262, 287, 327, 352, 389, 450, 523, 572, 621, 646, 683, 708] : List Nat).getD ((xs (7 * t) &&& 15).toInt - 0).toNat 0) = 327
        rw [e]
        decide
      · exact lw_4 hL ht hI hK hc
    · refine h_pc (?_ : _ = 352) ?_
      · show (if (xs (7 * t) &&& 15).toInt < (0 : Int) ∨ (13 : Int) < (xs (7 * t) &&& 15).toInt then 745 else ([112, 210, 262, 287, 327, 352, 389, 450, 523, 572, 621, 646, 683, 708] : List Nat).getD ((xs (7 * t) &&& 15).toInt - 0).toNat 0) = 352
        rw [e]
        decide
      · exact lw_5 hL ht hI hK hc
    · refine h_pc (?_ : _ = 389) ?_
      · show (if (xs (7 * t) &&& 15).toInt < (0 : Int) ∨ (13 : Int) < (xs (7 * t) &&& 15).toInt then 745 else ([112, 210, 262, 287, 327, 352, 389, 450, 523, 572, 621, 646, 683, 708] : List Nat).getD ((xs (7 * t) &&& 15).toInt - 0).toNat 0) = 389
        rw [e]
        decide
      · exact lw_6 hL ht hI hK hc
    · refine h_pc (?_ : _ = 450) ?_
      · show (if (xs (7 * t) &&& 15).toInt < (0 : Int) ∨ (13 : Int) < (xs (7 * t) &&& 15).toInt then 745 else ([112, 210, 262, 287, 327, 352, 389, 450, 523, 572, 621, 646, 683, 708] : List Nat).getD ((xs (7 * t) &&& 15).toInt - 0).toNat 0) = 450
        rw [e]
        decide
      · exact lw_7 hL ht hI hK hc
    · refine h_pc (?_ : _ = 523) ?_
      · show (if (xs (7 * t) &&& 15).toInt < (0 : Int) ∨ (13 : Int) < (xs (7 * t) &&& 15).toInt then 745 else ([112, 210, 262, 287, 327, 352, 389, 450, 523, 572, 621, 646, 683, 708] : List Nat).getD ((xs (7 * t) &&& 15).toInt - 0).toNat 0) = 523
        rw [e]
        decide
      · exact lw_8 hL ht hI hK hc
    · refine h_pc (?_ : _ = 572) ?_
      · show (if (xs (7 * t) &&& 15).toInt < (0 : Int) ∨ (13 : Int) < (xs (7 * t) &&& 15).toInt then 745 else ([112, 210, 262, 287, 327, 352, 389, 450, 523, 572, 621, 646, 683, 708] : List Nat).getD ((xs (7 * t) &&& 15).toInt - 0).toNat 0) = 572
        rw [e]
        decide
      · exact lw_9 hL ht hI hK hc
    · refine h_pc (?_ : _ = 621) ?_
      · show (if (xs (7 * t) &&& 15).toInt < (0 : Int) ∨ (13 : Int) < (xs (7 * t) &&& 15).toInt then 745 else ([112, 210, 262, 287, 327, 352, 389, 450, 523, 572, 621, 646, 683, 708] : List Nat).getD ((xs (7 * t) &&& 15).toInt - 0).toNat 0) = 621
        rw [e]
        decide
      · exact lw_10 hL ht hI hK hc
    · refine h_pc (?_ : _ = 646) ?_
      · show (if (xs (7 * t) &&& 15).toInt < (0 : Int) ∨ (13 : Int) < (xs (7 * t) &&& 15).toInt then 745 else ([112, 210, 262, 287, 327, 352, 389, 450, 523, 572, 621, 646, 683, 708] : List Nat).getD ((xs (7 * t) &&& 15).toInt - 0).toNat 0) = 646
        rw [e]
        decide
      · exact lw_11 hL ht hI hK hc
    · refine h_pc (?_ : _ = 683) ?_
      · show (if (xs (7 * t) &&& 15).toInt < (0 : Int) ∨ (13 : Int) < (xs (7 * t) &&& 15).toInt then 745 else ([112, 210, 262, 287, 327, 352, 389, 450, 523, 572, 621, 646, 683, 708] : List Nat).getD ((xs (7 * t) &&& 15).toInt - 0).toNat 0) = 683
        rw [e]
        decide
      · exact lw_12 hL ht hI hK hc
    · refine h_pc (?_ : _ = 708) ?_
      · show (if (xs (7 * t) &&& 15).toInt < (0 : Int) ∨ (13 : Int) < (xs (7 * t) &&& 15).toInt then 745 else ([112, 210, 262, 287, 327, 352, 389, 450, 523, 572, 621, 646, 683, 708] : List Nat).getD ((xs (7 * t) &&& 15).toInt - 0).toNat 0) = 708
        rw [e]
        decide
      · exact lw_13 hL ht hI hK hc
    · refine h_pc (?_ : _ = 745) ?_
      · show (if (xs (7 * t) &&& 15).toInt < (0 : Int) ∨ (13 : Int) < (xs (7 * t) &&& 15).toInt then 745 else ([112, 210, 262, 287, 327, 352, 389, 450, 523, 572, 621, 646, 683, 708] : List Nat).getD ((xs (7 * t) &&& 15).toInt - 0).toNat 0) = 745
        rw [e]
        decide
      · exact hc _ _ _ _ _ _ _ _ hI.up1 hK
    · refine h_pc (?_ : _ = 745) ?_
      · show (if (xs (7 * t) &&& 15).toInt < (0 : Int) ∨ (13 : Int) < (xs (7 * t) &&& 15).toInt then 745 else ([112, 210, 262, 287, 327, 352, 389, 450, 523, 572, 621, 646, 683, 708] : List Nat).getD ((xs (7 * t) &&& 15).toInt - 0).toNat 0) = 745
        rw [e]
        decide
      · exact hc _ _ _ _ _ _ _ _ hI.up1 hK
theorem app_at {l : List ae_C} {x : ae_C} (h : l.length = 215) : (l ++ [x])[215]? = some x := by
  rw [List.getElem?_append_right (by omega), h]
  rfl
theorem fz3_0 : fz3.2[0]? = some (nt 0) := by
  obtain ⟨f1, f2, f3, f5, hc, hlen, h0, _⟩ := fr_cls fz3_ok
  exact h0
theorem lk0 : LK fz3 (cf fz3) := by
  obtain ⟨f1, f2, f3, f5, hc, hlen, h0, hk1, hf1, _⟩ := fr_cls fz3_ok
  exact ⟨f1, hk1, fun l hl => ⟨fun _ => cz m177 l hl, fun _ => hf1 l hl⟩⟩
theorem iv0 : Iv 0 kz (cf fz3) 0 0 0 0 fz3 := by
  refine ⟨fz3_0, ty0, s00, fun p h _ => kz_0 h, rs0, rp0, ⟨fun _ => 0, ?_⟩, fz3_w.1, fz3_w.2⟩
  unfold fz3
  exact app_at fz2_ok.2
theorem lw_c1 (ra : ae_R) : hE ra 7 1 [.ref 0] ((1, 6), [.inr (7, cd_Net)]) (pV (fun σ' => σ' = fz1)) := ⟨_, gE_of (mo_ev atc_ok ra 7 1000 1 [.ref 0] _ _ (fz_eq fz1_ok)), fz1, rfl, rfl⟩
theorem lw_c2 (ra : ae_R) : hE ra 7 95 [.ref 176] ((fz1.1.1 + 1, fz1.1.2 + 41), fz1.2 ++ [.inr (8, cd_Model)]) (pV (fun σ' => σ' = fz2)) := ⟨_, gE_of (mo_ev atc_ok ra 7 3000 95 [.ref 176] _ _ (fz_eq fz2_ok.1)), fz2, rfl, rfl⟩
theorem lw_go {L : Nat} (hL : L ≤ 3584) : hG (ra0 L xs) 7 0 ((0, 0), []) (ae_ent [.retAddr 0] 7) [] 0 lwP := by
  refine h_st rfl rfl ?_
  refine h_st rfl rfl ?_
  refine h_cv1 (a0 := .ref 0) rfl (Nat.le_of_ble_eq_true rfl) rfl rfl (lw_c1 _) (fun σ1 e1 => ?_)
  have n1 : σ1.2.length = 176 := by rw [e1]; exact fz1_len
  have k2 : hE (ra0 L xs) 7 95 [.ref 176] ((σ1.1.1 + 1, σ1.1.2 + 41), σ1.2 ++ [.inr (8, cd_Model)]) (pV (fun σ' => σ' = fz2)) := by rw [e1]; exact lw_c2 _
  clear e1
  refine h_st rfl rfl ?_
  refine h_st rfl rfl ?_
  rw [n1]
  refine h_st rfl rfl ?_
  refine h_cv1 (a0 := .ref 176) rfl (Nat.le_of_ble_eq_true rfl) (e_rcv (fs := cd_Model) (by rw [← n1]; simp)) rfl k2 (fun σ2 e2 => ?_)
  have n2 : σ2.2.length = 215 := by rw [e2]; exact fz2_ok.2
  have hF : Iv 0 kz (cf fz3) 0 0 0 0 ((σ2.1.1 + 1, σ2.1.2 + (1 : Int32).toNatClampNeg), σ2.2 ++ [.inl (3, ae_zero 3 (1 : Int32).toNatClampNeg)]) := by
    rw [e2, show (1 : Int32).toNatClampNeg = 1 from by decide]
    exact iv0
  have hF2 : LK ((σ2.1.1 + 1, σ2.1.2 + (1 : Int32).toNatClampNeg), σ2.2 ++ [.inl (3, ae_zero 3 (1 : Int32).toNatClampNeg)]) (cf fz3) := by
    rw [e2, show (1 : Int32).toNatClampNeg = 1 from by decide]
    exact lk0
  clear e2
  refine h_st rfl rfl ?_
  refine h_st rfl rfl ?_
  refine h_st rfl (e_na (by decide)) ?_
  rw [n2]
  refine h_st rfl rfl ?_
  refine h_st rfl rfl ?_
  refine h_st rfl rfl ?_
  exact lw_l hL 512 0 _ _ _ _ _ _ _ _ rfl hF hF2
theorem pure_ok {L : Nat} {xs : Nat → Int32} (hL : L ≤ 3584) : pure_run L xs := by
  obtain ⟨r, ⟨N, hN⟩, σF, x, rfl, rfl, b1, b2⟩ := lw_go (xs := xs) hL
  exact ⟨N, σF, hN N N (Nat.le_refl _) (Nat.le_refl _), b1, b2⟩
end LAW
