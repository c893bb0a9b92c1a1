section LAW
variable {σ σ' : ae_S} {xs : Nat → Int32} {L n t : Nat} {K K' : Nat → Nat} {F F1 F' : Nat → Nat → Int32} {c u g c' u' g' tm : Int32}
def nt (t : Int32) : ae_C := .inr (7, [.ref 1, .ref 2, .ref 3, .ref 4, .ref 6, .int t])
def Iv (n : Nat) (K : Nat → Nat) (F : Nat → Nat → Int32) (c u g tm : Int32) (σ : ae_S) : Prop := σ.2[0]? = some (nt tm) ∧ Ty σ K ∧ S0 K ∧ (∀ p, 176 ≤ p → p ≤ 215 → K p = 0) ∧ RS false σ F σ c u g F ∧ RP F g [] [] ∧ (∃ f9, σ.2[215]? = some (.inl (3, 1, .inr (.inl f9)))) ∧ Wt1 σ ≤ 1528 + n ∧ Wt2 σ ≤ 501948 + 6 * n
theorem Iv.up1 (h : Iv n K F c u g tm σ) : Iv (n + 1) K F c u g tm σ := ⟨h.1, h.2.1, h.2.2.1, h.2.2.2.1, h.2.2.2.2.1, h.2.2.2.2.2.1, h.2.2.2.2.2.2.1, by have := h.2.2.2.2.2.2.2.1; omega, by have := h.2.2.2.2.2.2.2.2; omega⟩
theorem Iv.lw {tm' : Int32} (h : Iv n K F c u g tm σ) (hl : Lw 215 K σ K' σ') (h0 : σ'.2[0]? = some (nt tm')) : Iv (n + 1) K' F c u g tm' σ' := by
  obtain ⟨-, a1, a2, a3, a4, a5, ⟨f9, a6⟩, a7, a8⟩ := h
  obtain ⟨b1, b2, b3, b4, b5, b6, b7⟩ := hl
  have hlt := (List.getElem?_eq_some_iff.mp a6).1
  have hz : ∀ p, 176 ≤ p → p ≤ 215 → K' p = 0 := fun p q1 q2 => (b4 p (by omega) (a3 p q1 q2)).1
  have hs : ∀ p, 176 ≤ p → p < 215 → σ'.2[p]? = σ.2[p]? := fun p q1 q2 => (b4 p (by omega) (a3 p q1 (by omega))).2 (by omega)
  have g9 : ∀ q k, k ≠ 0 → K q = k → K' q = k := fun q k hk e => (b3 q (by rw [e]; exact hk)).trans e
  refine ⟨h0, b1, ⟨g9 _ _ (by decide) a2.1, g9 _ _ (by decide) a2.2.1, g9 _ _ (by decide) a2.2.2.1, g9 _ _ (by decide) a2.2.2.2.1, g9 _ _ (by decide) a2.2.2.2.2.1, g9 _ _ (by decide) a2.2.2.2.2.2⟩, hz, ⟨⟨rfl, rfl, fun _ _ => rfl⟩, (hs 176 (by decide) (by decide)).trans a4.2.1, fun q hq => ?_, fun z => by cases z⟩, a5, b5, by omega, by omega⟩
  have hb := rf_A_bd (p := q.1) (t := q.2.1) (n := q.2.2.1) (m := q.2.2.2.1) (v := q.2.2.2.2) hq
  exact (hs q.1 (by omega) hb.2).trans (a4.2.2.1 q hq)
theorem rf_cov {q : Nat} (h1 : 177 ≤ q) (h2 : q < 215) : ∃ x ∈ rf_A, x.1 = q := by
  have h := List.all_eq_true.mp (show (List.range 38).all (fun i => rf_A.any (fun x => x.1 == 177 + i)) = true by decide +kernel) (q - 177) (List.mem_range.mpr (by omega))
  obtain ⟨x, hx, e⟩ := List.any_eq_true.mp h
  have e := beq_iff_eq.mp e
  exact ⟨x, hx, by omega⟩
theorem Iv.rf {b : Bool} (h : Iv n K F c u g tm σ) (hr : RS b σ F1 σ' c' u' g' F') (hP : RP F' g' [] []) : Iv n K F' c' u' g' tm σ' := by
  obtain ⟨a0, a1, a2, a3, a4, a5, ⟨f9, a6⟩, a7, a8⟩ := h
  obtain ⟨⟨r1, r2, r3⟩, r4, r5, r6⟩ := hr
  have hw : ∀ w : ae_C → Nat, (∀ x, w (.inr x) = 0) → (∀ a n g, w (.inl (a, n, .inl g)) = 0) → σ'.2.map w = σ.2.map w := fun w w1 w2 => map_same r2 (fun q x hx => by
    by_cases q1 : q < 176 ∨ 215 ≤ q
    · exact ⟨x, (r3 q q1).trans hx, rfl⟩
    · by_cases q2 : q = 176
      · subst q2
        rw [a4.2.1] at hx
        cases hx
        exact ⟨_, r4, by rw [w1, w1]⟩
      · obtain ⟨y, hy, rfl⟩ := rf_cov (q := q) (by omega) (by omega)
        rw [a4.2.2.1 y hy] at hx
        cases hx
        exact ⟨_, r5 y hy, by rw [w2, w2]⟩)
  refine ⟨(r3 0 (by decide)).trans a0, fun q hq => ?_, a2, a3, ⟨⟨rfl, rfl, fun _ _ => rfl⟩, r4, r5, fun z => by cases z⟩, hP, ⟨f9, (r3 215 (Or.inr (Nat.le_refl _))).trans a6⟩, ?_, ?_⟩
  · obtain ⟨x, x1, x2⟩ := a1 q hq
    have q1 : q < 176 ∨ 215 ≤ q := Classical.byContradiction (fun z => hq (a3 q (by omega) (by omega)))
    exact ⟨x, (r3 q q1).trans x1, x2⟩
  · unfold Wt1 at *
    rw [r1, hw (fun c => (wt c).1) (fun _ => rfl) (fun _ _ _ => rfl)]
    exact a7
  · unfold Wt2 at *
    rw [r1, hw (fun c => (wt c).2) (fun _ => rfl) (fun _ _ _ => rfl)]
    exact a8
theorem lw_b {np : Nat} {L' : ae_Ls} {s : List Value} (hL : L ≤ 3584) (h : 7 * t < L) : o_ia np (ra0 L xs) σ L' (.int (nI (7 * t)) :: .retAddr 0 :: s) = some (σ, L', .int (xs (7 * t)) :: s, np) := by
  have e := e_ro (ra := ra0 L xs) (σ := σ) (L := L') (k := s) (np := np) (q := 0) (i := nI (7 * t)) (by decide) (show ¬ (nI (7 * t) < 0 ∨ L ≤ (nI (7 * t)).toNatClampNeg) from nI_in h (by omega))
  rw [nI_clamp (by omega)] at e
  exact e
theorem lw_a {np k : Nat} {L' : ae_Ls} {s : List Value} (hL : L ≤ 3584) (h : 7 * t + k < L) : o_ia np (ra0 L xs) σ L' (.int (nI (7 * t) + nI k) :: .retAddr 0 :: s) = some (σ, L', .int (xs (7 * t + k)) :: s, np) := by
  rw [nI_add]
  have e := e_ro (ra := ra0 L xs) (σ := σ) (L := L') (k := s) (np := np) (q := 0) (i := nI (7 * t + k)) (by decide) (show ¬ (nI (7 * t + k) < 0 ∨ L ≤ (nI (7 * t + k)).toNatClampNeg) from nI_in h (by omega))
  rw [nI_clamp (by omega)] at e
  exact e
def LF (F : Nat → Nat → Int32) (f : Nat → Option Nat) (gaf quf : Nat → Int32) (mof : Nat → Nat) : Prop := ∀ l, l < 8 → (f l = none ∧ F 177 l = 0) ∨ (f l ≠ none ∧ F 177 l ≠ 0 ∧ F 181 l = gaf l ∧ F 182 l = nI (mof l) ∧ (quf l = 0 ↔ F 179 l = 0))
/-- the links, on both sides -/
def LR (σ : ae_S) (F : Nat → Nat → Int32) : Prop := ∃ f gaf hif quf paf sof mof pof acf waf sf, σ.2[1]? = some (.inl (4, rfs 8 f)) ∧ Ls σ f gaf hif quf paf sof mof pof acf waf sf ∧ MS F sf ∧ LF F f gaf quf mof
theorem LR.cls (h : LR σ F) (hT : Ty σ K) (hS : S0 K) (h1 : σ'.2[1]? = σ.2[1]?) (h18 : ∀ q, K q = 18 → σ'.2[q]? = σ.2[q]?) : LR σ' F := by
  obtain ⟨f, gaf, hif, quf, paf, sof, mof, pof, acf, waf, sf, a1, a2, a3, a4⟩ := h
  exact ⟨f, gaf, hif, quf, paf, sof, mof, pof, acf, waf, sf, h1.trans a1, a2.same (fun i q hi hq => h18 q (k18_of hT hS a1 i q hi hq)), a3, a4⟩
theorem RS.c1 {b : Bool} {σ0 : ae_S} {F0 : Nat → Nat → Int32} (h : RS b σ0 F0 σ c u g F) : σ.2[1]? = σ0.2[1]? := h.1.2.2 1 (Or.inl (by decide))
theorem RS.c18 {b : Bool} {σ0 : ae_S} {F0 : Nat → Nat → Int32} (h : RS b σ0 F0 σ c u g F) (hz : ∀ p, 176 ≤ p → p ≤ 215 → K p = 0) : ∀ q, K q = 18 → σ.2[q]? = σ0.2[q]? := fun q hq => h.1.2.2 q (Classical.byContradiction (fun z => by have := hz q (by omega) (by omega); omega))
theorem LF.eq {f : Nat → Option Nat} {gaf quf : Nat → Int32} {mof : Nat → Nat} (h : LF F f gaf quf mof) (e : ∀ q, q < 185 → F' q = F q) : LF F' f gaf quf mof := fun l hl => by
  rw [e 177 (by decide), e 179 (by decide), e 181 (by decide), e 182 (by decide)]
  exact h l hl
theorem LR.rf {b : Bool} (h : LR σ F) (hT : Ty σ K) (hS : S0 K) (hz : ∀ p, 176 ≤ p → p ≤ 215 → K p = 0) (hr : RS b σ F1 σ' c' u' g' F') (e : ∀ q, q < 190 → q ≠ 188 → F' q = F q) : LR σ' F' := by
  obtain ⟨f, gaf, hif, quf, paf, sof, mof, pof, acf, waf, sf, a1, a2, a3, a4⟩ := h.cls hT hS hr.c1 (hr.c18 hz)
  exact ⟨f, gaf, hif, quf, paf, sof, mof, pof, acf, waf, sf, a1, a2, a3.same (e _ (by decide) (by decide)) (e _ (by decide) (by decide)) (e _ (by decide) (by decide)), a4.eq (fun q hq => e q (by omega) (by omega))⟩
theorem sh_ga : ∀ gn : Nat, gn < 10 → (1 : Int32) <<< (nI gn &&& 31) = nI (2 ^ gn)
  | 0, _ => by decide
  | 1, _ => by decide
  | 2, _ => by decide
  | 3, _ => by decide
  | 4, _ => by decide
  | 5, _ => by decide
  | 6, _ => by decide
  | 7, _ => by decide
  | 8, _ => by decide
  | 9, _ => by decide
  | n + 10, h => absurd h (by omega)
theorem fl_nn {fl : Int32} (h : ¬ fl >>> ((2 : Int32) &&& 31) < 1) : ¬ fl < 0 := by
  intro z
  apply h
  have z1 : fl.toInt < 0 := Int32.lt_iff_toInt_lt.mp z
  have e1 : (fl >>> ((2 : Int32) &&& 31)).toInt = fl.toInt >>> 2 := by
    show (fl >>> ((2 : Int32) &&& 31)).toBitVec.toInt = _
    rw [Int32.toBitVec_shiftRight]
    have e2 : (((2 : Int32) &&& 31).toBitVec.smod 32) = 2#32 := by decide
    rw [e2]
    show (fl.toBitVec.sshiftRight (2#32).toNat).toInt = _
    rw [BitVec.toInt_sshiftRight]
    rfl
  rw [Int32.lt_iff_toInt_lt, e1, Int.shiftRight_eq_div_pow]
  have e3 : (1 : Int32).toInt = 1 := by decide
  rw [e3]
  omega
theorem fl_q {fl : Int32} (h : ¬ fl < 0) : fl &&& 2 = 0 ↔ fl / 2 - fl / 2 / 2 * 2 = 0 := by
  obtain ⟨n, hn, rfl⟩ := i_nn h
  have e1 : nI n / 2 = nI (n / 2) := pk_div (a := n) (d := 2) hn (by decide) (by decide)
  have e2 : nI (n / 2) - nI (n / 2) / 2 * 2 = nI (n / 2 % 2) := pk_rem (a := n / 2) (d := 2) (by omega) (by decide) (by decide)
  have e3 : (nI n &&& 2).toBitVec.toNat = n &&& 2 := by
    rw [Int32.toBitVec_and, BitVec.toNat_and, nI_bv (by omega)]
    rfl
  have e4 : n &&& 2 = 2 * (n / 2 % 2) := by
    have hle : n &&& 2 ≤ 2 := Nat.and_le_right
    have hm : (n &&& 2) % 2 ^ 2 = (n % 2 ^ 2) &&& (2 % 2 ^ 2) := Nat.and_mod_two_pow
    have h4 : n % 2 ^ 2 = 0 ∨ n % 2 ^ 2 = 1 ∨ n % 2 ^ 2 = 2 ∨ n % 2 ^ 2 = 3 := by omega
    have hs : (n &&& 2) % 2 ^ 2 = n &&& 2 := Nat.mod_eq_of_lt (by omega)
    rw [hs] at hm
    rcases h4 with h4 | h4 | h4 | h4
    · rw [hm, h4]
      show (0 : Nat) = _
      omega
    · rw [hm, h4]
      show (0 : Nat) = _
      omega
    · rw [hm, h4]
      show (2 : Nat) = _
      omega
    · rw [hm, h4]
      show (2 : Nat) = _
      omega
  rw [e1, e2]
  constructor
  · intro z
    have : (nI n &&& 2).toBitVec.toNat = 0 := by rw [z]; rfl
    have h0 : n / 2 % 2 = 0 := by omega
    rw [h0]
    rfl
  · intro z
    have h0 : n / 2 % 2 = 0 := nI_inj (c := 0) (by omega) (by decide) z
    apply Int32.toBitVec_inj.mp
    apply BitVec.eq_of_toNat_eq
    rw [e3, e4, h0]
    rfl
theorem lr_l {x l so ga mo ta fl : Int32} {σ2 : ae_S} {f : Nat → Option Nat} {gaf hif quf paf : Nat → Int32} {sof mof pof acf waf : Nat → Nat} {sf : Nat → Nat × Int32} (hT : Ty σ K) (hS : S0 K) (k1 : σ.2[1]? = some (.inl (4, rfs 8 f))) (k2 : Ls σ f gaf hif quf paf sof mof pof acf waf sf) (k3 : MS F sf) (k4 : LF F f gaf quf mof)
    (h18 : ∀ q, K q = 18 → σ2.2[q]? = σ.2[q]?)
    (hx : (x = 0 ∧ okL l so ga mo ta fl ∧ ∃ j q, j < 8 ∧ l = nI j ∧ f j = none ∧ σ2.2[1]? = some (.inl (4, rfs 8 (va_up f j (some q)))) ∧ ∃ so9 mo9 hv pa po ac wa, so = nI so9 ∧ mo = nI mo9 ∧ Lk σ2 q (nI j) (1 <<< (ga &&& 31)) hv (if fl &&& 2 = 0 then 0 else 1) pa 0 so9 mo9 po ac wa 0) ∨ (x = 1 ∧ ¬ okL l so ga mo ta fl ∧ σ2.2[1]? = σ.2[1]?) ∨ (x = 2 ∧ okL l so ga mo ta fl ∧ σ2.2[1]? = σ.2[1]? ∧ ∃ j, j < 8 ∧ l = nI j ∧ f j ≠ none))
    (hm : ((¬ okL l so ga mo ta fl ∧ c' = 1 ∧ F' = F) ∨ (okL l so ga mo ta fl ∧ ∃ j, j < 8 ∧ l = nI j ∧ ((F 177 j ≠ 0 ∧ c' = 2 ∧ F' = F) ∨ (F 177 j = 0 ∧ c' = 0 ∧ F' 177 = upd (F 177) j 1 ∧ F' 180 = upd (F 180) j so ∧ F' 182 = upd (F 182) j mo ∧ F' 183 = upd (F 183) j ta ∧ (∃ gn, ga = nI gn ∧ gn < 10 ∧ F' 181 = upd (F 181) j (nI (2 ^ gn))) ∧ F' 179 = upd (F 179) j (if fl / 2 - fl / 2 / 2 * 2 = 0 then 0 else 1) ∧ ∀ q, 185 ≤ q → q ≠ 188 → F' q = F q))))) : c' = x ∧ LR σ2 F' := by
  have hold : ∀ i q, i < 8 → f i = some q → σ2.2[q]? = σ.2[q]? := fun i q hi hq => h18 q (k18_of hT hS k1 i q hi hq)
  rcases hx with ⟨rfl, hok, j, q, hj, hlj, hfj, hs2, so9, mo9, hv, pa, po, ac, wa, hso, hmo, hLk⟩ | ⟨rfl, hno, hs2⟩ | ⟨rfl, hok, hs2, j, hj, hlj, hfj⟩
  · rcases hm with ⟨hno, _⟩ | ⟨_, j', hj', hlj', hm⟩
    · exact absurd hok hno
    have ejj : j' = j := nI_inj (by omega) (by omega) (hlj'.symm.trans hlj)
    subst ejj
    have hz : F 177 j' = 0 := (k4 j' hj).elim (fun z => z.2) (fun z => absurd hfj z.1)
    rcases hm with ⟨hm, _⟩ | ⟨_, rfl, m1, m2, m3, m4, ⟨gn, m5, m6, m7⟩, m8, m9⟩
    · exact absurd hz hm
    refine ⟨rfl, va_up f j' (some q), fun i => if i = j' then 1 <<< (ga &&& 31) else gaf i, fun i => if i = j' then hv else hif i, fun i => if i = j' then (if fl &&& 2 = 0 then 0 else 1) else quf i, fun i => if i = j' then pa else paf i, fun i => if i = j' then so9 else sof i, fun i => if i = j' then mo9 else mof i, fun i => if i = j' then po else pof i, fun i => if i = j' then ac else acf i, fun i => if i = j' then wa else waf i, fun i => if i = j' then (0, 0) else sf i, hs2, fun i r hi hr => ?_, fun i hi => ?_, fun i hi => ?_⟩
    · by_cases e : i = j'
      · subst e
        have er : r = q := by
          simp [va_up] at hr
          exact hr.symm
        subst er
        simp only [if_true]
        exact hLk
      · have hr2 : f i = some r := by simpa [va_up, e] using hr
        simp only [if_neg e]
        exact (k2 i r hi hr2).same (hold i r hi hr2)
    · rw [m1, m9 189 (by decide) (by decide), m9 185 (by decide) (by decide)]
      by_cases e : i = j'
      · subst e
        obtain ⟨z1, z2⟩ := (k3 i hi).2 hz
        rw [pk_us]
        exact ⟨fun _ => by simp only [if_true]; exact ⟨by decide, z1, z2⟩, fun y => absurd y (by decide)⟩
      · rw [pk_un e]
        simp only [if_neg e]
        exact k3 i hi
    · rw [m1, m3, m7, m8]
      by_cases e : i = j'
      · subst e
        refine Or.inr ⟨by simp [va_up], by rw [pk_us]; decide, ?_, ?_, ?_⟩
        · rw [pk_us, m5]
          simp only [if_true]
          exact (sh_ga gn m6).symm
        · rw [pk_us, hmo]
          simp only [if_true]
        · rw [pk_us]
          simp only [if_true]
          have hq := fl_q (fl_nn hok.2.2.2.2.2.2.2.2.2.1)
          by_cases y : fl &&& 2 = 0
          · rw [if_pos y, if_pos (hq.mp y)]
          · rw [if_neg y, if_neg (fun v => y (hq.mpr v))]
      · rw [pk_un e, pk_un e, pk_un e, pk_un e]
        have hv2 : va_up f j' (some q) i = f i := by simp [va_up, e]
        rw [hv2]
        simp only [if_neg e]
        exact k4 i hi
  · rcases hm with ⟨_, rfl, rfl⟩ | ⟨hok, _⟩
    · exact ⟨rfl, f, gaf, hif, quf, paf, sof, mof, pof, acf, waf, sf, hs2.trans k1, k2.same hold, k3, k4⟩
    · exact absurd hok hno
  · rcases hm with ⟨hno, _⟩ | ⟨_, j', hj', hlj', hm⟩
    · exact absurd hok hno
    have ejj : j' = j := nI_inj (by omega) (by omega) (hlj'.symm.trans hlj)
    subst ejj
    rcases hm with ⟨_, rfl, rfl⟩ | ⟨hz, _⟩
    · exact ⟨rfl, f, gaf, hif, quf, paf, sof, mof, pof, acf, waf, sf, hs2.trans k1, k2.same hold, k3, k4⟩
    · exact absurd hz ((k4 j' hj).elim (fun z => absurd z.1 hfj) (fun z => z.2.1))
theorem ned_q {mo : Nat} {qu qu' x : Int32} (h : qu = 0 ↔ qu' = 0) : ned mo qu x = ned mo qu' x := by
  unfold ned rmm
  by_cases e : qu = 0
  · rw [if_pos e, if_pos (h.mp e), if_pos e, if_pos (h.mp e)]
  · rw [if_neg e, if_neg (fun y => e (h.mpr y)), if_neg e, if_neg (fun y => e (h.mpr y))]
theorem lr_w {x l sz v nn : Int32} {σ2 : ae_S} {f : Nat → Option Nat} {gaf hif quf paf : Nat → Int32} {sof mof pof acf waf : Nat → Nat} {sf : Nat → Nat × Int32} (k1 : σ2.2[1]? = some (.inl (4, rfs 8 f))) (k2 : Ls σ f gaf hif quf paf sof mof pof acf waf sf) (k3 : MS F sf) (k4 : LF F f gaf quf mof)
    (hx : (x = 1 ∧ (∀ j, j < 8 → l = nI j → f j = none ∨ ned (mof j) (quf j) sz = 0) ∧ Ls σ2 f gaf hif quf paf sof mof pof acf waf sf) ∨ (x = 2 ∧ (∃ j, j < 8 ∧ l = nI j ∧ f j ≠ none ∧ ned (mof j) (quf j) sz ≠ 0 ∧ 8 < (sf j).1 + ned (mof j) (quf j) sz) ∧ Ls σ2 f gaf hif quf paf sof mof pof acf waf sf) ∨ (x = 0 ∧ ∃ j, j < 8 ∧ l = nI j ∧ f j ≠ none ∧ ned (mof j) (quf j) sz ≠ 0 ∧ (sf j).1 + ned (mof j) (quf j) sz ≤ 8 ∧ Ls σ2 f gaf hif quf paf sof mof pof acf waf (fun i => if i = j then ((sf i).1 + ned (mof i) (quf i) sz, (sf i).2) else sf i) ∧ nn = nI (ned (mof j) (quf j) sz)))
    (hm : (c' = 1 ∧ F' = F ∧ ∀ j k, j < 8 → l = nI j → F 182 j = nI k → 64 ≤ k ∧ k ≤ 128 → F 177 j = 0 ∨ ned k (F 179 j) sz = 0) ∨ (∃ j k w, j < 8 ∧ l = nI j ∧ F 177 j ≠ 0 ∧ F 182 j = nI k ∧ (64 ≤ k ∧ k ≤ 128) ∧ ned k (F 179 j) sz ≠ 0 ∧ F 189 j = nI w ∧ w ≤ 8 ∧ ((c' = 2 ∧ F' = F ∧ 8 < w + ned k (F 179 j) sz) ∨ (c' = 0 ∧ v = nI (ned k (F 179 j) sz) ∧ w + ned k (F 179 j) sz ≤ 8 ∧ F' 189 = upd (F 189) j (nI (w + ned k (F 179 j) sz)) ∧ ∀ q, q < 186 → F' q = F q)))) : c' = x ∧ LR σ2 F' ∧ (x = 0 → nn = v) := by
  -- a link of the reference is one of the class, with the same need
  have hl : ∀ j k, j < 8 → F 177 j ≠ 0 → F 182 j = nI k → 64 ≤ k ∧ k ≤ 128 → f j ≠ none ∧ ned k (F 179 j) sz = ned (mof j) (quf j) sz := fun j k hj hz hk hkb => by
    rcases k4 j hj with z | ⟨z1, z2, z3, z4, z5⟩
    · exact absurd z.2 hz
    · refine ⟨z1, ?_⟩
      obtain ⟨q, hq⟩ := Option.ne_none_iff_exists'.mp z1
      have hb := (k2 j q hj hq).1.2.1
      have e : k = mof j := nI_inj (by omega) (by omega) (hk.symm.trans z4)
      rw [e, ned_q z5]
  have hl2 : ∀ j, j < 8 → f j ≠ none → ned (mof j) (quf j) sz ≠ 0 → ∃ k, F 177 j ≠ 0 ∧ F 182 j = nI k ∧ (64 ≤ k ∧ k ≤ 128) := fun j hj hf hne => by
    rcases k4 j hj with z | ⟨z1, z2, z3, z4, z5⟩
    · exact absurd z.1 hf
    · obtain ⟨q, hq⟩ := Option.ne_none_iff_exists'.mp z1
      exact ⟨mof j, z2, z4, (k2 j q hj hq).1.2.1⟩
  have hcnt : ∀ j w, j < 8 → F 177 j ≠ 0 → F 189 j = nI w → w ≤ 8 → w = (sf j).1 := fun j w hj hz hw hw8 => by
    obtain ⟨a1, a2, _⟩ := (k3 j hj).1 hz
    exact nI_inj (by omega) (by omega) (hw.symm.trans a2)
  rcases hx with ⟨rfl, hx, hL⟩ | ⟨rfl, ⟨j, hj, hlj, hf, hne, h8⟩, hL⟩ | ⟨rfl, j, hj, hlj, hf, hne, h8, hL, hnn⟩
  · rcases hm with ⟨rfl, rfl, _⟩ | ⟨j, k, w, hj, hlj, hz, hk, hkb, hne, _⟩
    · exact ⟨rfl, ⟨f, gaf, hif, quf, paf, sof, mof, pof, acf, waf, sf, k1, hL, k3, k4⟩, fun z => absurd z (by decide)⟩
    · obtain ⟨h1, h2⟩ := hl j k hj hz hk hkb
      rcases hx j hj hlj with y | y
      · exact absurd y h1
      · exact absurd (h2.trans y) hne
  · obtain ⟨k0, g1, g2, g3⟩ := hl2 j hj hf hne
    rcases hm with ⟨_, _, hm⟩ | ⟨j', k, w, hj', hlj', hz, hk, hkb, hne', hw, hw8, hm⟩
    · rcases hm j k0 hj hlj g2 g3 with y | y
      · exact absurd y g1
      · exact absurd ((hl j k0 hj g1 g2 g3).2.symm.trans y) hne
    have ejj : j' = j := nI_inj (by omega) (by omega) (hlj'.symm.trans hlj)
    subst ejj
    have en := (hl j' k hj hz hk hkb).2
    have ew := hcnt j' w hj hz hw hw8
    rcases hm with ⟨rfl, rfl, _⟩ | ⟨_, _, hle, _⟩
    · exact ⟨rfl, ⟨f, gaf, hif, quf, paf, sof, mof, pof, acf, waf, sf, k1, hL, k3, k4⟩, fun z => absurd z (by decide)⟩
    · exact absurd h8 (by rw [← ew, ← en]; omega)
  · obtain ⟨k0, g1, g2, g3⟩ := hl2 j hj hf hne
    rcases hm with ⟨_, _, hm⟩ | ⟨j', k, w, hj', hlj', hz, hk, hkb, hne', hw, hw8, hm⟩
    · rcases hm j k0 hj hlj g2 g3 with y | y
      · exact absurd y g1
      · exact absurd ((hl j k0 hj g1 g2 g3).2.symm.trans y) hne
    have ejj : j' = j := nI_inj (by omega) (by omega) (hlj'.symm.trans hlj)
    subst ejj
    have en := (hl j' k hj hz hk hkb).2
    have ew := hcnt j' w hj hz hw hw8
    rcases hm with ⟨_, _, hgt⟩ | ⟨rfl, rfl, hle, m1, m2⟩
    · exact absurd h8 (by rw [← ew, ← en]; omega)
    refine ⟨rfl, ⟨f, gaf, hif, quf, paf, sof, mof, pof, acf, waf, _, k1, hL, fun i hi => ?_, k4.eq (fun q hq => m2 q (by omega))⟩, fun _ => by rw [hnn, en]⟩
    rw [m2 177 (by decide), m2 185 (by decide), m1]
    by_cases e : i = j'
    · subst e
      rw [pk_us]
      simp only [if_true]
      obtain ⟨a1, a2, a3⟩ := (k3 i hi).1 hz
      exact ⟨fun _ => ⟨h8, by rw [ew, en], a3⟩, fun y => absurd y hz⟩
    · rw [pk_un e]
      simp only [if_neg e]
      exact k3 i hi
theorem e_la {ra : ae_R} {np m p : Nat} {L' : ae_Ls} {k : List Value} {f : Nat → Int64} {i : Int32} (h : σ.2[p]? = some (.inl (3, m, .inr (.inl f)))) (hi : ¬ (i < 0 ∨ m ≤ i.toNatClampNeg)) : o_la np ra σ L' (.int i :: .ref p :: k) = some (σ, L', .long (f i.toNatClampNeg) :: k, np) := by
  simp only [o_la, h]
  rw [if_pos ⟨by first | trivial | rfl, hi⟩]
theorem lg_z {f8 : Nat → Int64} {k : Nat} {x y : Int32} (h : x = y) : lg_cmp (vp_updL f8 k x.toInt64 k) y.toInt64 = 0 := by
  subst h
  unfold lg_cmp vp_updL
  rw [if_pos rfl]
  simp
theorem fr_eq {x v l : Int32} {f : Nat → Option Nat} {gaf quf : Nat → Int32} {mof : Nat → Nat} {sf : Nat → Nat × Int32} (hx : (x = -1 ∧ ∀ j, j < 8 → l = nI j → f j = none) ∨ ∃ j, j < 8 ∧ l = nI j ∧ f j ≠ none ∧ x = nI (sf j).1) (hv : (v = -1 ∧ ∀ j, j < 8 → l = nI j → F 177 j = 0) ∨ ∃ j, j < 8 ∧ l = nI j ∧ F 177 j ≠ 0 ∧ v = F 189 j) (k3 : MS F sf) (k4 : LF F f gaf quf mof) : x = v := by
  rcases hx with ⟨rfl, hx⟩ | ⟨j, hj, hlj, hf, rfl⟩
  · rcases hv with ⟨rfl, _⟩ | ⟨j, hj, hlj, hz, _⟩
    · rfl
    · exact absurd ((k4 j hj).elim (fun z => z.2) (fun z => absurd (hx j hj hlj) z.1)) hz
  · rcases hv with ⟨_, hv⟩ | ⟨j', hj', hlj', hz, rfl⟩
    · exact absurd (hv j hj hlj) ((k4 j hj).elim (fun z => absurd z.1 hf) (fun z => z.2.1))
    · have e : j' = j := nI_inj (by omega) (by omega) (hlj'.symm.trans hlj)
      subst e
      exact (((k3 j' hj).1 hz).2.1).symm
theorem wr_n {x l sz : Int32} {o9 : Nat} {f : Nat → Option Nat} {gaf hif quf paf : Nat → Int32} {sof mof pof acf waf : Nat → Nat} {sf : Nat → Nat × Int32} {A B : Prop} (hx : (x = 1 ∧ A ∧ Ls σ' f gaf hif quf paf sof mof pof acf waf sf) ∨ (x = 2 ∧ B ∧ Ls σ' f gaf hif quf paf sof mof pof acf waf sf) ∨ (x = 0 ∧ ∃ j, j < 8 ∧ l = nI j ∧ f j ≠ none ∧ ned (mof j) (quf j) sz ≠ 0 ∧ (sf j).1 + ned (mof j) (quf j) sz ≤ 8 ∧ Ls σ' f gaf hif quf paf sof mof pof acf waf (fun i => if i = j then ((sf i).1 + ned (mof i) (quf i) sz, (sf i).2) else sf i) ∧ ∃ f8, σ'.2[o9]? = some (.inl (3, 1, .inr (.inl (vp_updL f8 (0 : Int32).toNatClampNeg (nI (ned (mof j) (quf j) sz)).toInt64)))))) :
    ∃ nn : Int32, ((x = 1 ∧ A ∧ Ls σ' f gaf hif quf paf sof mof pof acf waf sf) ∨ (x = 2 ∧ B ∧ Ls σ' f gaf hif quf paf sof mof pof acf waf sf) ∨ (x = 0 ∧ ∃ j, j < 8 ∧ l = nI j ∧ f j ≠ none ∧ ned (mof j) (quf j) sz ≠ 0 ∧ (sf j).1 + ned (mof j) (quf j) sz ≤ 8 ∧ Ls σ' f gaf hif quf paf sof mof pof acf waf (fun i => if i = j then ((sf i).1 + ned (mof i) (quf i) sz, (sf i).2) else sf i) ∧ nn = nI (ned (mof j) (quf j) sz))) ∧ (x = 0 → ∃ f8, σ'.2[o9]? = some (.inl (3, 1, .inr (.inl (vp_updL f8 (0 : Int32).toNatClampNeg nn.toInt64))))) := by
  rcases hx with h | h | ⟨rfl, j, h1, h2, h3, h4, h5, h6, h7⟩
  · exact ⟨0, Or.inl h, fun z => by rw [h.1] at z; exact absurd z (by decide)⟩
  · exact ⟨0, Or.inr (Or.inl h), fun z => by rw [h.1] at z; exact absurd z (by decide)⟩
  · exact ⟨_, Or.inr (Or.inr ⟨rfl, j, h1, h2, h3, h4, h5, h6, rfl⟩), fun _ => h7⟩
def lwP : ae_S × ae_O → Prop := pI (fun σ x => x = 1 ∧ σ.1.1 ≤ 601024 ∧ σ.1.2 ≤ 7293034)
theorem b_6 {x y a b : Int32} {A : Prop} (h : (x = a ∧ A) ∨ (x = b ∧ ¬ A)) (h2 : (y = a ∧ A) ∨ (y = b ∧ ¬ A)) : x = y := by
  rcases h with ⟨e1, q1⟩ | ⟨e1, q1⟩ <;> rcases h2 with ⟨e2, q2⟩ | ⟨e2, q2⟩
  · rw [e1, e2]
  · exact absurd q1 q2
  · exact absurd q2 q1
  · rw [e1, e2]
set_option maxRecDepth 8000 in
theorem lw_0 (hL : L ≤ 3584) (ht : 7 * t + 7 ≤ L) (hI : Iv t K F c u g u σ) (hK : LR σ F) {P : ae_S × ae_O → Prop} (hc : ∀ σ K F c u g x5 x6, Iv (t + 1) K F c u g u σ → LR σ F → hG (ra0 L xs) 7 0 σ [some (.retAddr 0), some (.ref 0), some (.ref 176), some (.ref 215), some (.int (nI (7 * t))), x5, x6] [] 762 P) {x5 x6 : Option Value} : hG (ra0 L xs) 7 0 σ [some (.retAddr 0), some (.ref 0), some (.ref 176), some (.ref 215), some (.int (nI (7 * t))), x5, x6] [] 112 P := by
  obtain ⟨f9, ho9⟩ := hI.2.2.2.2.2.2.1
  have hT := hI.2.1
  have hS := hI.2.2.1
  have hKo := hI.2.2.2.1 215 (by decide) (Nat.le_refl _)
  have h0 := hI.1
  obtain ⟨f, gaf, hif, quf, paf, sof, mof, pof, acf, waf, sf, k1, k2, k3, k4⟩ := hK
  refine h_st rfl rfl ?_
  refine h_st rfl rfl ?_
  refine h_st rfl rfl ?_
  refine h_st rfl rfl ?_
  refine h_st rfl rfl ?_
  refine h_st rfl (lw_a (k := 1) hL (by omega)) ?_
  refine h_st rfl rfl ?_
  refine h_st rfl rfl ?_
  refine h_st rfl rfl ?_
  refine h_st rfl rfl ?_
  refine h_st rfl (lw_a (k := 2) hL (by omega)) ?_
  refine h_st rfl rfl ?_
  refine h_st rfl rfl ?_
  refine h_st rfl rfl ?_
  refine h_st rfl rfl ?_
  refine h_st rfl (lw_a (k := 3) hL (by omega)) ?_
  refine h_st rfl rfl ?_
  refine h_st rfl rfl ?_
  refine h_st rfl rfl ?_
  refine h_st rfl rfl ?_
  refine h_st rfl (lw_a (k := 4) hL (by omega)) ?_
  refine h_st rfl rfl ?_
  refine h_st rfl rfl ?_
  refine h_st rfl rfl ?_
  refine h_st rfl rfl ?_
  refine h_st rfl (lw_a (k := 5) hL (by omega)) ?_
  refine h_st rfl rfl ?_
  refine h_st rfl rfl ?_
  refine h_st rfl rfl ?_
  refine h_st rfl rfl ?_
  refine h_st rfl (lw_a (k := 6) hL (by omega)) ?_
  refine h_ci7 rfl (Nat.le_of_ble_eq_true rfl) rfl rfl (c_79x hT hS ho9 hKo k1 _ _ _ _ _ _) (fun σ2 x2 hq => ?_)
  obtain ⟨⟨K2, hlw⟩, hn0, h18, hx2⟩ := hq
  replace hI := hI.lw hlw (hn0.trans h0)
  refine h_st rfl rfl ?_
  refine h_st rfl rfl ?_
  refine h_st rfl rfl ?_
  refine h_st rfl rfl ?_
  refine h_st rfl rfl ?_
  refine h_st rfl rfl ?_
  refine h_st rfl (lw_a (k := 1) hL (by omega)) ?_
  refine h_st rfl rfl ?_
  refine h_st rfl rfl ?_
  refine h_st rfl rfl ?_
  refine h_st rfl rfl ?_
  refine h_st rfl (lw_a (k := 2) hL (by omega)) ?_
  refine h_st rfl rfl ?_
  refine h_st rfl rfl ?_
  refine h_st rfl rfl ?_
  refine h_st rfl rfl ?_
  refine h_st rfl (lw_a (k := 3) hL (by omega)) ?_
  refine h_st rfl rfl ?_
  refine h_st rfl rfl ?_
  refine h_st rfl rfl ?_
  refine h_st rfl rfl ?_
  refine h_st rfl (lw_a (k := 4) hL (by omega)) ?_
  refine h_st rfl rfl ?_
  refine h_st rfl rfl ?_
  refine h_st rfl rfl ?_
  refine h_st rfl rfl ?_
  refine h_st rfl (lw_a (k := 5) hL (by omega)) ?_
  refine h_st rfl rfl ?_
  refine h_st rfl rfl ?_
  refine h_st rfl rfl ?_
  refine h_st rfl rfl ?_
  refine h_st rfl (lw_a (k := 6) hL (by omega)) ?_
  refine h_cv7 rfl (Nat.le_of_ble_eq_true rfl) (e_rcv hI.2.2.2.2.1.2.1) rfl (r_97t hI.2.2.2.2.1 hI.2.2.2.2.2.1 _ _ _ _ _ _) (fun σ3 hq => ?_)
  obtain ⟨c3, F3, h3, hP3, hm3⟩ := hq
  obtain ⟨hcx, hK⟩ := lr_l hT hS k1 k2 k3 k4 h18 hx2 hm3
  replace hK := hK.cls hI.2.1 hI.2.2.1 h3.c1 (h3.c18 hI.2.2.2.1)
  replace hI := hI.rf h3 hP3
  refine h_st rfl rfl ?_
  exact hc _ _ _ _ _ _ _ _ hI hK
set_option maxRecDepth 8000 in
theorem lw_1 (hL : L ≤ 3584) (ht : 7 * t + 7 ≤ L) (hI : Iv t K F c u g u σ) (hK : LR σ F) {P : ae_S × ae_O → Prop} (hc : ∀ σ K F c u g x5 x6, Iv (t + 1) K F c u g u σ → LR σ F → hG (ra0 L xs) 7 0 σ [some (.retAddr 0), some (.ref 0), some (.ref 176), some (.ref 215), some (.int (nI (7 * t))), x5, x6] [] 762 P) {x5 x6 : Option Value} : hG (ra0 L xs) 7 0 σ [some (.retAddr 0), some (.ref 0), some (.ref 176), some (.ref 215), some (.int (nI (7 * t))), x5, x6] [] 199 P := by
  obtain ⟨f9, ho9⟩ := hI.2.2.2.2.2.2.1
  have hT := hI.2.1
  have hS := hI.2.2.1
  have hKo := hI.2.2.2.1 215 (by decide) (Nat.le_refl _)
  have h0 := hI.1
  obtain ⟨f, gaf, hif, quf, paf, sof, mof, pof, acf, waf, sf, k1, k2, k3, k4⟩ := hK
  refine h_st rfl rfl ?_
  refine h_st rfl rfl ?_
  refine h_st rfl rfl ?_
  refine h_st rfl rfl ?_
  refine h_st rfl rfl ?_
  refine h_st rfl (lw_a (k := 1) hL (by omega)) ?_
  refine h_st rfl rfl ?_
  refine h_st rfl rfl ?_
  refine h_st rfl rfl ?_
  refine h_st rfl rfl ?_
  refine h_st rfl (lw_a (k := 2) hL (by omega)) ?_
  refine h_st rfl rfl ?_
  refine h_st rfl rfl ?_
  refine h_st rfl rfl ?_
  refine h_st rfl rfl ?_
  refine h_st rfl (lw_a (k := 3) hL (by omega)) ?_
  refine h_st rfl rfl ?_
  refine h_ci5 rfl (Nat.le_of_ble_eq_true rfl) rfl rfl (c_86x hT hS ho9 hKo k1 k2 _ _ _) (fun σ2 x2 hq => ?_)
  obtain ⟨⟨K2, hlw⟩, hn0, hn1, hx2⟩ := hq
  replace hI := hI.lw hlw (hn0.trans h0)
  refine h_st rfl rfl ?_
  refine h_st rfl rfl ?_
  refine h_st rfl rfl ?_
  refine h_st rfl rfl ?_
  refine h_st rfl rfl ?_
  refine h_st rfl rfl ?_
  refine h_st rfl (lw_a (k := 1) hL (by omega)) ?_
  refine h_st rfl rfl ?_
  refine h_st rfl rfl ?_
  refine h_st rfl rfl ?_
  refine h_st rfl rfl ?_
  refine h_st rfl (lw_a (k := 2) hL (by omega)) ?_
  refine h_st rfl rfl ?_
  refine h_st rfl rfl ?_
  refine h_st rfl rfl ?_
  refine h_st rfl rfl ?_
  refine h_st rfl (lw_a (k := 3) hL (by omega)) ?_
  refine h_ci4 rfl (Nat.le_of_ble_eq_true rfl) (e_rcv hI.2.2.2.2.1.2.1) rfl (r_98x_ hI.2.2.2.2.1 hI.2.2.2.2.2.1 _ _ _) (fun σ3 y3 hq => ?_)
  obtain ⟨c3, F3, h3, hP3, hm3⟩ := hq
  obtain ⟨nn, hw, hout⟩ := wr_n hx2
  obtain ⟨hcx, hK, hnv⟩ := lr_w (hn1.trans k1) k2 k3 k4 hw hm3
  have hout3 : x2 = 0 → ∃ f8, σ3.2[215]? = some (.inl (3, 1, .inr (.inl (vp_updL f8 (0 : Int32).toNatClampNeg nn.toInt64)))) := fun z => (hout z).elim (fun f8 y => ⟨f8, (h3.1.2.2 215 (Or.inr (Nat.le_refl _))).trans y⟩)
  replace hK := hK.cls hI.2.1 hI.2.2.1 h3.c1 (h3.c18 hI.2.2.2.1)
  replace hI := hI.rf h3 hP3
  refine h_st rfl rfl ?_
  refine h_st rfl rfl ?_
  refine h_ci1 rfl (Nat.le_of_ble_eq_true rfl) (e_rcv hI.2.2.2.2.1.2.1) rfl (r_96 hI.2.2.2.2.1.2.1) (fun σ4 x4 hq => ?_)
  obtain ⟨hss, rfl⟩ := hq
  replace hss := hss.symm
  subst hss
  refine h_st rfl rfl ?_
  refine h_st rfl rfl ?_
  refine h_pc (if_pos (decide_eq_true (hcx))) ?_
  refine h_st rfl rfl ?_
  refine h_st rfl rfl ?_
  refine h_br (fun q9 => ?_) (fun q9 => ?_)
  · refine h_st rfl rfl ?_
    exact hc _ _ _ _ _ _ _ _ hI hK
  · refine h_st rfl rfl ?_
    refine h_st rfl rfl ?_
    refine h_st rfl (e_la (Classical.choose_spec (hout3 (Classical.not_not.mp q9))) (by decide)) ?_
    refine h_st rfl rfl ?_
    refine h_st rfl rfl ?_
    refine h_st rfl rfl ?_
    refine h_st rfl rfl ?_
    refine h_pc (if_pos (decide_eq_true (lg_z (hnv (Classical.not_not.mp q9))))) ?_
    refine h_st rfl rfl ?_
    exact hc _ _ _ _ _ _ _ _ hI hK
set_option maxRecDepth 8000 in
theorem lw_2 (hL : L ≤ 3584) (ht : 7 * t + 7 ≤ L) (hI : Iv t K F c u g u σ) (hK : LR σ F) {P : ae_S × ae_O → Prop} (hc : ∀ σ K F c u g x5 x6, Iv (t + 1) K F c u g u σ → LR σ F → hG (ra0 L xs) 7 0 σ [some (.retAddr 0), some (.ref 0), some (.ref 176), some (.ref 215), some (.int (nI (7 * t))), x5, x6] [] 762 P) {x5 x6 : Option Value} : hG (ra0 L xs) 7 0 σ [some (.retAddr 0), some (.ref 0), some (.ref 176), some (.ref 215), some (.int (nI (7 * t))), x5, x6] [] 279 P := by
  obtain ⟨f9, ho9⟩ := hI.2.2.2.2.2.2.1
  have hT := hI.2.1
  have hS := hI.2.2.1
  have hKo := hI.2.2.2.1 215 (by decide) (Nat.le_refl _)
  have h0 := hI.1
  obtain ⟨f, gaf, hif, quf, paf, sof, mof, pof, acf, waf, sf, k1, k2, k3, k4⟩ := hK
  refine h_st rfl rfl ?_
  refine h_st rfl rfl ?_
  refine h_st rfl rfl ?_
  refine h_st rfl rfl ?_
  refine h_st rfl rfl ?_
  refine h_st rfl (lw_a (k := 1) hL (by omega)) ?_
  refine h_ci2 rfl (Nat.le_of_ble_eq_true rfl) (rcv1 hT hS.1) rfl (c_6x hT hS rfl rfl rfl h0 k1 k2 _) (fun σ2 x2 hq => ?_)
  obtain ⟨K2, N2, eN2, ex, h02, s3, k2'⟩ := hq
  have k1' := (ex.c1 hS.2.1).trans k1
  replace hI := hI.lw (ex.up.lw (by decide) (by decide) ho9 hKo) h02
  refine h_st rfl rfl ?_
  refine h_st rfl rfl ?_
  refine h_st rfl rfl ?_
  refine h_st rfl rfl ?_
  refine h_st rfl rfl ?_
  refine h_st rfl rfl ?_
  refine h_st rfl (lw_a (k := 1) hL (by omega)) ?_
  refine h_ci2 rfl (Nat.le_of_ble_eq_true rfl) (e_rcv hI.2.2.2.2.1.2.1) rfl (r_101x hI.2.2.2.2.1 hI.2.2.2.2.2.1 k3 _) (fun σ3 y3 hq => ?_)
  obtain ⟨N3, eN3, u2, F3, h3, hP3, ag3, k3'⟩ := hq
  have eN : N3 = N2 := eN3.trans eN2.symm
  subst eN
  have hK : LR σ2 F3 := ⟨f, gaf, hif, quf, paf, sof, mof, pof, acf, waf, _, k1', k2', k3'.eq (fun i hi hz => by rw [ag3 177 (by decide)] at hz; rw [(k4 i hi).elim (fun z => absurd z.2 hz) (fun z => z.2.2.1)]), k4.eq ag3⟩
  replace hK := hK.cls hI.2.1 hI.2.2.1 h3.c1 (h3.c18 hI.2.2.2.1)
  replace hI := hI.rf h3 hP3
  refine h_st rfl rfl ?_
  refine h_st rfl rfl ?_
  exact hc _ _ _ _ _ _ _ _ hI hK
set_option maxRecDepth 8000 in
theorem lw_3 (hL : L ≤ 3584) (ht : 7 * t + 7 ≤ L) (hI : Iv t K F c u g u σ) (hK : LR σ F) {P : ae_S × ae_O → Prop} (hc : ∀ σ K F c u g x5 x6, Iv (t + 1) K F c u g u σ → LR σ F → hG (ra0 L xs) 7 0 σ [some (.retAddr 0), some (.ref 0), some (.ref 176), some (.ref 215), some (.int (nI (7 * t))), x5, x6] [] 762 P) {x5 x6 : Option Value} : hG (ra0 L xs) 7 0 σ [some (.retAddr 0), some (.ref 0), some (.ref 176), some (.ref 215), some (.int (nI (7 * t))), x5, x6] [] 304 P := by
  obtain ⟨f9, ho9⟩ := hI.2.2.2.2.2.2.1
  have hT := hI.2.1
  have hS := hI.2.2.1
  have hKo := hI.2.2.2.1 215 (by decide) (Nat.le_refl _)
  have h0 := hI.1
  refine h_st rfl rfl ?_
  refine h_st rfl rfl ?_
  refine h_st rfl rfl ?_
  refine h_st rfl rfl ?_
  refine h_st rfl rfl ?_
  refine h_st rfl (lw_a (k := 1) hL (by omega)) ?_
  refine h_st rfl rfl ?_
  refine h_st rfl rfl ?_
  refine h_st rfl rfl ?_
  refine h_st rfl rfl ?_
  refine h_st rfl (lw_a (k := 2) hL (by omega)) ?_
  refine h_st rfl rfl ?_
  refine h_ci4 rfl (Nat.le_of_ble_eq_true rfl) rfl rfl (c_91x hT hS ho9 hKo _ _) (fun σ2 x2 hq => ?_)
  obtain ⟨⟨K2, hlw⟩, hn0, hn1, h18⟩ := hq
  replace hI := hI.lw hlw (hn0.trans h0)
  replace hK := hK.cls hT hS hn1 h18
  refine h_st rfl rfl ?_
  refine h_st rfl rfl ?_
  refine h_st rfl rfl ?_
  refine h_st rfl rfl ?_
  refine h_st rfl rfl ?_
  refine h_st rfl rfl ?_
  refine h_st rfl (lw_a (k := 1) hL (by omega)) ?_
  refine h_st rfl rfl ?_
  refine h_st rfl rfl ?_
  refine h_st rfl rfl ?_
  refine h_st rfl rfl ?_
  refine h_st rfl (lw_a (k := 2) hL (by omega)) ?_
  refine h_ci3 rfl (Nat.le_of_ble_eq_true rfl) (e_rcv hI.2.2.2.2.1.2.1) rfl (r_130t hI.2.2.2.2.1 hI.2.2.2.2.2.1 _ _) (fun σ3 y3 hq => ?_)
  obtain ⟨c3, g3, F3, h3, hP3, ag3⟩ := hq
  replace hK := hK.rf hI.2.1 hI.2.2.1 hI.2.2.2.1 h3 (fun q hq _ => ag3 q (by omega))
  replace hI := hI.rf h3 hP3
  refine h_st rfl rfl ?_
  refine h_st rfl rfl ?_
  exact hc _ _ _ _ _ _ _ _ hI hK
set_option maxRecDepth 8000 in
theorem lw_4 (hL : L ≤ 3584) (ht : 7 * t + 7 ≤ L) (hI : Iv t K F c u g u σ) (hK : LR σ F) {P : ae_S × ae_O → Prop} (hc : ∀ σ K F c u g x5 x6, Iv (t + 1) K F c u g u σ → LR σ F → hG (ra0 L xs) 7 0 σ [some (.retAddr 0), some (.ref 0), some (.ref 176), some (.ref 215), some (.int (nI (7 * t))), x5, x6] [] 762 P) {x5 x6 : Option Value} : hG (ra0 L xs) 7 0 σ [some (.retAddr 0), some (.ref 0), some (.ref 176), some (.ref 215), some (.int (nI (7 * t))), x5, x6] [] 344 P := by
  obtain ⟨f9, ho9⟩ := hI.2.2.2.2.2.2.1
  have hT := hI.2.1
  have hS := hI.2.2.1
  have hKo := hI.2.2.2.1 215 (by decide) (Nat.le_refl _)
  have h0 := hI.1
  refine h_st rfl rfl ?_
  refine h_st rfl rfl ?_
  refine h_st rfl rfl ?_
  refine h_st rfl rfl ?_
  refine h_st rfl rfl ?_
  refine h_st rfl (lw_a (k := 1) hL (by omega)) ?_
  refine h_ci2 rfl (Nat.le_of_ble_eq_true rfl) (rcv1 hT hS.1) rfl (c_63t hT hS _) (fun σ2 x2 hq => ?_)
  replace hq := hq.symm
  subst hq
  replace hI := hI.up1
  refine h_st rfl rfl ?_
  refine h_st rfl rfl ?_
  refine h_st rfl rfl ?_
  refine h_st rfl rfl ?_
  refine h_st rfl rfl ?_
  refine h_st rfl rfl ?_
  refine h_st rfl (lw_a (k := 1) hL (by omega)) ?_
  refine h_ci2 rfl (Nat.le_of_ble_eq_true rfl) (e_rcv hI.2.2.2.2.1.2.1) rfl (r_131t hI.2.2.2.2.1 hI.2.2.2.2.2.1.2.2.2.2.2.2 _) (fun σ3 y3 hq => ?_)
  replace hK := hK.rf hI.2.1 hI.2.2.1 hI.2.2.2.1 hq (fun _ _ _ => rfl)
  replace hI := hI.rf hq hI.2.2.2.2.2.1
  refine h_st rfl rfl ?_
  refine h_st rfl rfl ?_
  exact hc _ _ _ _ _ _ _ _ hI hK
set_option maxRecDepth 8000 in
theorem lw_5 (hL : L ≤ 3584) (ht : 7 * t + 7 ≤ L) (hI : Iv t K F c u g u σ) (hK : LR σ F) {P : ae_S × ae_O → Prop} (hc : ∀ σ K F c u g x5 x6, Iv (t + 1) K F c u g u σ → LR σ F → hG (ra0 L xs) 7 0 σ [some (.retAddr 0), some (.ref 0), some (.ref 176), some (.ref 215), some (.int (nI (7 * t))), x5, x6] [] 762 P) {x5 x6 : Option Value} : hG (ra0 L xs) 7 0 σ [some (.retAddr 0), some (.ref 0), some (.ref 176), some (.ref 215), some (.int (nI (7 * t))), x5, x6] [] 369 P := by
  obtain ⟨f9, ho9⟩ := hI.2.2.2.2.2.2.1
  have hT := hI.2.1
  have hS := hI.2.2.1
  have hKo := hI.2.2.2.1 215 (by decide) (Nat.le_refl _)
  have h0 := hI.1
  refine h_st rfl rfl ?_
  refine h_st rfl rfl ?_
  refine h_st rfl rfl ?_
  refine h_st rfl rfl ?_
  refine h_st rfl rfl ?_
  refine h_st rfl (lw_a (k := 1) hL (by omega)) ?_
  refine h_st rfl rfl ?_
  refine h_st rfl rfl ?_
  refine h_st rfl rfl ?_
  refine h_st rfl rfl ?_
  refine h_st rfl (lw_a (k := 2) hL (by omega)) ?_
  refine h_ci3 rfl (Nat.le_of_ble_eq_true rfl) (rcv1 hT hS.1) rfl (c_64t hT hS _ _) (fun σ2 x2 hq => ?_)
  replace hq := hq.symm
  subst hq
  replace hI := hI.up1
  refine h_st rfl rfl ?_
  refine h_st rfl rfl ?_
  refine h_st rfl rfl ?_
  refine h_st rfl rfl ?_
  refine h_st rfl rfl ?_
  refine h_st rfl rfl ?_
  refine h_st rfl (lw_a (k := 1) hL (by omega)) ?_
  refine h_st rfl rfl ?_
  refine h_st rfl rfl ?_
  refine h_st rfl rfl ?_
  refine h_st rfl rfl ?_
  refine h_st rfl (lw_a (k := 2) hL (by omega)) ?_
  refine h_ci3 rfl (Nat.le_of_ble_eq_true rfl) (e_rcv hI.2.2.2.2.1.2.1) rfl (r_132t hI.2.2.2.2.1 _ _) (fun σ3 y3 hq => ?_)
  replace hK := hK.rf hI.2.1 hI.2.2.1 hI.2.2.2.1 hq (fun _ _ _ => rfl)
  replace hI := hI.rf hq hI.2.2.2.2.2.1
  refine h_st rfl rfl ?_
  refine h_st rfl rfl ?_
  exact hc _ _ _ _ _ _ _ _ hI hK
set_option maxRecDepth 8000 in
theorem lw_6 (hL : L ≤ 3584) (ht : 7 * t + 7 ≤ L) (hI : Iv t K F c u g u σ) (hK : LR σ F) {P : ae_S × ae_O → Prop} (hc : ∀ σ K F c u g x5 x6, Iv (t + 1) K F c u g u σ → LR σ F → hG (ra0 L xs) 7 0 σ [some (.retAddr 0), some (.ref 0), some (.ref 176), some (.ref 215), some (.int (nI (7 * t))), x5, x6] [] 762 P) {x5 x6 : Option Value} : hG (ra0 L xs) 7 0 σ [some (.retAddr 0), some (.ref 0), some (.ref 176), some (.ref 215), some (.int (nI (7 * t))), x5, x6] [] 406 P := by
  obtain ⟨f9, ho9⟩ := hI.2.2.2.2.2.2.1
  have hT := hI.2.1
  have hS := hI.2.2.1
  have hKo := hI.2.2.2.1 215 (by decide) (Nat.le_refl _)
  have h0 := hI.1
  refine h_st rfl rfl ?_
  refine h_st rfl rfl ?_
  refine h_st rfl rfl ?_
  refine h_st rfl rfl ?_
  refine h_st rfl rfl ?_
  refine h_st rfl (lw_a (k := 1) hL (by omega)) ?_
  refine h_st rfl rfl ?_
  refine h_st rfl rfl ?_
  refine h_st rfl rfl ?_
  refine h_st rfl rfl ?_
  refine h_st rfl (lw_a (k := 2) hL (by omega)) ?_
  refine h_st rfl rfl ?_
  refine h_st rfl rfl ?_
  refine h_st rfl rfl ?_
  refine h_st rfl rfl ?_
  refine h_st rfl (lw_a (k := 3) hL (by omega)) ?_
  refine h_st rfl rfl ?_
  refine h_st rfl rfl ?_
  refine h_st rfl rfl ?_
  refine h_st rfl rfl ?_
  refine h_st rfl (lw_a (k := 4) hL (by omega)) ?_
  refine h_ci5 rfl (Nat.le_of_ble_eq_true rfl) (rcv1 hT hS.1) rfl (c_67t (b := true) hT hS _ _ _ _) (fun σ2 x2 hq => ?_)
  obtain ⟨ex, s3⟩ := hq
  replace hI := hI.lw (ex.up.lw (by decide) (by decide) ho9 hKo) ((ex.cs (Or.inl hS.1)).trans h0)
  replace hK := hK.cls hT hS (ex.c1 hS.2.1) (fun q hq => ex.cs (Or.inr hq))
  refine h_st rfl rfl ?_
  refine h_st rfl rfl ?_
  refine h_st rfl rfl ?_
  refine h_st rfl rfl ?_
  refine h_st rfl rfl ?_
  refine h_st rfl rfl ?_
  refine h_st rfl (lw_a (k := 1) hL (by omega)) ?_
  refine h_st rfl rfl ?_
  refine h_st rfl rfl ?_
  refine h_st rfl rfl ?_
  refine h_st rfl rfl ?_
  refine h_st rfl (lw_a (k := 2) hL (by omega)) ?_
  refine h_st rfl rfl ?_
  refine h_st rfl rfl ?_
  refine h_st rfl rfl ?_
  refine h_st rfl rfl ?_
  refine h_st rfl (lw_a (k := 3) hL (by omega)) ?_
  refine h_st rfl rfl ?_
  refine h_st rfl rfl ?_
  refine h_st rfl rfl ?_
  refine h_st rfl rfl ?_
  refine h_st rfl (lw_a (k := 4) hL (by omega)) ?_
  refine h_ci5 rfl (Nat.le_of_ble_eq_true rfl) (e_rcv hI.2.2.2.2.1.2.1) rfl (r_133t hI.2.2.2.2.1.base hI.2.2.2.2.2.1 _ _ _ _) (fun σ3 y3 hq => ?_)
  obtain ⟨⟨F3, h3, hP3⟩, u2⟩ := hq
  replace hK := hK.rf hI.2.1 hI.2.2.1 hI.2.2.2.1 h3 (fun q h1 h2 => h3.2.2.2 rfl q (by omega) h2)
  replace hI := hI.rf h3 hP3
  refine h_st rfl rfl ?_
  refine h_st rfl rfl ?_
  exact hc _ _ _ _ _ _ _ _ hI hK
set_option maxRecDepth 8000 in
theorem lw_7 (hL : L ≤ 3584) (ht : 7 * t + 7 ≤ L) (hI : Iv t K F c u g u σ) (hK : LR σ F) {P : ae_S × ae_O → Prop} (hc : ∀ σ K F c u g x5 x6, Iv (t + 1) K F c u g u σ → LR σ F → hG (ra0 L xs) 7 0 σ [some (.retAddr 0), some (.ref 0), some (.ref 176), some (.ref 215), some (.int (nI (7 * t))), x5, x6] [] 762 P) {x5 x6 : Option Value} : hG (ra0 L xs) 7 0 σ [some (.retAddr 0), some (.ref 0), some (.ref 176), some (.ref 215), some (.int (nI (7 * t))), x5, x6] [] 467 P := by
  obtain ⟨f9, ho9⟩ := hI.2.2.2.2.2.2.1
  have hT := hI.2.1
  have hS := hI.2.2.1
  have hKo := hI.2.2.2.1 215 (by decide) (Nat.le_refl _)
  have h0 := hI.1
  refine h_st rfl rfl ?_
  refine h_st rfl rfl ?_
  refine h_st rfl rfl ?_
  refine h_st rfl rfl ?_
  refine h_st rfl rfl ?_
  refine h_st rfl (lw_a (k := 1) hL (by omega)) ?_
  refine h_st rfl rfl ?_
  refine h_st rfl rfl ?_
  refine h_st rfl rfl ?_
  refine h_st rfl rfl ?_
  refine h_st rfl (lw_a (k := 2) hL (by omega)) ?_
  refine h_st rfl rfl ?_
  refine h_st rfl rfl ?_
  refine h_st rfl rfl ?_
  refine h_st rfl rfl ?_
  refine h_st rfl (lw_a (k := 3) hL (by omega)) ?_
  refine h_st rfl rfl ?_
  refine h_st rfl rfl ?_
  refine h_st rfl rfl ?_
  refine h_st rfl rfl ?_
  refine h_st rfl (lw_a (k := 4) hL (by omega)) ?_
  refine h_st rfl rfl ?_
  refine h_st rfl rfl ?_
  refine h_st rfl rfl ?_
  refine h_st rfl rfl ?_
  refine h_st rfl (lw_a (k := 5) hL (by omega)) ?_
  refine h_ci6 rfl (Nat.le_of_ble_eq_true rfl) (rcv1 hT hS.1) rfl (c_69t (b := true) hT hS rfl _ _ _ _ _) (fun σ2 x2 hq => ?_)
  obtain ⟨K2, ex⟩ := hq
  replace hI := hI.lw (ex.up.lw (by decide) (by decide) ho9 hKo) ((ex.cs (Or.inl hS.1)).trans h0)
  replace hK := hK.cls hT hS (ex.c1 hS.2.1) (fun q hq => ex.cs (Or.inr hq))
  refine h_st rfl rfl ?_
  refine h_st rfl rfl ?_
  refine h_st rfl rfl ?_
  refine h_st rfl rfl ?_
  refine h_st rfl rfl ?_
  refine h_st rfl rfl ?_
  refine h_st rfl (lw_a (k := 1) hL (by omega)) ?_
  refine h_st rfl rfl ?_
  refine h_st rfl rfl ?_
  refine h_st rfl rfl ?_
  refine h_st rfl rfl ?_
  refine h_st rfl (lw_a (k := 2) hL (by omega)) ?_
  refine h_st rfl rfl ?_
  refine h_st rfl rfl ?_
  refine h_st rfl rfl ?_
  refine h_st rfl rfl ?_
  refine h_st rfl (lw_a (k := 3) hL (by omega)) ?_
  refine h_st rfl rfl ?_
  refine h_st rfl rfl ?_
  refine h_st rfl rfl ?_
  refine h_st rfl rfl ?_
  refine h_st rfl (lw_a (k := 4) hL (by omega)) ?_
  refine h_st rfl rfl ?_
  refine h_st rfl rfl ?_
  refine h_st rfl rfl ?_
  refine h_st rfl rfl ?_
  refine h_st rfl (lw_a (k := 5) hL (by omega)) ?_
  refine h_ci6 rfl (Nat.le_of_ble_eq_true rfl) (e_rcv hI.2.2.2.2.1.2.1) rfl (r_135t hI.2.2.2.2.1 hI.2.2.2.2.2.1 _ _ _ _ _) (fun σ3 y3 hq => ?_)
  obtain ⟨F3, h3, hP3, ag3⟩ := hq
  replace hK := hK.rf hI.2.1 hI.2.2.1 hI.2.2.2.1 h3 (fun q hq _ => ag3 q (by omega))
  replace hI := hI.rf h3 hP3
  refine h_st rfl rfl ?_
  refine h_st rfl rfl ?_
  exact hc _ _ _ _ _ _ _ _ hI hK
set_option maxRecDepth 8000 in
theorem lw_8 (hL : L ≤ 3584) (ht : 7 * t + 7 ≤ L) (hI : Iv t K F c u g u σ) (hK : LR σ F) {P : ae_S × ae_O → Prop} (hc : ∀ σ K F c u g x5 x6, Iv (t + 1) K F c u g u σ → LR σ F → hG (ra0 L xs) 7 0 σ [some (.retAddr 0), some (.ref 0), some (.ref 176), some (.ref 215), some (.int (nI (7 * t))), x5, x6] [] 762 P) {x5 x6 : Option Value} : hG (ra0 L xs) 7 0 σ [some (.retAddr 0), some (.ref 0), some (.ref 176), some (.ref 215), some (.int (nI (7 * t))), x5, x6] [] 540 P := by
  obtain ⟨f9, ho9⟩ := hI.2.2.2.2.2.2.1
  have hT := hI.2.1
  have hS := hI.2.2.1
  have hKo := hI.2.2.2.1 215 (by decide) (Nat.le_refl _)
  have h0 := hI.1
  refine h_st rfl rfl ?_
  refine h_st rfl rfl ?_
  refine h_st rfl rfl ?_
  refine h_st rfl rfl ?_
  refine h_st rfl rfl ?_
  refine h_st rfl (lw_a (k := 1) hL (by omega)) ?_
  refine h_st rfl rfl ?_
  refine h_st rfl rfl ?_
  refine h_st rfl rfl ?_
  refine h_st rfl rfl ?_
  refine h_st rfl (lw_a (k := 2) hL (by omega)) ?_
  refine h_st rfl rfl ?_
  refine h_st rfl rfl ?_
  refine h_st rfl rfl ?_
  refine h_st rfl rfl ?_
  refine h_st rfl (lw_a (k := 3) hL (by omega)) ?_
  refine h_ci4 rfl (Nat.le_of_ble_eq_true rfl) (rcv1 hT hS.1) rfl (c_70t hT hS _ _ _) (fun σ2 x2 hq => ?_)
  replace hq := hq.symm
  subst hq
  replace hI := hI.up1
  refine h_st rfl rfl ?_
  refine h_st rfl rfl ?_
  refine h_st rfl rfl ?_
  refine h_st rfl rfl ?_
  refine h_st rfl rfl ?_
  refine h_st rfl rfl ?_
  refine h_st rfl (lw_a (k := 1) hL (by omega)) ?_
  refine h_st rfl rfl ?_
  refine h_st rfl rfl ?_
  refine h_st rfl rfl ?_
  refine h_st rfl rfl ?_
  refine h_st rfl (lw_a (k := 2) hL (by omega)) ?_
  refine h_st rfl rfl ?_
  refine h_st rfl rfl ?_
  refine h_st rfl rfl ?_
  refine h_st rfl rfl ?_
  refine h_st rfl (lw_a (k := 3) hL (by omega)) ?_
  refine h_ci4 rfl (Nat.le_of_ble_eq_true rfl) (e_rcv hI.2.2.2.2.1.2.1) rfl (r_136t hI.2.2.2.2.1 hI.2.2.2.2.2.1 _ _ _) (fun σ3 y3 hq => ?_)
  replace hK := hK.rf hI.2.1 hI.2.2.1 hI.2.2.2.1 hq (fun _ _ _ => rfl)
  replace hI := hI.rf hq hI.2.2.2.2.2.1
  refine h_st rfl rfl ?_
  refine h_st rfl rfl ?_
  exact hc _ _ _ _ _ _ _ _ hI hK
set_option maxRecDepth 8000 in
theorem lw_9 (hL : L ≤ 3584) (ht : 7 * t + 7 ≤ L) (hI : Iv t K F c u g u σ) (hK : LR σ F) {P : ae_S × ae_O → Prop} (hc : ∀ σ K F c u g x5 x6, Iv (t + 1) K F c u g u σ → LR σ F → hG (ra0 L xs) 7 0 σ [some (.retAddr 0), some (.ref 0), some (.ref 176), some (.ref 215), some (.int (nI (7 * t))), x5, x6] [] 762 P) {x5 x6 : Option Value} : hG (ra0 L xs) 7 0 σ [some (.retAddr 0), some (.ref 0), some (.ref 176), some (.ref 215), some (.int (nI (7 * t))), x5, x6] [] 589 P := by
  obtain ⟨f9, ho9⟩ := hI.2.2.2.2.2.2.1
  have hT := hI.2.1
  have hS := hI.2.2.1
  have hKo := hI.2.2.2.1 215 (by decide) (Nat.le_refl _)
  have h0 := hI.1
  refine h_st rfl rfl ?_
  refine h_st rfl rfl ?_
  refine h_st rfl rfl ?_
  refine h_st rfl rfl ?_
  refine h_st rfl rfl ?_
  refine h_st rfl (lw_a (k := 1) hL (by omega)) ?_
  refine h_st rfl rfl ?_
  refine h_st rfl rfl ?_
  refine h_st rfl rfl ?_
  refine h_st rfl rfl ?_
  refine h_st rfl (lw_a (k := 2) hL (by omega)) ?_
  refine h_st rfl rfl ?_
  refine h_st rfl rfl ?_
  refine h_st rfl rfl ?_
  refine h_st rfl rfl ?_
  refine h_st rfl (lw_a (k := 3) hL (by omega)) ?_
  refine h_ci4 rfl (Nat.le_of_ble_eq_true rfl) (rcv1 hT hS.1) rfl (c_71t hT hS _ _ _) (fun σ2 x2 hq => ?_)
  replace hq := hq.symm
  subst hq
  replace hI := hI.up1
  refine h_st rfl rfl ?_
  refine h_st rfl rfl ?_
  refine h_st rfl rfl ?_
  refine h_st rfl rfl ?_
  refine h_st rfl rfl ?_
  refine h_st rfl rfl ?_
  refine h_st rfl (lw_a (k := 1) hL (by omega)) ?_
  refine h_st rfl rfl ?_
  refine h_st rfl rfl ?_
  refine h_st rfl rfl ?_
  refine h_st rfl rfl ?_
  refine h_st rfl (lw_a (k := 2) hL (by omega)) ?_
  refine h_st rfl rfl ?_
  refine h_st rfl rfl ?_
  refine h_st rfl rfl ?_
  refine h_st rfl rfl ?_
  refine h_st rfl (lw_a (k := 3) hL (by omega)) ?_
  refine h_ci4 rfl (Nat.le_of_ble_eq_true rfl) (e_rcv hI.2.2.2.2.1.2.1) rfl (r_137t hI.2.2.2.2.1 _ _ _) (fun σ3 y3 hq => ?_)
  replace hK := hK.rf hI.2.1 hI.2.2.1 hI.2.2.2.1 hq (fun _ _ _ => rfl)
  replace hI := hI.rf hq hI.2.2.2.2.2.1
  refine h_st rfl rfl ?_
  refine h_st rfl rfl ?_
  exact hc _ _ _ _ _ _ _ _ hI hK
set_option maxRecDepth 8000 in
theorem lw_10 (hL : L ≤ 3584) (ht : 7 * t + 7 ≤ L) (hI : Iv t K F c u g u σ) (hK : LR σ F) {P : ae_S × ae_O → Prop} (hc : ∀ σ K F c u g x5 x6, Iv (t + 1) K F c u g u σ → LR σ F → hG (ra0 L xs) 7 0 σ [some (.retAddr 0), some (.ref 0), some (.ref 176), some (.ref 215), some (.int (nI (7 * t))), x5, x6] [] 762 P) {x5 x6 : Option Value} : hG (ra0 L xs) 7 0 σ [some (.retAddr 0), some (.ref 0), some (.ref 176), some (.ref 215), some (.int (nI (7 * t))), x5, x6] [] 638 P := by
  obtain ⟨f9, ho9⟩ := hI.2.2.2.2.2.2.1
  have hT := hI.2.1
  have hS := hI.2.2.1
  have hKo := hI.2.2.2.1 215 (by decide) (Nat.le_refl _)
  have h0 := hI.1
  obtain ⟨f, gaf, hif, quf, paf, sof, mof, pof, acf, waf, sf, k1, k2, k3, k4⟩ := hK
  refine h_st rfl rfl ?_
  refine h_st rfl rfl ?_
  refine h_st rfl rfl ?_
  refine h_st rfl rfl ?_
  refine h_st rfl rfl ?_
  refine h_st rfl (lw_a (k := 1) hL (by omega)) ?_
  refine h_ci2 rfl (Nat.le_of_ble_eq_true rfl) (rcv1 hT hS.1) rfl (c_72x hT hS k1 k2 _) (fun σ2 x2 hq => ?_)
  obtain ⟨hss, hx2⟩ := hq
  replace hss := hss.symm
  subst hss
  replace hI := hI.up1
  refine h_st rfl rfl ?_
  refine h_st rfl rfl ?_
  refine h_st rfl rfl ?_
  refine h_st rfl rfl ?_
  refine h_st rfl rfl ?_
  refine h_st rfl rfl ?_
  refine h_st rfl (lw_a (k := 1) hL (by omega)) ?_
  refine h_ci2 rfl (Nat.le_of_ble_eq_true rfl) (e_rcv hI.2.2.2.2.1.2.1) rfl (r_138t hI.2.2.2.2.1 _) (fun σ3 y3 hq => ?_)
  have hK : LR σ F := ⟨f, gaf, hif, quf, paf, sof, mof, pof, acf, waf, sf, k1, k2, k3, k4⟩
  have hcx := fr_eq hx2 hq.2 k3 k4
  replace hK := hK.rf hI.2.1 hI.2.2.1 hI.2.2.2.1 hq.1 (fun _ _ _ => rfl)
  replace hI := hI.rf hq.1 hI.2.2.2.2.2.1
  refine h_st rfl rfl ?_
  refine h_st rfl rfl ?_
  exact hc _ _ _ _ _ _ _ _ hI hK
set_option maxRecDepth 8000 in
theorem lw_11 (hL : L ≤ 3584) (ht : 7 * t + 7 ≤ L) (hI : Iv t K F c u g u σ) (hK : LR σ F) {P : ae_S × ae_O → Prop} (hc : ∀ σ K F c u g x5 x6, Iv (t + 1) K F c u g u σ → LR σ F → hG (ra0 L xs) 7 0 σ [some (.retAddr 0), some (.ref 0), some (.ref 176), some (.ref 215), some (.int (nI (7 * t))), x5, x6] [] 762 P) {x5 x6 : Option Value} : hG (ra0 L xs) 7 0 σ [some (.retAddr 0), some (.ref 0), some (.ref 176), some (.ref 215), some (.int (nI (7 * t))), x5, x6] [] 663 P := by
  obtain ⟨f9, ho9⟩ := hI.2.2.2.2.2.2.1
  have hT := hI.2.1
  have hS := hI.2.2.1
  have hKo := hI.2.2.2.1 215 (by decide) (Nat.le_refl _)
  have h0 := hI.1
  refine h_st rfl rfl ?_
  refine h_st rfl rfl ?_
  refine h_st rfl rfl ?_
  refine h_st rfl rfl ?_
  refine h_st rfl rfl ?_
  refine h_st rfl (lw_a (k := 1) hL (by omega)) ?_
  refine h_st rfl rfl ?_
  refine h_st rfl rfl ?_
  refine h_st rfl rfl ?_
  refine h_st rfl rfl ?_
  refine h_st rfl (lw_a (k := 2) hL (by omega)) ?_
  refine h_ci3 rfl (Nat.le_of_ble_eq_true rfl) (rcv1 hT hS.1) rfl (c_73t hT hS _ _) (fun σ2 x2 hq => ?_)
  replace hq := hq.symm
  subst hq
  replace hI := hI.up1
  refine h_st rfl rfl ?_
  refine h_st rfl rfl ?_
  refine h_st rfl rfl ?_
  refine h_st rfl rfl ?_
  refine h_st rfl rfl ?_
  refine h_st rfl rfl ?_
  refine h_st rfl (lw_a (k := 1) hL (by omega)) ?_
  refine h_st rfl rfl ?_
  refine h_st rfl rfl ?_
  refine h_st rfl rfl ?_
  refine h_st rfl rfl ?_
  refine h_st rfl (lw_a (k := 2) hL (by omega)) ?_
  refine h_ci3 rfl (Nat.le_of_ble_eq_true rfl) (e_rcv hI.2.2.2.2.1.2.1) rfl (r_139t hI.2.2.2.2.1 _ _) (fun σ3 y3 hq => ?_)
  replace hK := hK.rf hI.2.1 hI.2.2.1 hI.2.2.2.1 hq (fun _ _ _ => rfl)
  replace hI := hI.rf hq hI.2.2.2.2.2.1
  refine h_st rfl rfl ?_
  refine h_st rfl rfl ?_
  exact hc _ _ _ _ _ _ _ _ hI hK
set_option maxRecDepth 8000 in
theorem lw_12 (hL : L ≤ 3584) (ht : 7 * t + 7 ≤ L) (hI : Iv t K F c u g u σ) (hK : LR σ F) {P : ae_S × ae_O → Prop} (hc : ∀ σ K F c u g x5 x6, Iv (t + 1) K F c u g u σ → LR σ F → hG (ra0 L xs) 7 0 σ [some (.retAddr 0), some (.ref 0), some (.ref 176), some (.ref 215), some (.int (nI (7 * t))), x5, x6] [] 762 P) {x5 x6 : Option Value} : hG (ra0 L xs) 7 0 σ [some (.retAddr 0), some (.ref 0), some (.ref 176), some (.ref 215), some (.int (nI (7 * t))), x5, x6] [] 700 P := by
  obtain ⟨f9, ho9⟩ := hI.2.2.2.2.2.2.1
  have hT := hI.2.1
  have hS := hI.2.2.1
  have hKo := hI.2.2.2.1 215 (by decide) (Nat.le_refl _)
  have h0 := hI.1
  refine h_st rfl rfl ?_
  refine h_st rfl rfl ?_
  refine h_st rfl rfl ?_
  refine h_st rfl rfl ?_
  refine h_st rfl rfl ?_
  refine h_st rfl (lw_a (k := 1) hL (by omega)) ?_
  refine h_ci2 rfl (Nat.le_of_ble_eq_true rfl) (rcv1 hT hS.1) rfl (c_74t hT hS _) (fun σ2 x2 hq => ?_)
  replace hq := hq.symm
  subst hq
  replace hI := hI.up1
  refine h_st rfl rfl ?_
  refine h_st rfl rfl ?_
  refine h_st rfl rfl ?_
  refine h_st rfl rfl ?_
  refine h_st rfl rfl ?_
  refine h_st rfl rfl ?_
  refine h_st rfl (lw_a (k := 1) hL (by omega)) ?_
  refine h_ci2 rfl (Nat.le_of_ble_eq_true rfl) (e_rcv hI.2.2.2.2.1.2.1) rfl (r_140t hI.2.2.2.2.1 _) (fun σ3 y3 hq => ?_)
  replace hK := hK.rf hI.2.1 hI.2.2.1 hI.2.2.2.1 hq (fun _ _ _ => rfl)
  replace hI := hI.rf hq hI.2.2.2.2.2.1
  refine h_st rfl rfl ?_
  refine h_st rfl rfl ?_
  exact hc _ _ _ _ _ _ _ _ hI hK
set_option maxRecDepth 8000 in
theorem lw_13 (hL : L ≤ 3584) (ht : 7 * t + 7 ≤ L) (hI : Iv t K F c u g u σ) (hK : LR σ F) {P : ae_S × ae_O → Prop} (hc : ∀ σ K F c u g x5 x6, Iv (t + 1) K F c u g u σ → LR σ F → hG (ra0 L xs) 7 0 σ [some (.retAddr 0), some (.ref 0), some (.ref 176), some (.ref 215), some (.int (nI (7 * t))), x5, x6] [] 762 P) {x5 x6 : Option Value} : hG (ra0 L xs) 7 0 σ [some (.retAddr 0), some (.ref 0), some (.ref 176), some (.ref 215), some (.int (nI (7 * t))), x5, x6] [] 725 P := by
  obtain ⟨f9, ho9⟩ := hI.2.2.2.2.2.2.1
  have hT := hI.2.1
  have hS := hI.2.2.1
  have hKo := hI.2.2.2.1 215 (by decide) (Nat.le_refl _)
  have h0 := hI.1
  refine h_st rfl rfl ?_
  refine h_st rfl rfl ?_
  refine h_st rfl rfl ?_
  refine h_st rfl rfl ?_
  refine h_st rfl rfl ?_
  refine h_st rfl (lw_a (k := 1) hL (by omega)) ?_
  refine h_st rfl rfl ?_
  refine h_st rfl rfl ?_
  refine h_st rfl rfl ?_
  refine h_st rfl rfl ?_
  refine h_st rfl (lw_a (k := 2) hL (by omega)) ?_
  refine h_ci3 rfl (Nat.le_of_ble_eq_true rfl) (rcv1 hT hS.1) rfl (c_75t hT hS _ _) (fun σ2 x2 hq => ?_)
  replace hq := hq.symm
  subst hq
  replace hI := hI.up1
  refine h_st rfl rfl ?_
  refine h_st rfl rfl ?_
  refine h_st rfl rfl ?_
  refine h_st rfl rfl ?_
  refine h_st rfl rfl ?_
  refine h_st rfl rfl ?_
  refine h_st rfl (lw_a (k := 1) hL (by omega)) ?_
  refine h_st rfl rfl ?_
  refine h_st rfl rfl ?_
  refine h_st rfl rfl ?_
  refine h_st rfl rfl ?_
  refine h_st rfl (lw_a (k := 2) hL (by omega)) ?_
  refine h_ci3 rfl (Nat.le_of_ble_eq_true rfl) (e_rcv hI.2.2.2.2.1.2.1) rfl (r_141t hI.2.2.2.2.1 _ _) (fun σ3 y3 hq => ?_)
  replace hK := hK.rf hI.2.1 hI.2.2.1 hI.2.2.2.1 hq (fun _ _ _ => rfl)
  replace hI := hI.rf hq hI.2.2.2.2.2.1
  refine h_st rfl rfl ?_
  refine h_st rfl rfl ?_
  exact hc _ _ _ _ _ _ _ _ hI hK
set_option maxRecDepth 8000 in
theorem lw_l (hL : L ≤ 3584) : ∀ (m t : Nat) (σ : ae_S) (K : Nat → Nat) (F : Nat → Nat → Int32) (c u g : Int32) (x5 x6 : Option Value), t + m = 512 → Iv t K F c u g u σ → LR σ F → hG (ra0 L xs) 7 0 σ [some (.retAddr 0), some (.ref 0), some (.ref 176), some (.ref 215), some (.int (nI (7 * t))), x5, x6] [] 23 lwP := by
  have hex : ∀ (t : Nat) (σ : ae_S) (K : Nat → Nat) (F : Nat → Nat → Int32) (c u g : Int32) (x5 x6 : Option Value), t ≤ 512 → Iv t K F c u g u σ → L < 7 * t + 7 → hG (ra0 L xs) 7 0 σ [some (.retAddr 0), some (.ref 0), some (.ref 176), some (.ref 215), some (.int (nI (7 * t))), x5, x6] [] 23 lwP := by
    intro t σ K F c u g x5 x6 htT hI hlt
    have w1 := hI.2.2.2.2.2.2.2.1
    have w2 := hI.2.2.2.2.2.2.2.2
    have v1 : σ.1.1 ≤ Wt1 σ := Nat.le_add_right _ _
    have v2 : σ.1.2 ≤ Wt2 σ := Nat.le_add_right _ _
    have hq : (Int32.ofNat L - 7 : Int32) < nI (7 * t) := by
      show nI L - nI 7 < nI (7 * t)
      by_cases h7 : L < 7
      · exact Int32.lt_of_lt_of_le (pk_sneg (by decide) (by omega)) (nI_le (a := 0) (Nat.zero_le _) (by omega))
      · rw [pk_sub (by omega)]
        exact (nI_ltI (by omega) (by omega)).mpr (by omega)
    refine h_st rfl rfl ?_
    refine h_st rfl rfl ?_
    refine h_st rfl (e_lenR (by decide)) ?_
    refine h_st rfl rfl ?_
    refine h_st rfl rfl ?_
    refine h_st rfl rfl ?_
    refine h_pc (if_pos (decide_eq_true (hq))) ?_
    refine h_st rfl rfl ?_
    exact h_rt rfl rfl (⟨_, _, rfl, rfl, by omega, by omega⟩)
  intro m
  induction m with
  | zero =>
    intro t σ K F c u g x5 x6 htT hI hK
    exact hex t σ K F c u g x5 x6 (by omega) hI (by omega)
  | succ m ih =>
    intro t σ K F c u g x5 x6 htT hI hK
    by_cases hlt : L < 7 * t + 7
    · exact hex t σ K F c u g x5 x6 (by omega) hI hlt
    have ht : 7 * t + 7 ≤ L := by omega
    have hc : ∀ σ K F c u g x5 x6, Iv (t + 1) K F c u g u σ → LR σ F → hG (ra0 L xs) 7 0 σ [some (.retAddr 0), some (.ref 0), some (.ref 176), some (.ref 215), some (.int (nI (7 * t))), x5, x6] [] 762 lwP := by
      intro σ K F c u g x5 x6 hI hK
      have ih1 := ih (t + 1) σ K F c u g x5 x6 (by omega) hI hK
      have e7 : nI (7 * (t + 1)) = nI (7 * t) + 7 := by
        show nI (7 * (t + 1)) = nI (7 * t) + nI 7
        rw [nI_add, Nat.mul_succ]
      rw [e7] at ih1
      refine h_st rfl rfl ?_
      refine h_st rfl rfl ?_
      exact ih1
    have hq : ¬ (Int32.ofNat L - 7 : Int32) < nI (7 * t) := by
      show ¬ nI L - nI 7 < nI (7 * t)
      rw [pk_sub (by omega)]
      exact Int32.not_lt.mpr (nI_le (by omega) (by omega))
    obtain ⟨j, hj, e⟩ := pk_andE (xs (7 * t)) (m := 15) 4 (by decide)
    refine h_st rfl rfl ?_
    refine h_st rfl rfl ?_
    refine h_st rfl (e_lenR (by decide)) ?_
    refine h_st rfl rfl ?_
    refine h_st rfl rfl ?_
    refine h_st rfl rfl ?_
    refine h_pc (if_neg (fun z9 => (hq) (of_decide_eq_true z9))) ?_
    refine h_st rfl rfl ?_
    refine h_st rfl rfl ?_
    refine h_st rfl (lw_b hL (by omega)) ?_
    refine h_st rfl rfl ?_
    refine h_st rfl rfl ?_
    refine h_st rfl rfl ?_
    have hj : j = 0 ∨ j = 1 ∨ j = 2 ∨ j = 3 ∨ j = 4 ∨ j = 5 ∨ j = 6 ∨ j = 7 ∨ j = 8 ∨ j = 9 ∨ j = 10 ∨ j = 11 ∨ j = 12 ∨ j = 13 ∨ j = 14 ∨ j = 15 := by omega
    rcases hj with rfl | rfl | rfl | rfl | rfl | rfl | rfl | rfl | rfl | rfl | rfl | rfl | rfl | rfl | rfl | rfl
    · refine h_pc (?_ : _ = 112) ?_
      · show (if (xs (7 * t) &&& 15).toInt < (0 : Int) ∨ (13 : Int) < (xs (7 * t) &&& 15).toInt then 762 else ([112, 199, 279, 304, 344, 369, 406, 467, 540, 589, 638, 663, 700, 725] : List Nat).getD ((xs (7 * t) &&& 15).toInt - 0).toNat 0) = 112
        rw [e]
        decide
      · exact lw_0 hL ht hI hK hc
    · refine h_pc (?_ : _ = 199) ?_
      · show (if (xs (7 * t) &&& 15).toInt < (0 : Int) ∨ (13 : Int) < (xs (7 * t) &&& 15).toInt then 762 else ([112, 199, 279, 304, 344, 369, 406, 467, 540, 589, 638, 663, 700, 725] : List Nat).getD ((xs (7 * t) &&& 15).toInt - 0).toNat 0) = 199
        rw [e]
        decide
      · exact lw_1 hL ht hI hK hc
    · refine h_pc (?_ : _ = 279) ?_
      · show (if (xs (7 * t) &&& 15).toInt < (0 : Int) ∨ (13 : Int) < (xs (7 * t) &&& 15).toInt then 762 else ([112, 199, 279, 304, 344, 369, 406, 467, 540, 589, 638, 663, 700, 725] : List Nat).getD ((xs (7 * t) &&& 15).toInt - 0).toNat 0) = 279
        rw [e]
        decide
      · exact lw_2 hL ht hI hK hc
    · refine h_pc (?_ : _ = 304) ?_
      · show (if (xs (7 * t) &&& 15).toInt < (0 : Int) ∨ (13 : Int) < (xs (7 * t) &&& 15).toInt then 762 else ([112, 199, 279, 304, 344, 369, 406, 467, 540, 589, 638, 663, 700, 725] : List Nat).getD ((xs (7 * t) &&& 15).toInt - 0).toNat 0) = 304
        rw [e]
        decide
      · exact lw_3 hL ht hI hK hc
    · refine h_pc (?_ : _ = 344) ?_
      · show (if (xs (7 * t) &&& 15).toInt < (0 : Int) ∨ (13 : Int) < (xs (7 * t) &&& 15).toInt then 762 else ([112, 199, 279, 304, 344, 369, 406, 467, 540, 589, 638, 663, 700, 725] : List Nat).getD ((xs (7 * t) &&& 15).toInt - 0).toNat 0) = 344
        rw [e]
        decide
      · exact lw_4 hL ht hI hK hc
    · refine h_pc (?_ : _ = 369) ?_
      · show (if (xs (7 * t) &&& 15).toInt < (0 : Int) ∨ (13 : Int) < (xs (7 * t) &&& 15).toInt then 762 else ([112, 199, 279, 304, 344, 369, 406, 467, 540, 589, 638, 663, 700, 725] : List Nat).getD ((xs (7 * t) &&& 15).toInt - 0).toNat 0) = 369
        rw [e]
        decide
      · exact lw_5 hL ht hI hK hc
    · refine h_pc (?_ : _ = 406) ?_
      · show (if (xs (7 * t) &&& 15).toInt < (0 : Int) ∨ (13 : Int) < (xs (7 * t) &&& 15).toInt then 762 else ([112, 199, 279, 304, 344, 369, 406, 467, 540, 589, 638, 663, 700, 725] : List Nat).getD ((xs (7 * t) &&& 15).toInt - 0).toNat 0) = 406
        rw [e]
        decide
      · exact lw_6 hL ht hI hK hc
    · refine h_pc (?_ : _ = 467) ?_
      · show (if (xs (7 * t) &&& 15).toInt < (0 : Int) ∨ (13 : Int) < (xs (7 * t) &&& 15).toInt then 762 else ([112, 199, 279, 304, 344, 369, 406, 467, 540, 589, 638, 663, 700, 725] : List Nat).getD ((xs (7 * t) &&& 15).toInt - 0).toNat 0) = 467
        rw [e]
        decide
      · exact lw_7 hL ht hI hK hc
    · refine h_pc (?_ : _ = 540) ?_
      · show (if (xs (7 * t) &&& 15).toInt < (0 : Int) ∨ (13 : Int) < (xs (7 * t) &&& 15).toInt then 762 else ([112, 199, 279, 304, 344, 369, 406, 467, 540, 589, 638, 663, 700, 725] : List Nat).getD ((xs (7 * t) &&& 15).toInt - 0).toNat 0) = 540
        rw [e]
        decide
      · exact lw_8 hL ht hI hK hc
    · refine h_pc (?_ : _ = 589) ?_
      · show (if (xs (7 * t) &&& 15).toInt < (0 : Int) ∨ (13 : Int) < (xs (7 * t) &&& 15).toInt then 762 else ([112, 199, 279, 304, 344, 369, 406, 467, 540, 589, 638, 663, 700, 725] : List Nat).getD ((xs (7 * t) &&& 15).toInt - 0).toNat 0) = 589
        rw [e]
        decide
      · exact lw_9 hL ht hI hK hc
    · refine h_pc (?_ : _ = 638) ?_
      · show (if (xs (7 * t) &&& 15).toInt < (0 : Int) ∨ (13 : Int) < (xs (7 * t) &&& 15).toInt then 762 else ([112, 199, 279, 304, 344, 369, 406, 467, 540, 589, 638, 663, 700, 725] : List Nat).getD ((xs (7 * t) &&& 15).toInt - 0).toNat 0) = 638
        rw [e]
        decide
      · exact lw_10 hL ht hI hK hc
    · refine h_pc (?_ : _ = 663) ?_
      · show (if (xs (7 * t) &&& 15).toInt < (0 : Int) ∨ (13 : Int) < (xs (7 * t) &&& 15).toInt then 762 else ([112, 199, 279, 304, 344, 369, 406, 467, 540, 589, 638, 663, 700, 725] : List Nat).getD ((xs (7 * t) &&& 15).toInt - 0).toNat 0) = 663
        rw [e]
        decide
      · exact lw_11 hL ht hI hK hc
    · refine h_pc (?_ : _ = 700) ?_
      · show (if (xs (7 * t) &&& 15).toInt < (0 : Int) ∨ (13 : Int) < (xs (7 * t) &&& 15).toInt then 762 else ([112, 199, 279, 304, 344, 369, 406, 467, 540, 589, 638, 663, 700, 725] : List Nat).getD ((xs (7 * t) &&& 15).toInt - 0).toNat 0) = 700
        rw [e]
        decide
      · exact lw_12 hL ht hI hK hc
    · refine h_pc (?_ : _ = 725) ?_
      · show (if (xs (7 * t) &&& 15).toInt < (0 : Int) ∨ (13 : Int) < (xs (7 * t) &&& 15).toInt then 762 else ([112, 199, 279, 304, 344, 369, 406, 467, 540, 589, 638, 663, 700, 725] : List Nat).getD ((xs (7 * t) &&& 15).toInt - 0).toNat 0) = 725
        rw [e]
        decide
      · exact lw_13 hL ht hI hK hc
    · refine h_pc (?_ : _ = 762) ?_
      · show (if (xs (7 * t) &&& 15).toInt < (0 : Int) ∨ (13 : Int) < (xs (7 * t) &&& 15).toInt then 762 else ([112, 199, 279, 304, 344, 369, 406, 467, 540, 589, 638, 663, 700, 725] : List Nat).getD ((xs (7 * t) &&& 15).toInt - 0).toNat 0) = 762
        rw [e]
        decide
      · exact hc _ _ _ _ _ _ _ _ hI.up1 hK
    · refine h_pc (?_ : _ = 762) ?_
      · show (if (xs (7 * t) &&& 15).toInt < (0 : Int) ∨ (13 : Int) < (xs (7 * t) &&& 15).toInt then 762 else ([112, 199, 279, 304, 344, 369, 406, 467, 540, 589, 638, 663, 700, 725] : List Nat).getD ((xs (7 * t) &&& 15).toInt - 0).toNat 0) = 762
        rw [e]
        decide
      · exact hc _ _ _ _ _ _ _ _ hI.up1 hK
theorem app_at {l : List ae_C} {x : ae_C} (h : l.length = 215) : (l ++ [x])[215]? = some x := by
  rw [List.getElem?_append_right (by omega), h]
  rfl
theorem fz3_0 : fz3.2[0]? = some (nt 0) := by
  obtain ⟨f1, f2, f3, f5, hc, hlen, h0, _⟩ := fr_cls fz3_ok
  exact h0
theorem lk0 : LR fz3 (cf fz3) := by
  obtain ⟨f1, f2, f3, f5, hc, hlen, h0, hk1, hf1, _⟩ := fr_cls fz3_ok
  exact ⟨f1, fun _ => 0, fun _ => 0, fun _ => 0, fun _ => 0, fun _ => 0, fun _ => 0, fun _ => 0, fun _ => 0, fun _ => 0, fun _ => (0, 0), hk1, (fun i q hi hq => by rw [hf1 i hi] at hq; cases hq), fun i hi => ⟨fun z => absurd (cz m177 i hi) z, fun _ => ⟨cz m189 i hi, cz m185 i hi⟩⟩, fun l hl => Or.inl ⟨hf1 l hl, cz m177 l hl⟩⟩
theorem iv0 : Iv 0 kz (cf fz3) 0 0 0 0 fz3 := by
  refine ⟨fz3_0, ty0, s00, fun p h _ => kz_0 h, rs0, rp0, ⟨fun _ => 0, ?_⟩, fz3_w.1, fz3_w.2⟩
  unfold fz3
  exact app_at fz2_ok.2
theorem lw_c1 (ra : ae_R) : hE ra 7 1 [.ref 0] ((1, 6), [.inr (7, cd_Net)]) (pV (fun σ' => σ' = fz1)) := ⟨_, gE_of (mo_ev atc_ok ra 7 1000 1 [.ref 0] _ _ (fz_eq fz1_ok)), fz1, rfl, rfl⟩
theorem lw_c2 (ra : ae_R) : hE ra 7 95 [.ref 176] ((fz1.1.1 + 1, fz1.1.2 + 41), fz1.2 ++ [.inr (8, cd_Model)]) (pV (fun σ' => σ' = fz2)) := ⟨_, gE_of (mo_ev atc_ok ra 7 3000 95 [.ref 176] _ _ (fz_eq fz2_ok.1)), fz2, rfl, rfl⟩
theorem lw_go {L : Nat} (hL : L ≤ 3584) : hG (ra0 L xs) 7 0 ((0, 0), []) (ae_ent [.retAddr 0] 7) [] 0 lwP := by
  refine h_st rfl rfl ?_
  refine h_st rfl rfl ?_
  refine h_cv1 (a0 := .ref 0) rfl (Nat.le_of_ble_eq_true rfl) rfl rfl (lw_c1 _) (fun σ1 e1 => ?_)
  have n1 : σ1.2.length = 176 := by rw [e1]; exact fz1_len
  have k2 : hE (ra0 L xs) 7 95 [.ref 176] ((σ1.1.1 + 1, σ1.1.2 + 41), σ1.2 ++ [.inr (8, cd_Model)]) (pV (fun σ' => σ' = fz2)) := by rw [e1]; exact lw_c2 _
  clear e1
  refine h_st rfl rfl ?_
  refine h_st rfl rfl ?_
  rw [n1]
  refine h_st rfl rfl ?_
  refine h_cv1 (a0 := .ref 176) rfl (Nat.le_of_ble_eq_true rfl) (e_rcv (fs := cd_Model) (by rw [← n1]; simp)) rfl k2 (fun σ2 e2 => ?_)
  have n2 : σ2.2.length = 215 := by rw [e2]; exact fz2_ok.2
  have hF : Iv 0 kz (cf fz3) 0 0 0 0 ((σ2.1.1 + 1, σ2.1.2 + (1 : Int32).toNatClampNeg), σ2.2 ++ [.inl (3, ae_zero 3 (1 : Int32).toNatClampNeg)]) := by
    rw [e2, show (1 : Int32).toNatClampNeg = 1 from by decide]
    exact iv0
  have hF2 : LR ((σ2.1.1 + 1, σ2.1.2 + (1 : Int32).toNatClampNeg), σ2.2 ++ [.inl (3, ae_zero 3 (1 : Int32).toNatClampNeg)]) (cf fz3) := by
    rw [e2, show (1 : Int32).toNatClampNeg = 1 from by decide]
    exact lk0
  clear e2
  refine h_st rfl rfl ?_
  refine h_st rfl rfl ?_
  refine h_st rfl (e_na (by decide)) ?_
  rw [n2]
  refine h_st rfl rfl ?_
  refine h_st rfl rfl ?_
  refine h_st rfl rfl ?_
  exact lw_l hL 512 0 _ _ _ _ _ _ _ _ rfl hF hF2
theorem pure_ok {L : Nat} {xs : Nat → Int32} (hL : L ≤ 3584) : pure_run L xs := by
  obtain ⟨r, ⟨N, hN⟩, σF, x, rfl, rfl, b1, b2⟩ := lw_go (xs := xs) hL
  exact ⟨N, σF, hN N N (Nat.le_refl _) (Nat.le_refl _), b1, b2⟩
end LAW
