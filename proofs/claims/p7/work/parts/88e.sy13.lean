section SY13
variable {ra : ae_R} {d : Nat} {σ : ae_S}
section S13
variable {F F' Fz : Nat → Nat → Int32} {l e k i p : Nat} {P : AP} {x : AF} {z : Int32}
def Rbg (F : Nat → Nat → Int32) (k : Nat) (o : Option (Int32 × AF)) : Prop := (o = none ∧ F 206 k = -1) ∨ ∃ nu x, o = some (nu, x) ∧ F 206 k = nu ∧ rg nu 65536 ∧ F 207 k = nI x.1 ∧ x.1 ≤ 1000 ∧ (∀ j, j < x.1 → F 208 (1000 * k + j) = x.2 j) ∧ ∀ j, j < x.1 → rg (x.2 j) 256
/-- a port of the reference -/
def Rpt (F : Nat → Nat → Int32) (l e : Nat) (P : AP) : Prop := ((F 179 l = 0 ↔ pqu P = 0) ∧ F 184 l = psk P) ∧ (F 203 (8 * e + l) = pla P 0 ∧ F 203 (32 + (8 * e + l)) = pla P 1 ∧ (pla P 0 = -1 ∨ rg (pla P 0) 256) ∧ (pla P 1 = -1 ∨ rg (pla P 1) 256)) ∧ (F 204 (8 * e + l) = pts P ∧ F 205 (8 * e + l) = pta P ∧ (pts P = -1 ∨ rg (pts P) 256)) ∧ Rbg F (8 * e + l) (pbg P) ∧ (F 209 (8 * e + l) = nI (pks P).length ∧ (pks P).length ≤ 4 ∧ ∀ j s, (pks P)[j]? = some s → (8 ≤ s ∧ s ≤ 1000) ∧ F 210 (4 * (8 * e + l) + j) = nI (s - 8)) ∧ F 212 (8 * e + l) = pca P
/-- the cells of port k -/
def own (q k i : Nat) : Prop := (q = 208 ∧ 1000 * k ≤ i ∧ i < 1000 * k + 1000) ∨ (q = 210 ∧ 4 * k ≤ i ∧ i < 4 * k + 4) ∨ (q = 203 ∧ (i = k ∨ i = 32 + k)) ∨ (q ≠ 208 ∧ q ≠ 210 ∧ q ≠ 203 ∧ i = k)
def PO (F F' : Nat → Nat → Int32) (k : Nat) : Prop := (∀ q, q < 203 ∨ 212 < q → F' q = F q) ∧ ∀ q i, q ≠ 211 → ¬ own q k i → F' q i = F q i
theorem PO.refl : PO F F k := ⟨fun _ _ => rfl, fun _ _ _ _ => rfl⟩
theorem PO.u (h : PO Fz F k) (h1 : 203 ≤ p ∧ p ≤ 212) (hi : own p k i) : PO Fz (fu F p (upd (F p) i z)) k := by
  refine ⟨fun q hq => (fu_n (by omega)).trans (h.1 q hq), fun q j hq hj => ?_⟩
  by_cases c : q = p
  · subst c
    rw [fu_s, pk_un (fun z => hj (by rw [z]; exact hi))]
    exact h.2 q j hq hj
  · rw [fu_n c]
    exact h.2 q j hq hj
theorem PO.m {fb : Nat → Int32} (h : PO Fz F k) : PO Fz (fu F 211 fb) k := ⟨fun q hq => (fu_n (by omega)).trans (h.1 q hq), fun q j hq hj => by
  rw [fu_n hq]
  exact h.2 q j hq hj⟩
theorem own_k (h : p ≠ 208 ∧ p ≠ 210 ∧ p ≠ 203) : own p k k := Or.inr (Or.inr (Or.inr ⟨h.1, h.2.1, h.2.2, rfl⟩))
theorem Rbg.cg {o : Option (Int32 × AF)} (h : Rbg F k o) (e6 : F' 206 k = F 206 k) (e7 : F' 207 k = F 207 k) (e8 : ∀ j, j < 1000 → F' 208 (1000 * k + j) = F 208 (1000 * k + j)) : Rbg F' k o := by
  rcases h with ⟨h1, h2⟩ | ⟨nu, x, h1, h2, h3, h4, h5, h6, h7⟩
  · exact Or.inl ⟨h1, e6.trans h2⟩
  · exact Or.inr ⟨nu, x, h1, e6.trans h2, h3, e7.trans h4, h5, fun j hj => (e8 j (by omega)).trans (h6 j hj), h7⟩
/-- another port stays -/
theorem Rpt.po (h : Rpt F l e P) (hk : 8 * e + l ≠ k) (hb : 8 * e + l < 32 ∧ k < 32) (o : PO F F' k) : Rpt F' l e P := by
  obtain ⟨⟨a1, a2⟩, ⟨b1, b2, b3, b4⟩, ⟨c1, c2, c3⟩, h4, ⟨d1, d2, d3⟩, h6⟩ := h
  have n : ∀ q, q ≠ 211 → q ≠ 208 → q ≠ 210 → q ≠ 203 → F' q (8 * e + l) = F q (8 * e + l) := fun q z1 z2 z3 z4 => o.2 q _ z1 (by unfold own; omega)
  refine ⟨⟨by rw [o.1 179 (by decide)]; exact a1, by rw [o.1 184 (by decide)]; exact a2⟩, ⟨(o.2 203 _ (by decide) (by unfold own; omega)).trans b1, (o.2 203 _ (by decide) (by unfold own; omega)).trans b2, b3, b4⟩, ⟨(n 204 (by decide) (by decide) (by decide) (by decide)).trans c1, (n 205 (by decide) (by decide) (by decide) (by decide)).trans c2, c3⟩, h4.cg (n 206 (by decide) (by decide) (by decide) (by decide)) (n 207 (by decide) (by decide) (by decide) (by decide)) (fun j hj => o.2 208 _ (by decide) (by unfold own; omega)), ⟨(n 209 (by decide) (by decide) (by decide) (by decide)).trans d1, d2, fun j s hj => ?_⟩, (n 212 (by decide) (by decide) (by decide) (by decide)).trans h6⟩
  have hlt := (List.getElem?_eq_some_iff.mp hj).1
  exact ⟨(d3 j s hj).1, (o.2 210 _ (by decide) (by unfold own; omega)).trans (d3 j s hj).2⟩
theorem Rpt.bg {o : Option (Int32 × AF)} (h : Rpt F l e P) (ag : ∀ q, q ≠ 206 → q ≠ 207 → q ≠ 208 → F' q = F q) (hb : Rbg F' (8 * e + l) o) : Rpt F' l e (wbg P o) := by
  obtain ⟨h1, h2, h3, h4, h5, h6⟩ := h
  unfold Rpt
  rw [ag 179 (by decide) (by decide) (by decide), ag 184 (by decide) (by decide) (by decide), ag 203 (by decide) (by decide) (by decide), ag 204 (by decide) (by decide) (by decide), ag 205 (by decide) (by decide) (by decide), ag 209 (by decide) (by decide) (by decide), ag 210 (by decide) (by decide) (by decide), ag 212 (by decide) (by decide) (by decide)]
  exact ⟨h1, h2, h3, hb, h5, h6⟩
def clr (P : AP) : AP := (P.1, P.2.1, P.2.2.1, P.2.2.2.1, [], pca P)
def apk (P : AP) (s : Nat) (tm : Int32) : AP := (P.1, P.2.1, P.2.2.1, P.2.2.2.1, pks P ++ [s], tm)
def jn2 (P : AP) (g : Nat → Int32) (m : Nat) (tm : Int32) : AP := match pbg P with
  | none => wbg P none
  | some (nu, y) => if (pa g 18 = nu ∧ g 21 * 8 = nI y.1) ∧ y.1 + m ≤ 1000 then jn1 P g m tm y else wbg P none
theorem jn_a {g : Nat → Int32} {m : Nat} {tm : Int32} (h : ¬ g 21 * 8 = 0) : jn P g m tm = jn2 P g m tm := by
  unfold jn jn2 bgx
  rw [if_neg h]
  cases hb : pbg P with
  | none => rfl
  | some o =>
    obtain ⟨nu, y⟩ := o
    show (match (if pa g 18 = nu ∧ g 21 * 8 = nI y.1 then some y else none) with | none => wbg P none | some x => if x.1 + m ≤ 1000 then jn1 P g m tm x else wbg P none) = _
    by_cases c : pa g 18 = nu ∧ g 21 * 8 = nI y.1
    · rw [if_pos c]
      by_cases c2 : y.1 + m ≤ 1000
      · show (if y.1 + m ≤ 1000 then jn1 P g m tm y else wbg P none) = (if (pa g 18 = nu ∧ g 21 * 8 = nI y.1) ∧ y.1 + m ≤ 1000 then jn1 P g m tm y else wbg P none)
        rw [if_pos c2, if_pos ⟨c, c2⟩]
      · show (if y.1 + m ≤ 1000 then jn1 P g m tm y else wbg P none) = (if (pa g 18 = nu ∧ g 21 * 8 = nI y.1) ∧ y.1 + m ≤ 1000 then jn1 P g m tm y else wbg P none)
        rw [if_neg c2, if_neg (fun z => c2 z.2)]
    · rw [if_neg c]
      show wbg P none = (if (pa g 18 = nu ∧ g 21 * 8 = nI y.1) ∧ y.1 + m ≤ 1000 then jn1 P g m tm y else wbg P none)
      rw [if_neg (fun z => c z.1)]
theorem jn_b {g : Nat → Int32} {m : Nat} {tm : Int32} (h : g 21 * 8 = 0) (hm : m ≤ 1000) : jn P g m tm = jn2 (wbg P (some (pa g 18, (0, fun _ => 0)))) g m tm := by
  have e1 : jn2 (wbg P (some (pa g 18, (0, fun _ => 0)))) g m tm = (if (pa g 18 = pa g 18 ∧ g 21 * 8 = nI 0) ∧ 0 + m ≤ 1000 then jn1 (wbg P (some (pa g 18, (0, fun _ => 0)))) g m tm (0, fun _ => 0) else wbg P none) := rfl
  rw [e1, if_pos ⟨⟨rfl, h⟩, by omega⟩]
  unfold jn bgx
  rw [if_pos h]
  show (if 0 + m ≤ 1000 then jn1 P g m tm (0, fun _ => 0) else wbg P none) = _
  rw [if_pos (by omega)]
  rfl
theorem mo_b : ∀ b : Nat, b < 256 → (nI b / 32 - nI b / 32 / 2 * 2 = 1 ↔ ¬ nI b &&& 32 = 0) := by decide +kernel
theorem two_sh {a b : Int32} (ha : rg a 256) (hb : rg b 256) : 256 * a + b = a <<< ((8 : Int32) &&& 31) ||| b := by
  obtain ⟨m, hm, rfl⟩ := ha
  obtain ⟨n, hn, rfl⟩ := hb
  have h := pa_nI (g := fun j => if j = 0 then nI m else nI n) (k := 0) (a := m) (b := n) rfl rfl hm hn
  exact h.2.trans h.1.symm
end S13
theorem r_108v {b : Bool} {σ0 : ae_S} {F0 F : Nat → Nat → Int32} {c u g : Int32} (h : RS b σ0 F0 σ c u g F) {f k : Nat} {x y v : Int32} (ef : x = nI f) (hf : f < 400) (ek : y = nI k) (hk : k < 200) (ev : F 194 (200 * f + k) = v) : hE ra (d + 1) 108 [.ref 176, .int x, .int y] σ (pI (fun σ' x => σ' = σ ∧ x = v)) := by
  rw [← ev]
  exact r_108 h ef hf ek hk
theorem r_107v {b : Bool} {σ0 : ae_S} {F0 F : Nat → Nat → Int32} {c u g : Int32} (h : RS b σ0 F0 σ c u g F) {f k : Nat} {x y : Int32} {q : Nat → Int32} (ef : x = nI f) (hf : f < 400) (ek : y = nI k) (hk : k + 1 < 200) (e1 : F 194 (200 * f + k) = q k) (e2 : F 194 (200 * f + (k + 1)) = q (k + 1)) (r1 : rg (q k) 256) (r2 : rg (q (k + 1)) 256) : hE ra (d + 2) 107 [.ref 176, .int x, .int y] σ (pI (fun σ' x => σ' = σ ∧ x = pa q k)) := by
  have h1 := r_107 (ra := ra) (d := d) h ef hf ek hk
  rw [e1, e2, two_sh r1 r2] at h1
  exact h1
theorem r_123mw {b : Bool} {σ0 : ae_S} {F0 F : Nat → Nat → Int32} {c u g : Int32} {f k n pl sv mm : Nat} {x5 : Option Value} (hk : k < 32) (hs : 8 ≤ sv ∧ sv ≤ 1000) (hmm : mm < 4) {P : ae_S × ae_O → Prop} (hx : ∀ σ fb, RS b σ0 F0 σ c u g (fu F 211 fb) → hG ra (d + 2) 123 σ [some (.ref 176), some (.int (nI f)), some (.int (nI k)), some (.int (nI n)), some (.int (nI pl)), x5, some (.int (nI sv)), some (.int (nI (4 * k + mm))), some (.int (nI sv))] [] 338 P) : ∀ (m i : Nat) (σ : ae_S) (fb : Nat → Int32), i + m = sv → 8 ≤ i → RS b σ0 F0 σ c u g (fu F 211 fb) → hG ra (d + 2) 123 σ [some (.ref 176), some (.int (nI f)), some (.int (nI k)), some (.int (nI n)), some (.int (nI pl)), x5, some (.int (nI sv)), some (.int (nI (4 * k + mm))), some (.int (nI i))] [] 295 P := by
  intro m
  induction m with
  | zero =>
    intro i σ fb hi h8 h
    have hi : i = sv := by omega
    subst hi
    refine h_st rfl rfl ?_
    refine h_st rfl rfl ?_
    refine h_st rfl rfl ?_
    refine h_pc (if_pos (decide_eq_true (nI_le (Nat.le_refl _) (by omega)))) ?_
    exact hx _ _ h
  | succ m ih =>
    intro i σ fb hi h8 h
    have ih1 := fun σ fb => ih (i + 1) σ fb (by omega) (by omega)
    simp only [← nI_1] at ih1
    have e1 : (1000 : Int32) * nI (4 * k + mm) + nI i - 8 = nI (1000 * (4 * k + mm) + i - 8) := by rw [show (1000 : Int32) = nI 1000 from rfl, pk_mul, nI_add, show (8 : Int32) = nI 8 from rfl, pk_sub (by omega)]
    have e2 : (1000 : Int32) * nI k + nI i = nI (1000 * k + i) := by rw [show (1000 : Int32) = nI 1000 from rfl, pk_mul, nI_add]
    refine h_st rfl rfl ?_
    refine h_st rfl rfl ?_
    refine h_st rfl rfl ?_
    refine h_pc (if_neg (fun z9 => (nI_ge (show i < sv by omega) (by omega)) (of_decide_eq_true z9))) ?_
    refine h_st rfl rfl ?_
    refine h_st rfl (e_get h.2.1 rfl) ?_
    refine h_st rfl rfl ?_
    refine h_st rfl rfl ?_
    refine h_st rfl rfl ?_
    refine h_st rfl rfl ?_
    refine h_st rfl rfl ?_
    refine h_st rfl rfl ?_
    refine h_st rfl rfl ?_
    refine h_st rfl rfl ?_
    refine h_st rfl (e_get h.2.1 rfl) ?_
    refine h_st rfl rfl ?_
    refine h_st rfl rfl ?_
    refine h_st rfl rfl ?_
    refine h_st rfl rfl ?_
    refine h_st rfl rfl ?_
    refine h_st rfl (q_ia h.a208 (e2) (by omega) (by decide)) ?_
    refine r_ias rfl h m211 (fun _ => by decide) (by decide) (e1) (by omega) (rfl) (fun σ2 h2 => ?_)
    replace h := h2
    clear h2
    rw [fu_fu] at h
    refine h_st rfl rfl ?_
    refine h_st rfl rfl ?_
    exact ih1 _ _ h
theorem r_123gw {b : Bool} {σ0 : ae_S} {F0 F Fz : Nat → Nat → Int32} {c u g : Int32} {P : AP} {f k l e n pl : Nat} (h : RS b σ0 F0 σ c u g F) (ek : 8 * e + l = k) (hl : l < 8) (he : e < 4) (hR : Rpt F l e P) (hO : PO Fz F k) {sv : Nat} {x5 x7 x8 : Option Value} (hs : 8 ≤ sv ∧ sv ≤ 1000) : hG ra (d + 2) 123 σ [some (.ref 176), some (.int (nI f)), some (.int (nI k)), some (.int (nI n)), some (.int (nI pl)), x5, some (.int (nI sv)), x7, x8] [] 254 (pI (fun σ' _ => ∃ F', RS b σ0 F0 σ' c u g F' ∧ Rpt F' l e (if (pks P).length = 4 then P else apk P sv u) ∧ PO Fz F' k)) := by
  have hk : k < 32 := by omega
  have hR' := hR
  obtain ⟨h1, h2, h3, h4, ⟨d1, d2, d3⟩, h6⟩ := hR'
  rw [ek] at h2 h3 h4 d1 d3 h6
  have e4 : (4 : Int32) * nI k + nI (pks P).length = nI (4 * k + (pks P).length) := by rw [show (4 : Int32) = nI 4 from rfl, pk_mul, nI_add]
  have e8 : nI sv - 8 = nI (sv - 8) := by rw [show (8 : Int32) = nI 8 from rfl, pk_sub (by omega)]
  refine h_st rfl rfl ?_
  refine h_st rfl (e_get h.2.1 rfl) ?_
  refine h_st rfl rfl ?_
  refine h_st rfl (q_iaE h.a209 (rfl) (hk) (by decide) (d1)) ?_
  refine h_st rfl rfl ?_
  refine h_st rfl rfl ?_
  refine h_br (fun q => ?_) (fun q => ?_)
  · have hne : ¬ (pks P).length = 4 := fun z => q (by rw [z]; rfl)
    rw [if_neg hne]
    refine h_st rfl rfl ?_
    refine h_st rfl rfl ?_
    refine h_st rfl rfl ?_
    refine h_st rfl rfl ?_
    refine h_st rfl (e_get h.2.1 rfl) ?_
    refine h_st rfl rfl ?_
    refine h_st rfl (q_iaE h.a209 (rfl) (hk) (by decide) (d1)) ?_
    refine h_st rfl rfl ?_
    refine h_st rfl rfl ?_
    refine h_st rfl rfl ?_
    refine h_st rfl (e_get h.2.1 rfl) ?_
    refine h_st rfl rfl ?_
    refine h_st rfl rfl ?_
    refine h_st rfl rfl ?_
    refine h_st rfl rfl ?_
    refine r_ias rfl h m210 (fun _ => by decide) (by decide) (e4) (by omega) (e8) (fun σ2 h2 => ?_)
    replace h := h2
    clear h2
    rw [← fu_self (fu F 210 (upd (F 210) (4 * k + (pks P).length) (nI (sv - 8)))) 211] at h
    refine h_st rfl rfl ?_
    refine h_st rfl rfl ?_
    simp only [e4]
    refine r_123mw (sv := sv) hk hs (show (pks P).length < 4 by omega) (fun σ9 fb h => ?_) (sv - 8) 8 _ _ (by omega) (by omega) h
    refine h_st rfl rfl ?_
    refine h_st rfl (e_get h.2.1 rfl) ?_
    refine h_st rfl rfl ?_
    refine h_st rfl rfl ?_
    refine h_st rfl (q_ia h.a209 (rfl) (hk) (by decide)) ?_
    refine h_st rfl rfl ?_
    refine h_st rfl rfl ?_
    refine r_ias rfl h m209 (fun _ => by decide) (by decide) (rfl) (hk) (show F 209 k + 1 = nI ((pks P).length + 1) from by rw [d1]; exact nI_1 _) (fun σ2 h2 => ?_)
    replace h := h2
    clear h2
    refine h_st rfl rfl ?_
    refine h_st rfl (e_get h.2.1 rfl) ?_
    refine h_st rfl rfl ?_
    refine h_st rfl rfl ?_
    refine h_st rfl (e_get h.2.1 rfl) ?_
    refine r_ias rfl h m212 (fun _ => by decide) (by decide) (rfl) (hk) (rfl) (fun σ2 h2 => ?_)
    replace h := h2
    clear h2
    refine h_st rfl rfl ?_
    refine h_rt rfl rfl (⟨_, _, rfl, _, h, ?_, ((((hO.u (p := 210) (i := 4 * k + (pks P).length) (by decide) (by unfold own; omega)).m).u (p := 209) (by decide) (own_k (by decide))).u (p := 212) (by decide) (own_k (by decide)))⟩)
    have hl' : (pks (apk P sv u)).length = (pks P).length + 1 := by show (pks P ++ [sv]).length = _; simp
    unfold Rpt
    rw [ek, hl']
    refine ⟨h1, h2, h3, h4, ⟨pk_us, by omega, fun j s hj => ?_⟩, pk_us⟩
    show (8 ≤ s ∧ s ≤ 1000) ∧ upd (F 210) (4 * k + (pks P).length) (nI (sv - 8)) (4 * k + j) = nI (s - 8)
    replace hj : (pks P ++ [sv])[j]? = some s := hj
    by_cases c : j < (pks P).length
    · rw [List.getElem?_append_left c] at hj
      rw [pk_un (by omega)]
      exact d3 j s hj
    · rw [List.getElem?_append_right (by omega)] at hj
      have hj0 : j = (pks P).length := by
        have := (List.getElem?_eq_some_iff.mp hj).1
        simp at this
        omega
      subst hj0
      rw [Nat.sub_self] at hj
      cases hj
      rw [pk_us]
      exact ⟨hs, rfl⟩
  · have hne : (pks P).length = 4 := nI_inj (by omega) (by decide) (Decidable.of_not_not q)
    rw [if_pos hne]
    refine h_st rfl rfl ?_
    exact h_rt rfl rfl (⟨_, _, rfl, F, h, hR, hO⟩)
theorem r_123hw {b : Bool} {σ0 : ae_S} {F0 F Fz : Nat → Nat → Int32} {c u g : Int32} {P : AP} {f k l e n pl : Nat} (h : RS b σ0 F0 σ c u g F) (ek : 8 * e + l = k) (hl : l < 8) (he : e < 4) (hR : Rpt F l e P) (hO : PO Fz F k) {sv : Nat} {x5 x7 x8 : Option Value} (hs : 8 ≤ sv ∧ sv ≤ 1000) : hG ra (d + 2) 123 σ [some (.ref 176), some (.int (nI f)), some (.int (nI k)), some (.int (nI n)), some (.int (nI pl)), x5, some (.int (nI sv)), x7, x8] [] 235 (pI (fun σ' _ => ∃ F', RS b σ0 F0 σ' c u g F' ∧ Rpt F' l e (if pqu P = 0 ∨ (pks P).length < 4 then kp P sv u else P) ∧ PO Fz F' k)) := by
  have hk : k < 32 := by omega
  have ek8 : nI k - nI k / 8 * 8 = nI l := by rw [show nI k - nI k / 8 * 8 = nI (k % 8) from pk_rem (a := k) (d := 8) (by omega) (by decide) (by decide), show k % 8 = l by omega]
  have hR' := hR
  obtain ⟨⟨a1, a2⟩, h2, h3, h4, ⟨d1, d2, d3⟩, h6⟩ := hR'
  refine h_st rfl rfl ?_
  refine h_st rfl (e_get h.2.1 rfl) ?_
  refine h_st rfl rfl ?_
  refine h_st rfl rfl ?_
  refine h_st rfl (e_dv (by decide)) ?_
  refine h_st rfl (q_ba h.a179 (ek8) (hl) (by decide)) ?_
  refine h_st rfl rfl ?_
  refine h_br (fun q4 => ?_) (fun q4 => ?_)
  · have hq : ¬ pqu P = 0 := fun z => q4 (a1.mpr z)
    have eq : (if pqu P = 0 ∨ (pks P).length < 4 then kp P sv u else P) = (if (pks P).length = 4 then P else apk P sv u) := by
      by_cases c : (pks P).length = 4
      · rw [if_pos c, if_neg (fun z => z.elim hq (fun z => by omega))]
      · rw [if_neg c, if_pos (Or.inr (by omega))]
        unfold kp apk
        rw [if_neg hq]
    rw [eq]
    exact r_123gw h ek hl he hR hO hs
  · have hq : pqu P = 0 := a1.mp (Decidable.of_not_not q4)
    refine h_st rfl rfl ?_
    refine h_st rfl (e_get h.2.1 rfl) ?_
    refine h_st rfl rfl ?_
    refine h_st rfl rfl ?_
    refine r_ias rfl h m209 (fun _ => by decide) (by decide) (rfl) (hk) (rfl) (fun σ2 h2 => ?_)
    replace h := h2
    clear h2
    have hR2 : Rpt (fu F 209 (upd (F 209) k 0)) l e (clr P) := by
      unfold Rpt
      rw [ek]
      rw [ek] at h2 h3 h4 h6
      exact ⟨⟨a1, a2⟩, h2, h3, h4, ⟨pk_us, by show 0 ≤ 4; omega, fun j s hj => (by cases hj)⟩, h6⟩
    have eq : (if pqu P = 0 ∨ (pks P).length < 4 then kp P sv u else P) = (if (pks (clr P)).length = 4 then clr P else apk (clr P) sv u) := by
      rw [if_pos (Or.inl hq), if_neg (show ¬ (pks (clr P)).length = 4 from (by show ¬ 0 = 4; omega))]
      unfold kp
      rw [if_pos hq]
      rfl
    rw [eq]
    exact r_123gw h ek hl he hR2 (hO.u (p := 209) (by decide) (own_k (by decide))) hs
end SY13
