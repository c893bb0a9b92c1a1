section SY15
variable {ra : ae_R} {d : Nat} {σ : ae_S}
section S15
variable {F F' Fz : Nat → Nat → Int32} {l e k i p nt : Nat} {P : AP} {x : AF} {z : Int32}
theorem Rpt.las {sv : Nat} (h : Rpt F l e P) (hl : l < 8) (he : e < 4) (hnt : nt < 2) (hs : sv < 256) : Rpt (fu F 203 (upd (F 203) (32 * nt + (8 * e + l)) (nI sv))) l e (pl1 P nt (nI sv)) := by
  obtain ⟨h1, ⟨b1, b2, b3, b4⟩, h3, h4, h5, h6⟩ := h
  have c : nt = 0 ∨ nt = 1 := by omega
  refine ⟨h1, ?_, h3, h4, h5, h6⟩
  rcases c with rfl | rfl
  · refine ⟨?_, ?_, Or.inr ⟨sv, hs, ?_⟩, ?_⟩
    · show upd (F 203) (32 * 0 + (8 * e + l)) (nI sv) (8 * e + l) = upd (pla P) 0 (nI sv) 0
      rw [show 32 * 0 + (8 * e + l) = 8 * e + l by omega, pk_us, pk_us]
    · show upd (F 203) (32 * 0 + (8 * e + l)) (nI sv) (32 + (8 * e + l)) = upd (pla P) 0 (nI sv) 1
      rw [pk_un (by omega), pk_un (by decide)]
      exact b2
    · show upd (pla P) 0 (nI sv) 0 = _
      exact pk_us
    · show upd (pla P) 0 (nI sv) 1 = -1 ∨ rg (upd (pla P) 0 (nI sv) 1) 256
      rw [pk_un (by decide)]
      exact b4
  · refine ⟨?_, ?_, ?_, Or.inr ⟨sv, hs, ?_⟩⟩
    · show upd (F 203) (32 * 1 + (8 * e + l)) (nI sv) (8 * e + l) = upd (pla P) 1 (nI sv) 0
      rw [pk_un (by omega), pk_un (by decide)]
      exact b1
    · show upd (F 203) (32 * 1 + (8 * e + l)) (nI sv) (32 + (8 * e + l)) = upd (pla P) 1 (nI sv) 1
      rw [show 32 * 1 + (8 * e + l) = 32 + (8 * e + l) by omega, pk_us, pk_us]
    · show upd (pla P) 1 (nI sv) 0 = -1 ∨ rg (upd (pla P) 1 (nI sv) 0) 256
      rw [pk_un (by decide)]
      exact b3
    · show upd (pla P) 1 (nI sv) 1 = _
      exact pk_us
theorem Rpt.tkn {sv : Nat} {u : Int32} (h : Rpt F l e P) (hs : sv < 256) : Rpt (fu (fu F 204 (upd (F 204) (8 * e + l) (nI sv))) 205 (upd (F 205) (8 * e + l) u)) l e (ptk P (nI sv) u) := by
  obtain ⟨h1, h2, h3, h4, h5, h6⟩ := h
  exact ⟨h1, h2, ⟨pk_us, pk_us, Or.inr ⟨sv, hs, rfl⟩⟩, h4, h5, h6⟩
theorem ahd {sv t : Nat} (h1 : sv < 256) (h2 : 1 ≤ t ∧ t ≤ 255) (h3 : 1 ≤ sv) (hne : ¬ nI sv = nI t) : (if nI sv ≤ nI t then nI sv - nI t + 255 else nI sv - nI t) = nI (if t ≤ sv then sv - t else sv + 255 - t) := by
  have hn : sv ≠ t := fun z => hne (by rw [z])
  by_cases c : t ≤ sv
  · rw [if_pos c, if_neg (nI_ge (by omega) (by omega)), pk_sub c]
  · have e : nI sv - nI t + 255 = nI (sv + 255) - nI t := by
      rw [← nI_add sv 255, show nI 255 = (255 : Int32) from rfl]
      simp only [Int32.sub_eq_add_neg]
      ac_rfl
    rw [if_neg c, if_pos (nI_le (by omega) (by omega)), e, pk_sub (by omega)]
end S15
theorem r_nxf {x : Int32} (h : rg x 256) : hE ra (d + 1) 96 [.int x] σ (pI (fun σ' y => σ' = σ ∧ y = fol x)) := by
  rw [← fol_eq h]
  exact r_nx x
theorem r_121dw {b : Bool} {σ0 : ae_S} {F0 F Fz : Nat → Nat → Int32} {c u g : Int32} {P : AP} {f k l e n nt sv : Nat} (h : RS b σ0 F0 σ c u g F) (ek : 8 * e + l = k) (hl : l < 8) (he : e < 4) (hR : Rpt F l e P) (hO : PO Fz F k) {x : AF} (hf : f < 400) (hg : ∀ j, j < x.1 → F 194 (200 * f + j) = x.2 j) (hbx : ∀ j, j < x.1 → rg (x.2 j) 256) (hx1 : 64 ≤ x.1 ∧ x.1 ≤ 200) (hn : n + 39 ≤ x.1) (e16 : pa x.2 16 - 20 = nI n) (hsv : sv < 256) {x5 x6 x7 x8 x9 : Option Value} (ht : tbt (pts P) (pta P) (psk P) (nI sv) u) : hG ra (d + 3) 121 σ [some (.ref 176), some (.int (nI f)), some (.int (nI nt)), some (.int (nI k)), some (.int (nI sv)), x5, x6, x7, x8, x9] [] 189 (pI (fun σ' _ => ∃ F', RS b σ0 F0 σ' c u g F' ∧ Rpt F' l e (if tbt (pts P) (pta P) (psk P) (nI sv) u then jn (ptk P (nI sv) u) x.2 n u else P) ∧ PO Fz F' k)) := by
  subst ek
  have hk : 8 * e + l < 32 := by omega
  rw [if_pos ht]
  refine h_st rfl rfl ?_
  refine h_st rfl (e_get h.2.1 rfl) ?_
  refine h_st rfl rfl ?_
  refine h_st rfl rfl ?_
  refine r_ias rfl h m204 (fun _ => by decide) (by decide) (rfl) (hk) (rfl) (fun σ2 h2 => ?_)
  replace h := h2
  clear h2
  refine h_st rfl rfl ?_
  refine h_st rfl (e_get h.2.1 rfl) ?_
  refine h_st rfl rfl ?_
  refine h_st rfl rfl ?_
  refine h_st rfl (e_get h.2.1 rfl) ?_
  refine r_ias rfl h m205 (fun _ => by decide) (by decide) (rfl) (hk) (rfl) (fun σ2 h2 => ?_)
  replace h := h2
  clear h2
  refine h_st rfl rfl ?_
  refine h_st rfl rfl ?_
  refine h_st rfl rfl ?_
  refine h_ci3 rfl (Nat.le_of_ble_eq_true rfl) (e_rcv h.2.1) rfl (r_123w (P := ptk P (nI sv) u) h rfl hl he (hR.tkn hsv) ((hO.u (p := 204) (by decide) (own_k (by decide))).u (p := 205) (by decide) (own_k (by decide))) hf hg hbx hx1 hn e16 rfl rfl) (fun σ9 v9 hq => ?_)
  exact h_rt rfl rfl (⟨_, _, rfl, hq⟩)
theorem r_121cw {b : Bool} {σ0 : ae_S} {F0 F Fz : Nat → Nat → Int32} {c u g : Int32} {P : AP} {f k l e n nt sv : Nat} (h : RS b σ0 F0 σ c u g F) (ek : 8 * e + l = k) (hl : l < 8) (he : e < 4) (hR : Rpt F l e P) (hO : PO Fz F k) {x : AF} (hf : f < 400) (hg : ∀ j, j < x.1 → F 194 (200 * f + j) = x.2 j) (hbx : ∀ j, j < x.1 → rg (x.2 j) 256) (hx1 : 64 ≤ x.1 ∧ x.1 ≤ 200) (hn : n + 39 ≤ x.1) (e16 : pa x.2 16 - 20 = nI n) (hsv : sv < 256) {x5 x9 : Option Value} {x7 x8 : Int32} (h7 : (x7 = 1 ∧ (pts P = -1 ∨ ¬ u - pta P ≤ psk P)) ∨ (x7 = 0 ∧ ¬ (pts P = -1 ∨ ¬ u - pta P ≤ psk P))) (h8 : ¬ nI sv = pts P → ¬ nI sv = 0 → ¬ pts P = 0 → ¬ pts P = -1 → ((128 : Int32) ≤ x8 ↔ 128 ≤ (if nI sv ≤ pts P then nI sv - pts P + 255 else nI sv - pts P))) : hG ra (d + 3) 121 σ [some (.ref 176), some (.int (nI f)), some (.int (nI nt)), some (.int (nI k)), some (.int (nI sv)), x5, some (.int (pts P)), some (.int x7), some (.int x8), x9] [] 144 (pI (fun σ' _ => ∃ F', RS b σ0 F0 σ' c u g F' ∧ Rpt F' l e (if tbt (pts P) (pta P) (psk P) (nI sv) u then jn (ptk P (nI sv) u) x.2 n u else P) ∧ PO Fz F' k)) := by
  refine h_st rfl rfl ?_
  refine h_st rfl rfl ?_
  refine h_st rfl rfl ?_
  refine h_br (fun q1 => ?_) (fun q1 => ?_)
  · refine h_st rfl rfl ?_
    refine h_st rfl rfl ?_
    refine h_st rfl rfl ?_
    refine h_st rfl rfl ?_
    refine h_br (fun q8 => ?_) (fun q8 => ?_)
    · exact r_121dw h ek hl he hR hO hf hg hbx hx1 hn e16 hsv (Or.inl (b_2 h7 q8))
    · refine h_st rfl rfl ?_
      refine h_st rfl rfl ?_
      refine h_pc (if_neg (by decide)) ?_
      refine h_st rfl rfl ?_
      exact h_rt rfl rfl (⟨_, _, rfl, F, h, by rw [if_neg (fun z => z.elim (h7.elim (fun z => absurd (z.1.symm.trans (Decidable.of_not_not q8)) (by decide)) (fun z => z.2)) (fun z => z.1 q1))]; exact hR, hO⟩)
  · refine h_st rfl rfl ?_
    refine h_st rfl rfl ?_
    refine h_br (fun q2 => ?_) (fun q2 => ?_)
    · refine h_st rfl rfl ?_
      refine h_st rfl rfl ?_
      refine h_st rfl rfl ?_
      refine h_st rfl rfl ?_
      refine h_st rfl rfl ?_
      refine h_br (fun q8 => ?_) (fun q8 => ?_)
      · exact r_121dw h ek hl he hR hO hf hg hbx hx1 hn e16 hsv (Or.inl (b_2 h7 q8))
      · refine h_st rfl rfl ?_
        refine h_st rfl rfl ?_
        refine h_pc (if_pos (by decide)) ?_
        exact r_121dw h ek hl he hR hO hf hg hbx hx1 hn e16 hsv (Or.inr ⟨q1, Or.inl q2⟩)
    · refine h_st rfl rfl ?_
      refine h_st rfl rfl ?_
      refine h_br (fun q3 => ?_) (fun q3 => ?_)
      · refine h_st rfl rfl ?_
        refine h_st rfl rfl ?_
        refine h_st rfl rfl ?_
        refine h_st rfl rfl ?_
        refine h_st rfl rfl ?_
        refine h_br (fun q8 => ?_) (fun q8 => ?_)
        · exact r_121dw h ek hl he hR hO hf hg hbx hx1 hn e16 hsv (Or.inl (b_2 h7 q8))
        · refine h_st rfl rfl ?_
          refine h_st rfl rfl ?_
          refine h_pc (if_pos (by decide)) ?_
          exact r_121dw h ek hl he hR hO hf hg hbx hx1 hn e16 hsv (Or.inr ⟨q1, Or.inr (Or.inl q3)⟩)
      · refine h_st rfl rfl ?_
        refine h_st rfl rfl ?_
        refine h_st rfl rfl ?_
        refine h_br (fun q4 => ?_) (fun q4 => ?_)
        · refine h_st rfl rfl ?_
          refine h_st rfl rfl ?_
          refine h_st rfl rfl ?_
          refine h_st rfl rfl ?_
          refine h_br (fun q8 => ?_) (fun q8 => ?_)
          · exact r_121dw h ek hl he hR hO hf hg hbx hx1 hn e16 hsv (Or.inl (b_2 h7 q8))
          · refine h_st rfl rfl ?_
            refine h_st rfl rfl ?_
            refine h_pc (if_neg (by decide)) ?_
            refine h_st rfl rfl ?_
            exact h_rt rfl rfl (⟨_, _, rfl, F, h, by rw [if_neg (fun z => z.elim (h7.elim (fun z => absurd (z.1.symm.trans (Decidable.of_not_not q8)) (by decide)) (fun z => z.2)) (fun z => z.2.elim q2 (fun z => z.elim q3 (fun z => z ((h8 q1 q2 q3 (fun y => (h7.elim (fun z => absurd (z.1.symm.trans (Decidable.of_not_not q8)) (by decide)) (fun z => z.2)) (Or.inl y))).mp q4)))))]; exact hR, hO⟩)
        · refine h_st rfl rfl ?_
          refine h_st rfl rfl ?_
          refine h_st rfl rfl ?_
          refine h_st rfl rfl ?_
          refine h_st rfl rfl ?_
          refine h_br (fun q8 => ?_) (fun q8 => ?_)
          · exact r_121dw h ek hl he hR hO hf hg hbx hx1 hn e16 hsv (Or.inl (b_2 h7 q8))
          · refine h_st rfl rfl ?_
            refine h_st rfl rfl ?_
            refine h_pc (if_pos (by decide)) ?_
            exact r_121dw h ek hl he hR hO hf hg hbx hx1 hn e16 hsv (Or.inr ⟨q1, Or.inr (Or.inr (fun z => q4 ((h8 q1 q2 q3 (fun y => (h7.elim (fun z => absurd (z.1.symm.trans (Decidable.of_not_not q8)) (by decide)) (fun z => z.2)) (Or.inl y))).mpr z)))⟩)
theorem r_121lw {b : Bool} {σ0 : ae_S} {F0 F Fz : Nat → Nat → Int32} {c u g : Int32} {P : AP} {f k l e n nt sv : Nat} (h : RS b σ0 F0 σ c u g F) (ek : 8 * e + l = k) (hl : l < 8) (he : e < 4) (hR : Rpt F l e P) (hO : PO Fz F k) {x : AF} (hf : f < 400) (hg : ∀ j, j < x.1 → F 194 (200 * f + j) = x.2 j) (hbx : ∀ j, j < x.1 → rg (x.2 j) 256) (hx1 : 64 ≤ x.1 ∧ x.1 ≤ 200) (hn : n + 39 ≤ x.1) (e16 : pa x.2 16 - 20 = nI n) (hsv : sv < 256) {x5 : Option Value} {x7 : Int32} (h7 : (x7 = 1 ∧ (pts P = -1 ∨ ¬ u - pta P ≤ psk P)) ∨ (x7 = 0 ∧ ¬ (pts P = -1 ∨ ¬ u - pta P ≤ psk P))) {t : Nat} (et : pts P = nI t) (ht : 1 ≤ t ∧ t ≤ 255) (hs1 : 1 ≤ sv) : ∀ (m i q : Nat), 1 ≤ i ∧ i ≤ 255 → (if i ≤ sv then sv - i else sv + 255 - i) = m → q + m = (if t ≤ sv then sv - t else sv + 255 - t) → hG ra (d + 3) 121 σ [some (.ref 176), some (.int (nI f)), some (.int (nI nt)), some (.int (nI k)), some (.int (nI sv)), x5, some (.int (pts P)), some (.int x7), some (.int (nI q)), some (.int (nI i))] [] 114 (pI (fun σ' _ => ∃ F', RS b σ0 F0 σ' c u g F' ∧ Rpt F' l e (if tbt (pts P) (pta P) (psk P) (nI sv) u then jn (ptk P (nI sv) u) x.2 n u else P) ∧ PO Fz F' k)) := by
  intro m
  induction m with
  | zero =>
    intro i q hi hm hq
    have hi2 : i = sv := by split at hm <;> omega
    subst hi2
    refine h_st rfl rfl ?_
    refine h_st rfl rfl ?_
    refine h_pc (if_neg (fun z9 => (show ¬ pts P ≤ 0 from by rw [et]; exact nI_ge (show 0 < t by omega) (by omega)) (of_decide_eq_true z9))) ?_
    refine h_st rfl rfl ?_
    refine h_st rfl rfl ?_
    refine h_pc (if_neg (fun z9 => (show ¬ nI i ≤ 0 from nI_ge (show 0 < i by omega) (by omega)) (of_decide_eq_true z9))) ?_
    refine h_st rfl rfl ?_
    refine h_st rfl rfl ?_
    refine h_st rfl rfl ?_
    refine h_pc (if_pos (decide_eq_true (rfl))) ?_
    exact r_121cw h ek hl he hR hO hf hg hbx hx1 hn e16 hsv h7 (fun z1 z2 z3 z4 => by rw [et, ahd hsv ht hs1 (by rw [← et]; exact z1), show q = (if t ≤ i then i - t else i + 255 - t) from hq])
  | succ m ih =>
    intro i q hi hm hq
    have hne : i ≠ sv := fun z => by
      rw [if_pos (by omega)] at hm
      omega
    have hri : rg (nI i) 256 := ⟨i, by omega, rfl⟩
    have en : fol (nI i) = nI (i % 255 + 1) := by
      rw [← fol_eq hri, show nI i - nI i / 255 * 255 = nI (i % 255) from pk_rem (a := i) (d := 255) (by omega) (by decide) (by decide), nI_1]
    have ih1 := ih (i % 255 + 1) (q + 1) (by omega) (by
      by_cases e : i = 255
      · subst e
        rw [if_neg (by omega)] at hm
        rw [if_pos (by omega)]
        omega
      · have e2 : i % 255 = i := Nat.mod_eq_of_lt (by omega)
        rw [e2]
        by_cases e3 : i ≤ sv
        · rw [if_pos e3] at hm
          rw [if_pos (by omega)]
          omega
        · rw [if_neg e3] at hm
          rw [if_neg (by omega)]
          omega) (by omega)
    rw [← en, ← nI_1] at ih1
    refine h_st rfl rfl ?_
    refine h_st rfl rfl ?_
    refine h_pc (if_neg (fun z9 => (show ¬ pts P ≤ 0 from by rw [et]; exact nI_ge (show 0 < t by omega) (by omega)) (of_decide_eq_true z9))) ?_
    refine h_st rfl rfl ?_
    refine h_st rfl rfl ?_
    refine h_pc (if_neg (fun z9 => (show ¬ nI sv ≤ 0 from nI_ge (show 0 < sv by omega) (by omega)) (of_decide_eq_true z9))) ?_
    refine h_st rfl rfl ?_
    refine h_st rfl rfl ?_
    refine h_st rfl rfl ?_
    refine h_pc (if_neg (fun z9 => (fun z => hne (nI_inj (by omega) (by omega) z)) (of_decide_eq_true z9))) ?_
    refine h_st rfl rfl ?_
    refine h_st rfl rfl ?_
    refine h_ci1 rfl (Nat.le_of_ble_eq_true rfl) rfl rfl (r_nxf (hri)) (fun σ' y9 hq => ?_)
    obtain ⟨hss, rfl⟩ := hq
    replace hss := hss.symm
    subst hss
    refine h_st rfl rfl ?_
    refine h_st rfl rfl ?_
    exact ih1
theorem r_121bw {b : Bool} {σ0 : ae_S} {F0 F Fz : Nat → Nat → Int32} {c u g : Int32} {P : AP} {f k l e n nt sv : Nat} (h : RS b σ0 F0 σ c u g F) (ek : 8 * e + l = k) (hl : l < 8) (he : e < 4) (hR : Rpt F l e P) (hO : PO Fz F k) {x : AF} (hf : f < 400) (hg : ∀ j, j < x.1 → F 194 (200 * f + j) = x.2 j) (hbx : ∀ j, j < x.1 → rg (x.2 j) 256) (hx1 : 64 ≤ x.1 ∧ x.1 ≤ 200) (hn : n + 39 ≤ x.1) (e16 : pa x.2 16 - 20 = nI n) (hsv : sv < 256) {x5 x6 x7 x8 x9 : Option Value} : hG ra (d + 3) 121 σ [some (.ref 176), some (.int (nI f)), some (.int (nI nt)), some (.int (nI k)), some (.int (nI sv)), x5, x6, x7, x8, x9] [] 63 (pI (fun σ' _ => ∃ F', RS b σ0 F0 σ' c u g F' ∧ Rpt F' l e (if tbt (pts P) (pta P) (psk P) (nI sv) u then jn (ptk P (nI sv) u) x.2 n u else P) ∧ PO Fz F' k)) := by
  have hk : k < 32 := by omega
  have hR' := hR
  obtain ⟨⟨a1, a2⟩, h2, ⟨c1, c2, c3⟩, h4, h5, h6⟩ := hR'
  rw [ek] at c1 c2
  have ek8 : nI k - nI k / 8 * 8 = nI l := by rw [show nI k - nI k / 8 * 8 = nI (k % 8) from pk_rem (a := k) (d := 8) (by omega) (by decide) (by decide), show k % 8 = l by omega]
  have hlp : ∀ (x7 : Int32), ((x7 = 1 ∧ (pts P = -1 ∨ ¬ u - pta P ≤ psk P)) ∨ (x7 = 0 ∧ ¬ (pts P = -1 ∨ ¬ u - pta P ≤ psk P))) → hG ra (d + 3) 121 σ [some (.ref 176), some (.int (nI f)), some (.int (nI nt)), some (.int (nI k)), some (.int (nI sv)), x5, some (.int (pts P)), some (.int x7), some (.int 0), some (.int (pts P))] [] 114 (pI (fun σ' _ => ∃ F', RS b σ0 F0 σ' c u g F' ∧ Rpt F' l e (if tbt (pts P) (pta P) (psk P) (nI sv) u then jn (ptk P (nI sv) u) x.2 n u else P) ∧ PO Fz F' k)) := by
    intro x7 h7
    rcases c3 with ht | ⟨t, ht, et⟩
    · have hle : pts P ≤ 0 := by rw [ht]; decide
      refine h_st rfl rfl ?_
      refine h_st rfl rfl ?_
      refine h_pc (if_pos (decide_eq_true (hle))) ?_
      exact r_121cw h ek hl he hR hO hf hg hbx hx1 hn e16 hsv h7 (fun z1 z2 z3 z4 => absurd ht z4)
    · by_cases t0 : t = 0
      · have ht0 : pts P = 0 := by rw [et, t0]; rfl
        have hle : pts P ≤ 0 := by rw [ht0]; decide
        refine h_st rfl rfl ?_
        refine h_st rfl rfl ?_
        refine h_pc (if_pos (decide_eq_true (hle))) ?_
        exact r_121cw h ek hl he hR hO hf hg hbx hx1 hn e16 hsv h7 (fun z1 z2 z3 z4 => absurd ht0 z3)
      · by_cases s0 : sv = 0
        · have hs0 : nI sv = 0 := by rw [s0]; rfl
          have hle : nI sv ≤ 0 := by rw [hs0]; decide
          refine h_st rfl rfl ?_
          refine h_st rfl rfl ?_
          refine h_pc (if_neg (fun z9 => (show ¬ pts P ≤ 0 from by rw [et]; exact nI_ge (show 0 < t by omega) (by omega)) (of_decide_eq_true z9))) ?_
          refine h_st rfl rfl ?_
          refine h_st rfl rfl ?_
          refine h_pc (if_pos (decide_eq_true (hle))) ?_
          exact r_121cw h ek hl he hR hO hf hg hbx hx1 hn e16 hsv h7 (fun z1 z2 z3 z4 => absurd hs0 z2)
        · have hl9 := r_121lw (ra := ra) (d := d) (nt := nt) (x5 := x5) h ek hl he hR hO hf hg hbx hx1 hn e16 hsv h7 et (by omega) (by omega) _ t 0 (by omega) rfl (Nat.zero_add _)
          rw [← et] at hl9
          exact hl9
  refine h_st rfl rfl ?_
  refine h_st rfl (e_get h.2.1 rfl) ?_
  refine h_st rfl rfl ?_
  refine h_st rfl (q_iaE h.a204 (rfl) (hk) (by decide) (c1)) ?_
  refine h_st rfl rfl ?_
  refine h_st rfl rfl ?_
  refine h_st rfl rfl ?_
  refine h_st rfl rfl ?_
  refine h_br (fun q1 => ?_) (fun q1 => ?_)
  · refine h_st rfl rfl ?_
    refine h_st rfl rfl ?_
    refine h_st rfl rfl ?_
    refine h_st rfl rfl ?_
    refine h_st rfl rfl ?_
    refine h_st rfl rfl ?_
    refine h_st rfl rfl ?_
    exact hlp 1 (Or.inl ⟨rfl, Or.inl q1⟩)
  · refine h_st rfl rfl ?_
    refine h_st rfl (e_get h.2.1 rfl) ?_
    refine h_st rfl rfl ?_
    refine h_st rfl (e_get h.2.1 rfl) ?_
    refine h_st rfl rfl ?_
    refine h_st rfl (q_iaE h.a205 (rfl) (hk) (by decide) (c2)) ?_
    refine h_st rfl rfl ?_
    refine h_st rfl rfl ?_
    refine h_st rfl (e_get h.2.1 rfl) ?_
    refine h_st rfl rfl ?_
    refine h_st rfl rfl ?_
    refine h_st rfl (e_dv (by decide)) ?_
    refine h_st rfl (q_iaE h.a184 (ek8) (hl) (by decide) (a2)) ?_
    refine h_st rfl rfl ?_
    refine h_br (fun q2 => ?_) (fun q2 => ?_)
    · refine h_st rfl rfl ?_
      refine h_st rfl rfl ?_
      refine h_st rfl rfl ?_
      refine h_st rfl rfl ?_
      refine h_st rfl rfl ?_
      refine h_st rfl rfl ?_
      exact hlp 0 (Or.inr ⟨rfl, fun z => z.elim q1 (fun z => z q2)⟩)
    · refine h_st rfl rfl ?_
      refine h_st rfl rfl ?_
      refine h_st rfl rfl ?_
      refine h_st rfl rfl ?_
      refine h_st rfl rfl ?_
      refine h_st rfl rfl ?_
      refine h_st rfl rfl ?_
      exact hlp 1 (Or.inl ⟨rfl, Or.inr q2⟩)
theorem r_121w {b : Bool} {σ0 : ae_S} {F0 F Fz : Nat → Nat → Int32} {c u g : Int32} {P : AP} {f k l e n nt sv : Nat} (h : RS b σ0 F0 σ c u g F) (ek : 8 * e + l = k) (hl : l < 8) (he : e < 4) (hR : Rpt F l e P) (hO : PO Fz F k) {x : AF} (hf : f < 400) (hg : ∀ j, j < x.1 → F 194 (200 * f + j) = x.2 j) (hbx : ∀ j, j < x.1 → rg (x.2 j) 256) (hx1 : 64 ≤ x.1 ∧ x.1 ≤ 200) (hn : n + 39 ≤ x.1) (e16 : pa x.2 16 - 20 = nI n) (hsv : sv < 256) (hnt : nt < 2) (es : x.2 (x.1 - 5) = nI sv) {x1 x2 x3 x4 : Int32} (g1 : x1 = nI f) (g2 : x2 = nI nt) (g3 : x3 = nI k) (g4 : x4 = nI sv) : hE ra (d + 4) 121 [.ref 176, .int x1, .int x2, .int x3, .int x4] σ (pI (fun σ' _ => ∃ F', RS b σ0 F0 σ' c u g F' ∧ Rpt F' l e (rvA P nt x u) ∧ PO Fz F' k)) := by
  subst g1
  subst g2
  subst g3
  subst g4
  have hk : k < 32 := by omega
  have ei : (32 : Int32) * nI nt + nI k = nI (32 * nt + k) := by rw [show (32 : Int32) = nI 32 from rfl, pk_mul, nI_add]
  obtain ⟨h1, ⟨b1, b2, b3, b4⟩, h3, h4, h5, h6⟩ := hR
  have ela : F 203 (32 * nt + k) = pla P nt := by
    have c : nt = 0 ∨ nt = 1 := by omega
    rw [← ek]
    rcases c with rfl | rfl
    · rw [show 32 * 0 + (8 * e + l) = 8 * e + l by omega]
      exact b1
    · exact b2
  have hrg : ¬ pla P nt = -1 → rg (pla P nt) 256 := fun z => by
    have c : nt = 0 ∨ nt = 1 := by omega
    rcases c with rfl | rfl
    · exact b3.resolve_left z
    · exact b4.resolve_left z
  have hR1 : Rpt (fu F 203 (upd (F 203) (32 * nt + k) (nI sv))) l e (pl1 P nt (nI sv)) := by
    rw [← ek]
    exact Rpt.las ⟨h1, ⟨b1, b2, b3, b4⟩, h3, h4, h5, h6⟩ hl he hnt hsv
  have hO1 := hO.u (p := 203) (i := 32 * nt + k) (z := nI sv) (by decide) (by unfold own; omega)
  have en : (pa x.2 16 - 20).toNatClampNeg = n := by rw [e16]; exact nI_clamp (by omega)
  have r1 : ¬ ior (nI sv) (pla P nt) → rvA P nt x u = pl1 P nt (nI sv) := fun z => by
    unfold rvA
    rw [es, if_neg z]
  have r2 : ior (nI sv) (pla P nt) → rvA P nt x u = (if tbt (pts (pl1 P nt (nI sv))) (pta (pl1 P nt (nI sv))) (psk (pl1 P nt (nI sv))) (nI sv) u then jn (ptk (pl1 P nt (nI sv)) (nI sv) u) x.2 n u else pl1 P nt (nI sv)) := fun z => by
    unfold rvA
    rw [es, if_pos z, en]
    rfl
  have hEB : ∀ (σ : ae_S) (x5 x6 x7 x8 x9 : Option Value), RS b σ0 F0 σ c u g (fu F 203 (upd (F 203) (32 * nt + k) (nI sv))) → ior (nI sv) (pla P nt) → hG ra (d + 3) 121 σ [some (.ref 176), some (.int (nI f)), some (.int (nI nt)), some (.int (nI k)), some (.int (nI sv)), x5, x6, x7, x8, x9] [] 63 (pI (fun σ' _ => ∃ F', RS b σ0 F0 σ' c u g F' ∧ Rpt F' l e (rvA P nt x u) ∧ PO Fz F' k)) := by
    intro σ x5 x6 x7 x8 x9 h z
    rw [r2 z]
    exact r_121bw h ek hl he hR1 hO1 hf hg hbx hx1 hn e16 hsv
  refine h_in rfl rfl (Nat.le_of_ble_eq_true rfl) ?_
  refine h_st rfl rfl ?_
  refine h_st rfl (e_get h.2.1 rfl) ?_
  refine h_st rfl rfl ?_
  refine h_st rfl rfl ?_
  refine h_st rfl rfl ?_
  refine h_st rfl rfl ?_
  refine h_st rfl rfl ?_
  refine h_st rfl (q_iaE h.a203 (ei) (by omega) (by decide) (ela)) ?_
  refine h_st rfl rfl ?_
  refine h_st rfl rfl ?_
  refine h_st rfl (e_get h.2.1 rfl) ?_
  refine h_st rfl rfl ?_
  refine h_st rfl rfl ?_
  refine h_st rfl rfl ?_
  refine h_st rfl rfl ?_
  refine h_st rfl rfl ?_
  refine h_st rfl rfl ?_
  refine r_ias rfl h m203 (fun _ => by decide) (by decide) (ei) (by omega) (rfl) (fun σ2 h2 => ?_)
  replace h := h2
  clear h2
  refine h_st rfl rfl ?_
  refine h_st rfl rfl ?_
  refine h_st rfl rfl ?_
  refine h_br (fun q1 => ?_) (fun q1 => ?_)
  · exact hEB _ _ _ _ _ _ h (Or.inl q1)
  · refine h_st rfl rfl ?_
    refine h_st rfl rfl ?_
    refine h_br (fun q2 => ?_) (fun q2 => ?_)
    · exact hEB _ _ _ _ _ _ h (Or.inr (Or.inl q2))
    · refine h_st rfl rfl ?_
      refine h_st rfl rfl ?_
      refine h_ci1 rfl (Nat.le_of_ble_eq_true rfl) rfl rfl (r_nxf (hrg q1)) (fun σ' y9 hq => ?_)
      obtain ⟨hss, rfl⟩ := hq
      replace hss := hss.symm
      subst hss
      refine h_st rfl rfl ?_
      refine h_br (fun q3 => ?_) (fun q3 => ?_)
      · exact hEB _ _ _ _ _ _ h (Or.inr (Or.inr (Or.inl q3)))
      · refine h_st rfl rfl ?_
        refine h_st rfl rfl ?_
        refine h_ci1 rfl (Nat.le_of_ble_eq_true rfl) rfl rfl (r_nxf (hrg q1)) (fun σ' y9 hq => ?_)
        obtain ⟨hss, rfl⟩ := hq
        replace hss := hss.symm
        subst hss
        refine h_ci1 rfl (Nat.le_of_ble_eq_true rfl) rfl rfl (r_nxf ((fol_rg (hrg q1)).1)) (fun σ' y9 hq => ?_)
        obtain ⟨hss, rfl⟩ := hq
        replace hss := hss.symm
        subst hss
        refine h_st rfl rfl ?_
        refine h_br (fun q4 => ?_) (fun q4 => ?_)
        · exact hEB _ _ _ _ _ _ h (Or.inr (Or.inr (Or.inr q4)))
        · refine h_st rfl rfl ?_
          exact h_rt rfl rfl (⟨_, _, rfl, _, h, by rw [r1 (fun z => z.elim q1 (fun z => z.elim q2 (fun z => z.elim q3 q4)))]; exact hR1, hO1⟩)
end SY15
