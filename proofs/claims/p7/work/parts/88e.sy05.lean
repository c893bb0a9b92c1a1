section SY5
variable {ra : ae_R} {d : Nat} {σ : ae_S}
theorem r_129z {b : Bool} {σ0 : ae_S} {F0 F : Nat → Nat → Int32} {c u g : Int32} (h : RS b σ0 F0 σ c u g F) {r : Nat} {x : Int32} (er : x = nI r) (hr : r < 48) (h0 : F 198 r = 0) : hE ra (d + 1) 129 [.ref 176, .int x] σ (pI (fun σ' v => v = -1 ∧ σ' = σ)) := by
  subst er
  refine h_in rfl rfl (Nat.le_of_ble_eq_true rfl) ?_
  refine h_st rfl rfl ?_
  refine h_st rfl (e_get h.2.1 rfl) ?_
  refine h_st rfl rfl ?_
  refine h_st rfl ((q_ia h.a198 (rfl) (hr) (by decide)).trans (by rw [h0])) ?_
  refine h_st rfl rfl ?_
  refine h_pc (if_neg (by decide)) ?_
  refine h_st rfl rfl ?_
  exact h_rt rfl rfl (⟨_, _, rfl, rfl, rfl⟩)
theorem r_129w {b : Bool} {σ0 : ae_S} {F0 F : Nat → Nat → Int32} {c u g : Int32} (h : RS b σ0 F0 σ c u g F) {r m f : Nat} {x : Int32} (er : x = nI r) (hr : r < 48) (hm2 : F 198 r = nI (m + 1)) (hm : m ≤ 15) (ef : F 197 (16 * r) = nI f) : hE ra (d + 1) 129 [.ref 176, .int x] σ (pI (fun σ' v => v = nI f ∧ RS b σ0 F0 σ' c u g (fu (fu F 198 (upd (F 198) r (nI m))) 197 (shl (F 197) r m)))) := by
  subst er
  have e16 : (16 : Int32) * nI r = nI (16 * r) := by rw [show (16 : Int32) = nI 16 from rfl, pk_mul]
  have hne : ¬ nI (m + 1) = 0 := nI_ne0 (by omega) (by omega)
  refine h_in rfl rfl (Nat.le_of_ble_eq_true rfl) ?_
  refine h_st rfl rfl ?_
  refine h_st rfl (e_get h.2.1 rfl) ?_
  refine h_st rfl rfl ?_
  refine h_st rfl ((q_ia h.a198 (rfl) (hr) (by decide)).trans (by rw [hm2])) ?_
  refine h_st rfl rfl ?_
  refine h_pc (if_pos (decide_eq_true (hne))) ?_
  refine h_st rfl rfl ?_
  refine h_st rfl (e_get h.2.1 rfl) ?_
  refine h_st rfl rfl ?_
  refine h_st rfl rfl ?_
  refine h_st rfl rfl ?_
  refine h_st rfl ((q_ia h.a197 (e16) (by omega) (by decide)).trans (by rw [ef])) ?_
  refine h_st rfl rfl ?_
  refine h_st rfl rfl ?_
  refine h_st rfl (e_get h.2.1 rfl) ?_
  refine h_st rfl rfl ?_
  refine h_st rfl rfl ?_
  refine h_st rfl (q_ia h.a198 (rfl) (hr) (by decide)) ?_
  refine h_st rfl rfl ?_
  refine h_st rfl rfl ?_
  refine r_ias rfl h m198 (fun _ => by decide) (by decide) (rfl) (hr) (show F 198 r - 1 = nI m from by rw [hm2]; exact nI_pred m) (fun σ2 h2 => ?_)
  replace h := h2
  clear h2
  rw [← fu_self (fu F 198 (upd (F 198) r (nI m))) 197, ← shl_0 (fu F 198 (upd (F 198) r (nI m)) 197) r] at h
  refine h_st rfl rfl ?_
  refine h_st rfl rfl ?_
  refine r_129l (F1 := fu F 198 (upd (F 198) r (nI m))) hr (by omega) pk_us (fun σ9 h => ?_) m 0 _ (Nat.zero_add _) h
  refine h_st rfl rfl ?_
  exact h_rt rfl rfl (⟨_, _, rfl, rfl, by rw [fu_n (show (197 : Nat) ≠ 198 by decide)] at h; exact h⟩)
variable {F F' Fb : Nat → Nat → Int32} {v v' : Nat → Nat} {L : Nat → ALn} {A : ALn} {x : AF} {f i r : Nat}
def pv (v : Nat → Nat) (r f : Nat) : Nat → Nat := fun q => if q = f then 2000 else if 1 + 16 * r ≤ v q ∧ v q < 17 + 16 * r then v q - 1 else v q
/-- a row gives its first frame -/
theorem RRow.pull {t : List AF} (h : RRow F v r (x :: t)) (hr : r < 48) (hF : F' = fu (fu F 198 (upd (F 198) r (nI t.length))) 197 (shl (F 197) r t.length)) : ∃ f, F 197 (16 * r) = nI f ∧ F 198 r = nI (t.length + 1) ∧ t.length ≤ 15 ∧ RX F' (pv v r f) f 2000 x ∧ RRow F' (pv v r f) r t ∧ v f = 1 + 16 * r := by
  obtain ⟨h1, h2, h3⟩ := h
  obtain ⟨f, h4, h5⟩ := h3 0 x rfl
  have hlen : t.length ≤ 15 := by
    have : (x :: t).length = t.length + 1 := rfl
    omega
  have hv := h5.2.1
  have eo : ∀ q, q ≠ 197 → q ≠ 198 → F' q = F q := fun q z1 z2 => by rw [hF, fu_n z1, fu_n z2]
  refine ⟨f, h4, h1, hlen, ?_, ⟨by rw [hF, fu_n (by decide), fu_s, pk_us], by omega, fun j y hy => ?_⟩, hv⟩
  · obtain ⟨a1, a2, a3, a4, a5⟩ := h5
    exact ⟨a1, if_pos rfl, by rw [eo 196 (by decide) (by decide)]; exact a3, by rw [eo 195 (by decide) (by decide)]; exact a4, by rw [eo 194 (by decide) (by decide)]; exact a5⟩
  · have hj := (List.getElem?_eq_some_iff.mp hy).1
    obtain ⟨f', h6, h7⟩ := h3 (j + 1) y (by simpa using hy)
    have hv' := h7.2.1
    refine ⟨f', ?_, ?_⟩
    · rw [hF, fu_s]
      unfold shl
      rw [if_pos (by omega)]
      exact h6
    · obtain ⟨a1, a2, a3, a4, a5⟩ := h7
      refine ⟨a1, ?_, by rw [eo 196 (by decide) (by decide)]; exact a3, by rw [eo 195 (by decide) (by decide)]; exact a4, by rw [eo 194 (by decide) (by decide)]; exact a5⟩
      unfold pv
      rw [if_neg (fun z => by rw [z] at hv'; omega), if_pos (by omega)]
      omega
theorem pv_pr (hF : ∀ q, q ≠ 197 → q ≠ 198 → F' q = F q) (hf : v f = 1 + 16 * r) {f' : Nat} (h : ¬ (1 + 16 * r ≤ v f' ∧ v f' < 17 + 16 * r)) : fpr F v F' (pv v r f) f' := ⟨by rw [hF 196 (by decide) (by decide)], by rw [hF 195 (by decide) (by decide)], fun k hk => by rw [hF 194 (by decide) (by decide)], by
  unfold pv
  rw [if_neg (fun z => h (by rw [z]; omega)), if_neg h]⟩
/-- a line gives its next frame -/
theorem ML.pull {t : List AF} {A' : ALn} (h : ML F v L) (hi : i < 24) (hr : (r = 2 * i ∧ (L i).1 = x :: t ∧ A' = (t, (L i).2)) ∨ (r = 2 * i + 1 ∧ (L i).2.1 = x :: t ∧ A' = ((L i).1, t, (L i).2.2))) (hF : F' = fu (fu F 198 (upd (F 198) r (nI t.length))) 197 (shl (F 197) r t.length)) : ∃ f, f < 400 ∧ F 197 (16 * r) = nI f ∧ F 198 r = nI (t.length + 1) ∧ t.length ≤ 15 ∧ RX F' (pv v r f) f 2000 x ∧ ML F' (pv v r f) (updL L i A') ∧ v f = 1 + 16 * r := by
  obtain ⟨⟨h1, h1'⟩, ⟨h2, h2'⟩, h3, h4⟩ := h i hi
  have eo : ∀ q, q ≠ 197 → q ≠ 198 → F' q = F q := fun q z1 z2 => by rw [hF, fu_n z1, fu_n z2]
  have hr48 : r < 48 := by omega
  have hrow : RRow F v r (x :: t) := by
    rcases hr with ⟨e1, e2, -⟩ | ⟨e1, e2, -⟩
    · rw [e1, ← e2]
      exact h1
    · rw [e1, ← e2]
      exact h2
  obtain ⟨f, b1, b2, b3, b4, b5, b6⟩ := hrow.pull hr48 hF
  have e8 : ∀ r', r' ≠ r → F' 198 r' = F 198 r' := fun r' z => by rw [hF, fu_n (by decide), fu_s, pk_un z]
  have e7 : ∀ r' j, r' ≠ r → j < 16 → F' 197 (16 * r' + j) = F 197 (16 * r' + j) := fun r' j z hj => by
    rw [hF, fu_s]
    unfold shl
    rw [if_neg (by omega)]
  have row : ∀ r' l, RRow F v r' l → r' ≠ r → RRow F' (pv v r f) r' l := fun r' l hl hne => hl.ag (e8 r' hne) (fun j hj => e7 r' j hne hj) (fun f' a1 a2 a3 => pv_pr eo b6 (by omega))
  have on : ∀ j, j < 24 → ∀ o, Ron F v j o → Ron F' (pv v r f) j o := fun j hj o ho => ho.ag (by rw [eo 199 (by decide) (by decide)]) (by rw [eo 200 (by decide) (by decide)]) (fun f' a1 a2 a3 => pv_pr eo b6 (by omega))
  have hm : ∀ j o, Rhm F j o → Rhm F' j o := fun j o ho => ho.ag (by rw [eo 201 (by decide) (by decide)]) (by rw [eo 202 (by decide) (by decide)])
  refine ⟨f, b4.1, b1, b2, b3, b4, h.up ?_ (fun j hj hne => ?_), b6⟩
  · rcases hr with ⟨e1, e2, e3⟩ | ⟨e1, e2, e3⟩
    · subst e3
      rw [e2] at h1'
      have hl : (x :: t).length = t.length + 1 := rfl
      exact ⟨⟨by rw [← e1]; exact b5, by show t.length ≤ _; omega⟩, ⟨row _ _ h2 (by omega), h2'⟩, on i hi _ h3, hm _ _ h4⟩
    · subst e3
      rw [e2] at h2'
      have hl : (x :: t).length = t.length + 1 := rfl
      exact ⟨⟨row _ _ h1 (by omega), h1'⟩, ⟨by rw [← e1]; exact b5, by show t.length ≤ _; omega⟩, on i hi _ h3, hm _ _ h4⟩
  · obtain ⟨⟨g1, g1'⟩, ⟨g2, g2'⟩, g3, g4⟩ := h j hj
    exact ⟨⟨row _ _ g1 (by omega), g1'⟩, ⟨row _ _ g2 (by omega), g2'⟩, on j hj _ g3, hm _ _ g4⟩
/-- what the two pulls leave -/
def TK (F : Nat → Nat → Int32) (v : Nat → Nat) (L : Nat → ALn) (l : Nat) (y : Int32) (F' : Nat → Nat → Int32) (v' : Nat → Nat) : Prop := ((tk (L l).1 (L l).2.1).1 = none ∧ y = -1 ∧ F' = F ∧ v' = v ∧ ((tk (L l).1 (L l).2.1).2.1, (tk (L l).1 (L l).2.1).2.2, (L l).2.2) = L l) ∨ ∃ x f, (tk (L l).1 (L l).2.1).1 = some x ∧ y = nI f ∧ f < 400 ∧ RX F' v' f 2000 x ∧ ML F' v' (updL L l ((tk (L l).1 (L l).2.1).2.1, (tk (L l).1 (L l).2.1).2.2, (L l).2.2)) ∧ ∀ q, q ≠ 197 → q ≠ 198 → F' q = F q
theorem r_128ta {b : Bool} {σ0 : ae_S} {F0 F : Nat → Nat → Int32} {c u g : Int32} (h : RS b σ0 F0 σ c u g F) {v : Nat → Nat} {L : Nat → ALn} {l : Nat} {x2 : Option Value} (hM : ML F v L) (hl : l < 24) {P : ae_S × ae_O → Prop} (hX : ∀ (σ' : ae_S) F' v' y, RS b σ0 F0 σ' c u g F' → TK F v L l y F' v' → hG ra (d + 2) 128 σ' [some (.ref 176), some (.int (nI l)), some (.int y)] [] 34 P) : hG ra (d + 2) 128 σ [some (.ref 176), some (.int (nI l)), x2] [] 11 P := by
  have e1 : (2 : Int32) * nI l + 1 = nI (2 * l + 1) := by rw [show (2 : Int32) = nI 2 from rfl, pk_mul, nI_1]
  have e0 : (2 : Int32) * nI l = nI (2 * l) := by rw [show (2 : Int32) = nI 2 from rfl, pk_mul]
  obtain ⟨⟨h1, h1'⟩, ⟨h2, h2'⟩, -⟩ := hM l hl
  cases hh : (L l).2.1 with
  | cons x t =>
    obtain ⟨f, hf, a1, a2, a3, a4, a5, a6⟩ := hM.pull (r := 2 * l + 1) hl (Or.inr ⟨rfl, hh, rfl⟩) rfl
    have ft : tk (L l).1 (L l).2.1 = (some x, (L l).1, t) := by rw [hh]; rfl
    refine h_st rfl rfl ?_
    refine h_st rfl rfl ?_
    refine h_st rfl rfl ?_
    refine h_st rfl rfl ?_
    refine h_st rfl rfl ?_
    refine h_st rfl rfl ?_
    refine h_ci2 rfl (Nat.le_of_ble_eq_true rfl) (e_rcv h.2.1) rfl (r_129w h (e1) (by omega) a2 a3 a1) (fun σ' y hy => ?_)
    obtain ⟨rfl, h'⟩ := hy
    refine h_st rfl rfl ?_
    refine h_st rfl rfl ?_
    refine h_st rfl rfl ?_
    refine h_st rfl rfl ?_
    refine h_pc (if_pos (decide_eq_true (nI_nm1 (by omega)))) ?_
    exact hX _ _ (pv v (2 * l + 1) f) _ h' (Or.inr ⟨x, f, by rw [ft], rfl, hf, a4, by rw [ft]; exact a5, fun q z1 z2 => by rw [fu_n z1, fu_n z2]⟩)
  | nil =>
    have z8 : F 198 (2 * l + 1) = 0 := by rw [h2.1, hh]; rfl
    cases hp : (L l).1 with
    | cons x t =>
      obtain ⟨f, hf, a1, a2, a3, a4, a5, a6⟩ := hM.pull (r := 2 * l) hl (Or.inl ⟨rfl, hp, rfl⟩) rfl
      have ft : tk (L l).1 (L l).2.1 = (some x, t, []) := by rw [hh, hp]; rfl
      have eA : (t, (L l).2) = (t, ([] : List AF), (L l).2.2) := by rw [← hh]
      rw [eA] at a5
      refine h_st rfl rfl ?_
      refine h_st rfl rfl ?_
      refine h_st rfl rfl ?_
      refine h_st rfl rfl ?_
      refine h_st rfl rfl ?_
      refine h_st rfl rfl ?_
      refine h_ci2 rfl (Nat.le_of_ble_eq_true rfl) (e_rcv h.2.1) rfl (r_129z h e1 (by omega) z8) (fun σ' y hy => ?_)
      obtain ⟨rfl, hss⟩ := hy
      replace hss := hss.symm
      subst hss
      refine h_st rfl rfl ?_
      refine h_st rfl rfl ?_
      refine h_st rfl rfl ?_
      refine h_st rfl rfl ?_
      refine h_pc (if_neg (by decide)) ?_
      refine h_st rfl rfl ?_
      refine h_st rfl rfl ?_
      refine h_st rfl rfl ?_
      refine h_st rfl rfl ?_
      refine h_ci2 rfl (Nat.le_of_ble_eq_true rfl) (e_rcv h.2.1) rfl (r_129w h e0 (by omega) a2 a3 a1) (fun σ' y hy => ?_)
      obtain ⟨rfl, h'⟩ := hy
      refine h_st rfl rfl ?_
      exact hX _ _ (pv v (2 * l) f) _ h' (Or.inr ⟨x, f, by rw [ft], rfl, hf, a4, by rw [ft]; exact a5, fun q z1 z2 => by rw [fu_n z1, fu_n z2]⟩)
    | nil =>
      have z7 : F 198 (2 * l) = 0 := by rw [h1.1, hp]; rfl
      have ft : tk (L l).1 (L l).2.1 = (none, [], []) := by rw [hh, hp]; rfl
      refine h_st rfl rfl ?_
      refine h_st rfl rfl ?_
      refine h_st rfl rfl ?_
      refine h_st rfl rfl ?_
      refine h_st rfl rfl ?_
      refine h_st rfl rfl ?_
      refine h_ci2 rfl (Nat.le_of_ble_eq_true rfl) (e_rcv h.2.1) rfl (r_129z h e1 (by omega) z8) (fun σ' y hy => ?_)
      obtain ⟨rfl, hss⟩ := hy
      replace hss := hss.symm
      subst hss
      refine h_st rfl rfl ?_
      refine h_st rfl rfl ?_
      refine h_st rfl rfl ?_
      refine h_st rfl rfl ?_
      refine h_pc (if_neg (by decide)) ?_
      refine h_st rfl rfl ?_
      refine h_st rfl rfl ?_
      refine h_st rfl rfl ?_
      refine h_st rfl rfl ?_
      refine h_ci2 rfl (Nat.le_of_ble_eq_true rfl) (e_rcv h.2.1) rfl (r_129z h e0 (by omega) z7) (fun σ' y hy => ?_)
      obtain ⟨rfl, hss⟩ := hy
      replace hss := hss.symm
      subst hss
      refine h_st rfl rfl ?_
      exact hX _ F v _ h (Or.inl ⟨by rw [ft], rfl, rfl, rfl, by rw [ft]; exact Prod.ext hp.symm (Prod.ext hh.symm rfl)⟩)
theorem r_128tb {b : Bool} {σ0 : ae_S} {F0 F : Nat → Nat → Int32} {c u g : Int32} (h : RS b σ0 F0 σ c u g F) {v : Nat → Nat} {L : Nat → ALn} {l : Nat} {x2 : Option Value} (hM : ML F v L) (hl : l < 24) {P : ae_S × ae_O → Prop} (hX : ∀ (σ' : ae_S) F' v' y, RS b σ0 F0 σ' c u g F' → TK F v L l y F' v' → hG ra (d + 2) 128 σ' [some (.ref 176), some (.int (nI l)), some (.int y)] [] 34 P) : hG ra (d + 2) 128 σ [some (.ref 176), some (.int (nI l)), x2] [] 61 P := by
  have e1 : (2 : Int32) * nI l + 1 = nI (2 * l + 1) := by rw [show (2 : Int32) = nI 2 from rfl, pk_mul, nI_1]
  have e0 : (2 : Int32) * nI l = nI (2 * l) := by rw [show (2 : Int32) = nI 2 from rfl, pk_mul]
  obtain ⟨⟨h1, h1'⟩, ⟨h2, h2'⟩, -⟩ := hM l hl
  cases hh : (L l).2.1 with
  | cons x t =>
    obtain ⟨f, hf, a1, a2, a3, a4, a5, a6⟩ := hM.pull (r := 2 * l + 1) hl (Or.inr ⟨rfl, hh, rfl⟩) rfl
    have ft : tk (L l).1 (L l).2.1 = (some x, (L l).1, t) := by rw [hh]; rfl
    refine h_st rfl rfl ?_
    refine h_st rfl rfl ?_
    refine h_st rfl rfl ?_
    refine h_st rfl rfl ?_
    refine h_st rfl rfl ?_
    refine h_st rfl rfl ?_
    refine h_ci2 rfl (Nat.le_of_ble_eq_true rfl) (e_rcv h.2.1) rfl (r_129w h (e1) (by omega) a2 a3 a1) (fun σ' y hy => ?_)
    obtain ⟨rfl, h'⟩ := hy
    refine h_st rfl rfl ?_
    refine h_st rfl rfl ?_
    refine h_st rfl rfl ?_
    refine h_st rfl rfl ?_
    refine h_pc (if_pos (decide_eq_true (nI_nm1 (by omega)))) ?_
    exact hX _ _ (pv v (2 * l + 1) f) _ h' (Or.inr ⟨x, f, by rw [ft], rfl, hf, a4, by rw [ft]; exact a5, fun q z1 z2 => by rw [fu_n z1, fu_n z2]⟩)
  | nil =>
    have z8 : F 198 (2 * l + 1) = 0 := by rw [h2.1, hh]; rfl
    cases hp : (L l).1 with
    | cons x t =>
      obtain ⟨f, hf, a1, a2, a3, a4, a5, a6⟩ := hM.pull (r := 2 * l) hl (Or.inl ⟨rfl, hp, rfl⟩) rfl
      have ft : tk (L l).1 (L l).2.1 = (some x, t, []) := by rw [hh, hp]; rfl
      have eA : (t, (L l).2) = (t, ([] : List AF), (L l).2.2) := by rw [← hh]
      rw [eA] at a5
      refine h_st rfl rfl ?_
      refine h_st rfl rfl ?_
      refine h_st rfl rfl ?_
      refine h_st rfl rfl ?_
      refine h_st rfl rfl ?_
      refine h_st rfl rfl ?_
      refine h_ci2 rfl (Nat.le_of_ble_eq_true rfl) (e_rcv h.2.1) rfl (r_129z h e1 (by omega) z8) (fun σ' y hy => ?_)
      obtain ⟨rfl, hss⟩ := hy
      replace hss := hss.symm
      subst hss
      refine h_st rfl rfl ?_
      refine h_st rfl rfl ?_
      refine h_st rfl rfl ?_
      refine h_st rfl rfl ?_
      refine h_pc (if_neg (by decide)) ?_
      refine h_st rfl rfl ?_
      refine h_st rfl rfl ?_
      refine h_st rfl rfl ?_
      refine h_st rfl rfl ?_
      refine h_ci2 rfl (Nat.le_of_ble_eq_true rfl) (e_rcv h.2.1) rfl (r_129w h e0 (by omega) a2 a3 a1) (fun σ' y hy => ?_)
      obtain ⟨rfl, h'⟩ := hy
      refine h_st rfl rfl ?_
      refine h_st rfl rfl ?_
      exact hX _ _ (pv v (2 * l) f) _ h' (Or.inr ⟨x, f, by rw [ft], rfl, hf, a4, by rw [ft]; exact a5, fun q z1 z2 => by rw [fu_n z1, fu_n z2]⟩)
    | nil =>
      have z7 : F 198 (2 * l) = 0 := by rw [h1.1, hp]; rfl
      have ft : tk (L l).1 (L l).2.1 = (none, [], []) := by rw [hh, hp]; rfl
      refine h_st rfl rfl ?_
      refine h_st rfl rfl ?_
      refine h_st rfl rfl ?_
      refine h_st rfl rfl ?_
      refine h_st rfl rfl ?_
      refine h_st rfl rfl ?_
      refine h_ci2 rfl (Nat.le_of_ble_eq_true rfl) (e_rcv h.2.1) rfl (r_129z h e1 (by omega) z8) (fun σ' y hy => ?_)
      obtain ⟨rfl, hss⟩ := hy
      replace hss := hss.symm
      subst hss
      refine h_st rfl rfl ?_
      refine h_st rfl rfl ?_
      refine h_st rfl rfl ?_
      refine h_st rfl rfl ?_
      refine h_pc (if_neg (by decide)) ?_
      refine h_st rfl rfl ?_
      refine h_st rfl rfl ?_
      refine h_st rfl rfl ?_
      refine h_st rfl rfl ?_
      refine h_ci2 rfl (Nat.le_of_ble_eq_true rfl) (e_rcv h.2.1) rfl (r_129z h e0 (by omega) z7) (fun σ' y hy => ?_)
      obtain ⟨rfl, hss⟩ := hy
      replace hss := hss.symm
      subst hss
      refine h_st rfl rfl ?_
      refine h_st rfl rfl ?_
      exact hX _ F v _ h (Or.inl ⟨by rw [ft], rfl, rfl, rfl, by rw [ft]; exact Prod.ext hp.symm (Prod.ext hh.symm rfl)⟩)
end SY5
