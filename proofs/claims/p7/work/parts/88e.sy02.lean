section SY2
variable {ra : ae_R} {d : Nat} {σ : ae_S}
/-- F' is F but for the bytes of frame f, which are gc -/
def Wr (F : Nat → Nat → Int32) (f : Nat) (gc : Nat → Int32) (F' : Nat → Nat → Int32) : Prop := (∀ q, q ≠ 194 → F' q = F q) ∧ (∀ i, ¬ (200 * f ≤ i ∧ i < 200 * f + 200) → F' 194 i = F 194 i) ∧ ∀ k, k < 200 → F' 194 (200 * f + k) = gc k
theorem Wr.put {F F1 : Nat → Nat → Int32} {f k : Nat} {gc : Nat → Int32} {z : Int32} (h : Wr F f gc F1) (hk : k < 200) : Wr F f (ub gc k z) (fu F1 194 (upd (F1 194) (200 * f + k) (z &&& 255))) := by
  obtain ⟨h1, h2, h3⟩ := h
  refine ⟨fun q hq => (fu_n hq).trans (h1 q hq), fun i hi => ?_, fun j hj => ?_⟩
  · rw [fu_s, pk_un (by omega)]
    exact h2 i hi
  · rw [fu_s]
    unfold ub
    by_cases c : j = k
    · rw [c, pk_us, pk_us]
    · rw [pk_un (by omega), pk_un c]
      exact h3 j hj
theorem Wr.refl {F : Nat → Nat → Int32} {f : Nat} {gc : Nat → Int32} (h : ∀ k, k < 200 → F 194 (200 * f + k) = gc k) : Wr F f gc F := ⟨fun _ _ => rfl, fun _ _ => rfl, h⟩
theorem Wr.cg {F F1 : Nat → Nat → Int32} {f : Nat} {gc gc' : Nat → Int32} (h : Wr F f gc F1) (e : ∀ k, k < 200 → gc' k = gc k) : Wr F f gc' F1 := ⟨h.1, h.2.1, fun k hk => (h.2.2 k hk).trans (e k hk).symm⟩
theorem r_105w {b : Bool} {σ0 : ae_S} {F0 F : Nat → Nat → Int32} {c u g : Int32} (h : RS b σ0 F0 σ c u g F) {Fb : Nat → Nat → Int32} {f : Nat} {gc : Nat → Int32} (hW : Wr Fb f gc F) (hf : f < 400) {k : Nat} {x y z : Int32} (ef : x = nI f) (ek : y = nI k) (hk : k < 200) : hE ra (d + 1) 105 [.ref 176, .int x, .int y, .int z] σ (pV (fun σ' => ∃ F', RS b σ0 F0 σ' c u g F' ∧ Wr Fb f (ub gc k z) F')) := by
  subst ef
  subst ek
  refine h_in rfl rfl (Nat.le_of_ble_eq_true rfl) ?_
  refine h_st rfl rfl ?_
  refine h_st rfl (e_get h.2.1 rfl) ?_
  refine h_st rfl rfl ?_
  refine h_st rfl rfl ?_
  refine h_st rfl rfl ?_
  refine h_st rfl rfl ?_
  refine h_st rfl rfl ?_
  refine h_st rfl rfl ?_
  refine h_st rfl rfl ?_
  refine h_st rfl rfl ?_
  refine r_ias rfl h m194 (fun _ => by decide) (by decide) (ix2 f k) (by omega) rfl (fun σ2 h2 => ?_)
  replace h := h2
  clear h2
  exact h_rv rfl (⟨_, rfl, _, h, hW.put hk⟩)
theorem r_104aw {b : Bool} {σ0 : ae_S} {F0 F : Nat → Nat → Int32} {c u g : Int32} (h : RS b σ0 F0 σ c u g F) {f0 : Nat} (hf0 : f0 < 400) (hu : F 196 f0 = 0) {x2 : Option Value} {P : ae_S × ae_O → Prop} (hx : ∀ j, j < 400 → F 196 j = 0 → hG ra d 104 σ [some (.ref 176), some (.int (nI j)), x2] [] 17 P) : ∀ (m j : Nat), j + m = f0 → hG ra d 104 σ [some (.ref 176), some (.int (nI j)), x2] [] 2 P := by
  intro m
  induction m with
  | zero =>
    intro j hj
    have hj : j = f0 := by omega
    subst hj
    refine h_st rfl rfl ?_
    refine h_st rfl (e_get h.2.1 rfl) ?_
    refine h_st rfl rfl ?_
    refine h_st rfl (q_ba h.a196 (rfl) (hf0) (by decide)) ?_
    refine h_st rfl rfl ?_
    refine h_pc (if_pos (decide_eq_true (hu))) ?_
    exact hx _ hf0 hu
  | succ m ih =>
    intro j hj
    have ih1 := ih (j + 1) (by omega)
    simp only [← nI_1] at ih1
    refine h_st rfl rfl ?_
    refine h_st rfl (e_get h.2.1 rfl) ?_
    refine h_st rfl rfl ?_
    refine h_st rfl (q_ba h.a196 (rfl) (show j < 400 by omega) (by decide)) ?_
    refine h_st rfl rfl ?_
    refine h_br (fun q => hx j (by omega) q) (fun _ => ?_)
    refine h_st rfl rfl ?_
    refine h_st rfl rfl ?_
    exact ih1
def zrf (F : Nat → Nat → Int32) (f j : Nat) : Nat → Int32 := fun k => if k < j then 0 else F 194 (200 * f + k)
theorem r_104bw {b : Bool} {σ0 : ae_S} {F0 Fb : Nat → Nat → Int32} {c u g : Int32} {f : Nat} (hf : f < 400) {P : ae_S × ae_O → Prop} (hx : ∀ σ F, RS b σ0 F0 σ c u g F → Wr Fb f (zrf Fb f 200) F → hG ra d 104 σ [some (.ref 176), some (.int (nI f)), some (.int (nI 200))] [] 52 P) : ∀ (m j : Nat) (σ : ae_S) (F : Nat → Nat → Int32), j + m = 200 → RS b σ0 F0 σ c u g F → Wr Fb f (zrf Fb f j) F → hG ra d 104 σ [some (.ref 176), some (.int (nI f)), some (.int (nI j))] [] 26 P := by
  intro m
  induction m with
  | zero =>
    intro j σ F hj h hW
    have hj : j = 200 := by omega
    subst hj
    refine h_st rfl rfl ?_
    refine h_st rfl rfl ?_
    refine h_st rfl rfl ?_
    refine h_pc (if_pos (decide_eq_true (nI_le (Nat.le_refl 200) (by decide)))) ?_
    exact hx _ _ h hW
  | succ m ih =>
    intro j σ F hj h hW
    have ih1 := fun σ F => ih (j + 1) σ F (by omega)
    simp only [← nI_1] at ih1
    refine h_st rfl rfl ?_
    refine h_st rfl rfl ?_
    refine h_st rfl rfl ?_
    refine h_pc (if_neg (fun z9 => (nI_ge (show j < 200 by omega) (by decide)) (of_decide_eq_true z9))) ?_
    refine h_st rfl rfl ?_
    refine h_st rfl (e_get h.2.1 rfl) ?_
    refine h_st rfl rfl ?_
    refine h_st rfl rfl ?_
    refine h_st rfl rfl ?_
    refine h_st rfl rfl ?_
    refine h_st rfl rfl ?_
    refine h_st rfl rfl ?_
    refine r_ias rfl h m194 (fun _ => by decide) (by decide) (ix2 f j) (by omega) ((rfl : (0 : Int32) = (0 &&& 255))) (fun σ2 h2 => ?_)
    replace h := h2
    clear h2
    refine h_st rfl rfl ?_
    refine h_st rfl rfl ?_
    refine ih1 _ _ h ((hW.put (z := 0) (show j < 200 by omega)).cg (fun k hk => ?_))
    unfold zrf ub
    by_cases c : k = j
    · rw [c, pk_us, if_pos (Nat.lt_succ_self _)]
      rfl
    · rw [pk_un c]
      by_cases c2 : k < j
      · rw [if_pos (by omega), if_pos c2]
      · rw [if_neg (by omega), if_neg c2]
theorem r_104w {b : Bool} {σ0 : ae_S} {F0 F : Nat → Nat → Int32} {c u g : Int32} (h : RS b σ0 F0 σ c u g F) (hfree : ∃ f0, f0 < 400 ∧ F 196 f0 = 0) : hE ra (d + 1) 104 [.ref 176] σ (pI (fun σ' v => ∃ f F', v = nI f ∧ f < 400 ∧ F 196 f = 0 ∧ RS b σ0 F0 σ' c u g F' ∧ Wr (fu F 196 (upd (F 196) f 1)) f (fun _ => 0) F')) := by
  obtain ⟨f0, hf0, hu⟩ := hfree
  refine h_in rfl rfl (Nat.le_of_ble_eq_true rfl) ?_
  refine h_st rfl rfl ?_
  refine h_st rfl rfl ?_
  refine r_104aw h hf0 hu (fun f hf huf => ?_) _ 0 (Nat.zero_add _)
  refine h_st rfl rfl ?_
  refine h_st rfl (e_get h.2.1 rfl) ?_
  refine h_st rfl rfl ?_
  refine h_st rfl rfl ?_
  refine r_bas rfl h m196 (fun _ => by decide) (by decide) (rfl) (hf) ((rfl : vp_nar .boolean 1 = 1)) (fun σ2 h2 => ?_)
  replace h := h2
  clear h2
  refine h_st rfl rfl ?_
  refine h_st rfl rfl ?_
  refine r_104bw hf (fun σ9 F9 h hW => ?_) 200 0 _ _ rfl h (Wr.refl (fun k hk => (if_neg (Nat.not_lt_zero _)).symm))
  refine h_st rfl rfl ?_
  exact h_rt rfl rfl (⟨_, _, rfl, f, _, rfl, hf, huf, h, hW.cg (fun k hk => (if_pos hk).symm)⟩)
theorem r_106lw {b : Bool} {σ0 : ae_S} {F0 F : Nat → Nat → Int32} {c u g : Int32} (h : RS b σ0 F0 σ c u g F) {f : Nat} {x : Int32} {gc : Nat → Int32} (ef : x = nI f) (hf : f < 400) (hg : ∀ k, k < 200 → F 194 (200 * f + k) = gc k) {P : ae_S × ae_O → Prop} (hx : hG ra (d + 2) 106 σ [some (.ref 176), some (.int x), some (.int (smr gc 10)), some (.int (nI 10))] [] 49 P) : ∀ (m j : Nat), j + m = 10 → hG ra (d + 2) 106 σ [some (.ref 176), some (.int x), some (.int (smr gc j)), some (.int (nI j))] [] 4 P := by
  intro m
  induction m with
  | zero =>
    intro j hj
    have hj : j = 10 := by omega
    subst hj
    refine h_st rfl rfl ?_
    refine h_st rfl rfl ?_
    refine h_st rfl rfl ?_
    refine h_pc (if_pos (decide_eq_true (nI_le (Nat.le_refl 10) (by decide)))) ?_
    exact hx
  | succ m ih =>
    intro j hj
    have ih1 := ih (j + 1) (by omega)
    rw [← nI_1] at ih1
    have ek : (14 : Int32) + 2 * nI j = nI (14 + 2 * j) := by rw [show (2 : Int32) = nI 2 from rfl, pk_mul, show (14 : Int32) = nI 14 from rfl, nI_add]
    have e1 := hg (14 + 2 * j) (by omega)
    have e2 := hg (14 + 2 * j + 1) (by omega)
    refine h_st rfl rfl ?_
    refine h_st rfl rfl ?_
    refine h_st rfl rfl ?_
    refine h_pc (if_neg (fun z9 => (nI_ge (show j < 10 by omega) (by decide)) (of_decide_eq_true z9))) ?_
    refine h_st rfl rfl ?_
    refine h_st rfl rfl ?_
    refine h_st rfl rfl ?_
    refine h_br (fun q1 => ?_) (fun q1 => ?_)
    · refine h_st rfl rfl ?_
      refine h_st rfl rfl ?_
      refine h_st rfl rfl ?_
      refine h_st rfl rfl ?_
      refine h_st rfl rfl ?_
      refine h_st rfl rfl ?_
      refine h_st rfl rfl ?_
      refine h_st rfl rfl ?_
      refine h_ci3 rfl (Nat.le_of_ble_eq_true rfl) (e_rcv h.2.1) rfl (r_107 h ef hf ek (by omega)) (fun σ' y hq => ?_)
      obtain ⟨hss, ey⟩ := hq
      replace hss := hss.symm
      subst hss
      rw [e1, e2] at ey
      subst ey
      refine h_st rfl rfl ?_
      refine h_st rfl rfl ?_
      refine h_st rfl rfl ?_
      refine h_st rfl rfl ?_
      refine h_st rfl rfl ?_
      refine h_br (fun q2 => ?_) (fun q2 => ?_)
      · refine h_st rfl rfl ?_
        refine h_st rfl rfl ?_
        rw [show smr gc (j + 1) = _ from by rw [smr, if_neg (fun z => q1 (by rw [z]; rfl)), if_pos q2]] at ih1; exact ih1
      · refine h_st rfl rfl ?_
        refine h_st rfl rfl ?_
        refine h_st rfl rfl ?_
        refine h_st rfl rfl ?_
        refine h_st rfl rfl ?_
        refine h_st rfl rfl ?_
        rw [show smr gc (j + 1) = _ from by rw [smr, if_neg (fun z => q1 (by rw [z]; rfl)), if_neg q2]] at ih1; exact ih1
    · refine h_st rfl rfl ?_
      refine h_st rfl rfl ?_
      refine h_st rfl rfl ?_
      rw [show smr gc (j + 1) = smr gc j from by rw [smr, if_pos ((nI_eq (b := 5) (by omega) (by decide)).mp (Decidable.of_not_not q1))]] at ih1; exact ih1
theorem r_106w {b : Bool} {σ0 : ae_S} {F0 F : Nat → Nat → Int32} {c u g : Int32} (h : RS b σ0 F0 σ c u g F) {f : Nat} {x : Int32} {gc : Nat → Int32} (ef : x = nI f) (hf : f < 400) (hg : ∀ k, k < 200 → F 194 (200 * f + k) = gc k) : hE ra (d + 3) 106 [.ref 176, .int x] σ (pI (fun σ' y => σ' = σ ∧ y = 65535 - smr gc 10)) := by
  refine h_in rfl rfl (Nat.le_of_ble_eq_true rfl) ?_
  refine h_st rfl rfl ?_
  refine h_st rfl rfl ?_
  refine h_st rfl rfl ?_
  refine h_st rfl rfl ?_
  refine r_106lw h ef hf hg ?_ 10 0 rfl
  refine h_st rfl rfl ?_
  refine h_st rfl rfl ?_
  refine h_st rfl rfl ?_
  exact h_rt rfl rfl (⟨_, _, rfl, rfl, rfl⟩)
theorem r_111lw {b : Bool} {σ0 : ae_S} {F0 F : Nat → Nat → Int32} {c u g : Int32} (h : RS b σ0 F0 σ c u g F) {f : Nat} {x : Int32} {gc : Nat → Int32} (ef : x = nI f) (hf : f < 400) (hg : ∀ k, k < 200 → F 194 (200 * f + k) = gc k) {sz : Nat} (hz : F 195 f = nI sz) (hz1 : 64 ≤ sz ∧ sz ≤ 200) {P : ae_S × ae_O → Prop} (hx : ∀ x4 x5, hG ra (d + 1) 111 σ [some (.ref 176), some (.int x), some (.int (crb gc (8 * (sz - 4)))), some (.int (nI (8 * (sz - 4)))), x4, x5] [] 72 P) : ∀ (m j : Nat) (x4 x5 : Option Value), j + m = 8 * (sz - 4) → hG ra (d + 1) 111 σ [some (.ref 176), some (.int x), some (.int (crb gc j)), some (.int (nI j)), x4, x5] [] 4 P := by
  have ez : (8 : Int32) * (F 195 f - 4) = nI (8 * (sz - 4)) := by rw [hz, show (4 : Int32) = nI 4 from rfl, pk_sub (by omega), show (8 : Int32) = nI 8 from rfl, pk_mul]
  intro m
  induction m with
  | zero =>
    intro j x4 x5 hj
    have hj : j = 8 * (sz - 4) := by omega
    subst hj
    refine h_st rfl rfl ?_
    refine h_st rfl rfl ?_
    refine h_st rfl rfl ?_
    refine h_st rfl (e_get h.2.1 rfl) ?_
    refine h_st rfl rfl ?_
    refine h_st rfl (q_ia h.a195 (ef) (hf) (by decide)) ?_
    refine h_st rfl rfl ?_
    refine h_st rfl rfl ?_
    refine h_st rfl rfl ?_
    refine h_st rfl rfl ?_
    refine h_pc (if_pos (decide_eq_true (show (8 : Int32) * (F 195 f - 4) ≤ nI (8 * (sz - 4)) from by rw [ez]; exact nI_le (Nat.le_refl _) (by omega)))) ?_
    exact hx _ _
  | succ m ih =>
    intro j x4 x5 hj
    have ih1 := fun x4 x5 => ih (j + 1) x4 x5 (by omega)
    simp only [← nI_1] at ih1
    have ed : nI j / 8 = nI (j / 8) := pk_div (a := j) (d := 8) (by omega) (by decide) (by decide)
    have er : nI j - nI j / 8 * 8 = nI (j % 8) := pk_rem (a := j) (d := 8) (by omega) (by decide) (by decide)
    have e1 := hg (j / 8) (by omega)
    have ebt : (gc (j / 8) >>> ((nI j - nI j / 8 * 8) &&& 31)) &&& 1 = (gc (j / 8) >>> (nI (j % 8) &&& 31)) &&& 1 := by rw [er]
    refine h_st rfl rfl ?_
    refine h_st rfl rfl ?_
    refine h_st rfl rfl ?_
    refine h_st rfl (e_get h.2.1 rfl) ?_
    refine h_st rfl rfl ?_
    refine h_st rfl (q_ia h.a195 (ef) (hf) (by decide)) ?_
    refine h_st rfl rfl ?_
    refine h_st rfl rfl ?_
    refine h_st rfl rfl ?_
    refine h_st rfl rfl ?_
    refine h_pc (if_neg (fun z9 => (show ¬ (8 : Int32) * (F 195 f - 4) ≤ nI j from by rw [ez]; exact nI_ge (show j < 8 * (sz - 4) by omega) (by omega)) (of_decide_eq_true z9))) ?_
    refine h_st rfl rfl ?_
    refine h_st rfl rfl ?_
    refine h_st rfl rfl ?_
    refine h_st rfl rfl ?_
    refine h_st rfl (e_dv (by decide)) ?_
    refine h_ci3 rfl (Nat.le_of_ble_eq_true rfl) (e_rcv h.2.1) rfl (r_108 h ef hf ed (by omega)) (fun σ' y hq => ?_)
    obtain ⟨hss, ey⟩ := hq
    replace hss := hss.symm
    subst hss
    rw [e1] at ey
    subst ey
    refine h_st rfl rfl ?_
    refine h_st rfl rfl ?_
    refine h_st rfl (e_dv (by decide)) ?_
    refine h_st rfl rfl ?_
    refine h_st rfl rfl ?_
    refine h_st rfl rfl ?_
    refine h_st rfl rfl ?_
    refine h_st rfl rfl ?_
    refine h_st rfl rfl ?_
    refine h_st rfl rfl ?_
    refine h_st rfl rfl ?_
    refine h_st rfl rfl ?_
    refine h_br (fun q1 => ?_) (fun q1 => ?_)
    · refine h_st rfl rfl ?_
      refine h_st rfl rfl ?_
      refine h_st rfl rfl ?_
      refine h_st rfl rfl ?_
      refine h_st rfl rfl ?_
      refine h_st rfl rfl ?_
      refine h_st rfl rfl ?_
      refine h_st rfl rfl ?_
      refine h_pc (if_pos (by decide)) ?_
      refine h_st rfl rfl ?_
      refine h_st rfl rfl ?_
      have eb : crb gc (j + 1) = ((crb gc j).toUInt32 >>> ((1 : Int32).toUInt32 &&& Int32.toUInt32 31)).toInt32 := (by rw [crb]; unfold bst; rw [if_pos (by rw [← ebt]; exact q1)]); rw [eb] at ih1; exact ih1 _ _
    · refine h_st rfl rfl ?_
      refine h_st rfl rfl ?_
      refine h_st rfl rfl ?_
      refine h_st rfl rfl ?_
      refine h_st rfl rfl ?_
      refine h_st rfl rfl ?_
      refine h_st rfl rfl ?_
      refine h_st rfl rfl ?_
      refine h_st rfl rfl ?_
      refine h_pc (if_neg (by decide)) ?_
      refine h_st rfl rfl ?_
      refine h_st rfl rfl ?_
      refine h_st rfl rfl ?_
      refine h_st rfl rfl ?_
      refine h_st rfl rfl ?_
      refine h_st rfl rfl ?_
      have eb : crb gc (j + 1) = ((crb gc j).toUInt32 >>> ((1 : Int32).toUInt32 &&& Int32.toUInt32 31)).toInt32 ^^^ (-306674912) := (by rw [crb]; unfold bst; rw [if_neg (by rw [← ebt]; exact q1)]); rw [eb] at ih1; exact ih1 _ _
theorem r_111w {b : Bool} {σ0 : ae_S} {F0 F : Nat → Nat → Int32} {c u g : Int32} (h : RS b σ0 F0 σ c u g F) {f : Nat} {x : Int32} {gc : Nat → Int32} (ef : x = nI f) (hf : f < 400) (hg : ∀ k, k < 200 → F 194 (200 * f + k) = gc k) {sz : Nat} (hz : F 195 f = nI sz) (hz1 : 64 ≤ sz ∧ sz ≤ 200) : hE ra (d + 2) 111 [.ref 176, .int x] σ (pI (fun σ' y => σ' = σ ∧ y = crb gc (8 * (sz - 4)) ^^^ -1)) := by
  refine h_in rfl rfl (Nat.le_of_ble_eq_true rfl) ?_
  refine h_st rfl rfl ?_
  refine h_st rfl rfl ?_
  refine h_st rfl rfl ?_
  refine h_st rfl rfl ?_
  refine r_111lw h ef hf hg hz hz1 (fun x4 x5 => ?_) _ 0 _ _ (Nat.zero_add _)
  refine h_st rfl rfl ?_
  refine h_st rfl rfl ?_
  refine h_st rfl rfl ?_
  exact h_rt rfl rfl (⟨_, _, rfl, rfl, rfl⟩)
theorem r_118lw {b : Bool} {σ0 : ae_S} {F0 F : Nat → Nat → Int32} {c u g : Int32} (h : RS b σ0 F0 σ c u g F) {f : Nat} {x : Int32} {gc : Nat → Int32} (ef : x = nI f) (hf : f < 400) (hg : ∀ k, k < 200 → F 194 (200 * f + k) = gc k) {sz : Nat} (hz : F 195 f = nI sz) (hz1 : 64 ≤ sz ∧ sz ≤ 200) {x2 : Int32} {P : ae_S × ae_O → Prop} (hx : ∀ x3 : Int32, ((x3 = 1 ∧ ∀ i, i < 4 → gc (sz - 4 + i) = (x2 >>> ((8 * nI i) &&& 31)) &&& 255) ∨ (x3 = 0 ∧ ¬ ∀ i, i < 4 → gc (sz - 4 + i) = (x2 >>> ((8 * nI i) &&& 31)) &&& 255)) → hG ra (d + 1) 118 σ [some (.ref 176), some (.int x), some (.int x2), some (.int x3), some (.int (nI 4))] [] 63 P) : ∀ (m j : Nat) (x3 : Int32), ((x3 = 1 ∧ ∀ i, i < j → gc (sz - 4 + i) = (x2 >>> ((8 * nI i) &&& 31)) &&& 255) ∨ (x3 = 0 ∧ ¬ ∀ i, i < j → gc (sz - 4 + i) = (x2 >>> ((8 * nI i) &&& 31)) &&& 255)) → j + m = 4 → hG ra (d + 1) 118 σ [some (.ref 176), some (.int x), some (.int x2), some (.int x3), some (.int (nI j))] [] 11 P := by
  intro m
  induction m with
  | zero =>
    intro j x3 hb hj
    have hj : j = 4 := by omega
    subst hj
    refine h_st rfl rfl ?_
    refine h_st rfl rfl ?_
    refine h_st rfl rfl ?_
    refine h_pc (if_pos (decide_eq_true (nI_le (Nat.le_refl 4) (by decide)))) ?_
    exact hx _ hb
  | succ m ih =>
    intro j x3 hb hj
    have ih1 := fun x3 hb => ih (j + 1) x3 hb (by omega)
    simp only [← nI_1] at ih1
    have ek : F 195 f - 4 + nI j = nI (sz - 4 + j) := by rw [hz, show (4 : Int32) = nI 4 from rfl, pk_sub (by omega), nI_add]
    have e1 := hg (sz - 4 + j) (by omega)
    refine h_st rfl rfl ?_
    refine h_st rfl rfl ?_
    refine h_st rfl rfl ?_
    refine h_pc (if_neg (fun z9 => (nI_ge (show j < 4 by omega) (by decide)) (of_decide_eq_true z9))) ?_
    refine h_st rfl rfl ?_
    refine h_st rfl rfl ?_
    refine h_br (fun q1 => ?_) (fun q1 => ?_)
    · refine h_st rfl rfl ?_
      refine h_st rfl rfl ?_
      refine h_st rfl rfl ?_
      refine h_st rfl rfl ?_
      exact ih1 _ (Or.inr ⟨rfl, fun z => hb.elim (fun y => absurd (y.1.symm.trans q1) (by decide)) (fun y => y.2 (fun i hi => z i (by omega)))⟩)
    · refine h_st rfl rfl ?_
      refine h_st rfl rfl ?_
      refine h_st rfl rfl ?_
      refine h_st rfl (e_get h.2.1 rfl) ?_
      refine h_st rfl rfl ?_
      refine h_st rfl (q_ia h.a195 (ef) (hf) (by decide)) ?_
      refine h_st rfl rfl ?_
      refine h_st rfl rfl ?_
      refine h_st rfl rfl ?_
      refine h_st rfl rfl ?_
      refine h_ci3 rfl (Nat.le_of_ble_eq_true rfl) (e_rcv h.2.1) rfl (r_108 h ef hf ek (by omega)) (fun σ' y hq => ?_)
      obtain ⟨hss, ey⟩ := hq
      replace hss := hss.symm
      subst hss
      rw [e1] at ey
      subst ey
      refine h_st rfl rfl ?_
      refine h_st rfl rfl ?_
      refine h_st rfl rfl ?_
      refine h_st rfl rfl ?_
      refine h_st rfl rfl ?_
      refine h_st rfl rfl ?_
      refine h_st rfl rfl ?_
      refine h_st rfl rfl ?_
      refine h_br (fun q2 => ?_) (fun q2 => ?_)
      · refine h_st rfl rfl ?_
        refine h_st rfl rfl ?_
        refine h_st rfl rfl ?_
        refine h_st rfl rfl ?_
        exact ih1 _ (Or.inr ⟨rfl, fun z => q2 (z j (by omega))⟩)
      · refine h_st rfl rfl ?_
        refine h_st rfl rfl ?_
        refine h_st rfl rfl ?_
        refine h_st rfl rfl ?_
        refine h_st rfl rfl ?_
        exact ih1 _ (Or.inl ⟨rfl, fun i hi => by rcases Nat.lt_succ_iff_lt_or_eq.mp hi with z | z; exact (hb.elim (fun y => y.2) (fun y => absurd y.1 q1)) i z; rw [z]; exact Decidable.of_not_not q2⟩)
theorem r_118w {b : Bool} {σ0 : ae_S} {F0 F : Nat → Nat → Int32} {c u g : Int32} (h : RS b σ0 F0 σ c u g F) {f : Nat} {x : Int32} {gc : Nat → Int32} (ef : x = nI f) (hf : f < 400) (hg : ∀ k, k < 200 → F 194 (200 * f + k) = gc k) {sz : Nat} (hz : F 195 f = nI sz) (hz1 : 64 ≤ sz ∧ sz ≤ 200) (hby : byt gc 200) : hE ra (d + 3) 118 [.ref 176, .int x] σ (pI (fun σ' y => σ' = σ ∧ ((y = 1 ∧ okc sz gc) ∨ (y = 0 ∧ ¬ okc sz gc)))) := by
  have ec : crb gc (8 * (sz - 4)) ^^^ -1 = chk sz gc := by unfold chk; rw [crc_eq (n := 200) hby (sz - 4) (by omega)]
  refine h_in rfl rfl (Nat.le_of_ble_eq_true rfl) ?_
  refine h_st rfl rfl ?_
  refine h_st rfl rfl ?_
  refine h_ci2 rfl (Nat.le_of_ble_eq_true rfl) (e_rcv h.2.1) rfl (r_111w h ef hf hg hz hz1) (fun σ' y hq => ?_)
  obtain ⟨hss, ey⟩ := hq
  replace hss := hss.symm
  subst hss
  rw [ec] at ey
  subst ey
  refine h_st rfl rfl ?_
  refine h_st rfl rfl ?_
  refine h_st rfl rfl ?_
  refine h_st rfl rfl ?_
  refine h_st rfl rfl ?_
  refine r_118lw h ef hf hg hz hz1 (fun x3 hb => ?_) 4 0 _ (Or.inl ⟨rfl, fun i hi => absurd hi (Nat.not_lt_zero _)⟩) rfl
  refine h_st rfl rfl ?_
  exact h_rt rfl (hb.elim (fun z => by rw [z.1]; rfl) (fun z => by rw [z.1]; rfl)) (⟨_, _, rfl, rfl, hb⟩)
theorem r_110lw {b : Bool} {σ0 : ae_S} {F0 Fb : Nat → Nat → Int32} {c u g : Int32} {f sz : Nat} {gc : Nat → Int32} {x y x3 : Int32} (ef : x = nI f) (hf : f < 400) (hz : Fb 195 f = nI sz) (hz1 : 64 ≤ sz ∧ sz ≤ 200) : ∀ (m j : Nat) (σ : ae_S) (F : Nat → Nat → Int32), j + m = 4 → RS b σ0 F0 σ c u g F → Wr Fb f (cks sz x3 gc j) F → hG ra (d + 1) 110 σ [some (.ref 176), some (.int x), some (.int y), some (.int x3), some (.int (nI j))] [] 23 (pV (fun σ' => ∃ F', RS b σ0 F0 σ' c u g F' ∧ Wr Fb f (cks sz x3 gc 4) F')) := by
  intro m
  induction m with
  | zero =>
    intro j σ F hj h hW
    have hj : j = 4 := by omega
    subst hj
    refine h_st rfl rfl ?_
    refine h_st rfl rfl ?_
    refine h_st rfl rfl ?_
    refine h_pc (if_pos (decide_eq_true (nI_le (Nat.le_refl 4) (by decide)))) ?_
    exact h_rv rfl (⟨_, rfl, _, h, hW⟩)
  | succ m ih =>
    intro j σ F hj h hW
    have ih1 := fun σ F => ih (j + 1) σ F (by omega)
    simp only [← nI_1] at ih1
    have ek : F 195 f - 4 + nI j = nI (sz - 4 + j) := by rw [hW.1 195 (by decide), hz, show (4 : Int32) = nI 4 from rfl, pk_sub (by omega), nI_add]
    refine h_st rfl rfl ?_
    refine h_st rfl rfl ?_
    refine h_st rfl rfl ?_
    refine h_pc (if_neg (fun z9 => (nI_ge (show j < 4 by omega) (by decide)) (of_decide_eq_true z9))) ?_
    refine h_st rfl rfl ?_
    refine h_st rfl rfl ?_
    refine h_st rfl rfl ?_
    refine h_st rfl (e_get h.2.1 rfl) ?_
    refine h_st rfl rfl ?_
    refine h_st rfl (q_ia h.a195 (ef) (hf) (by decide)) ?_
    refine h_st rfl rfl ?_
    refine h_st rfl rfl ?_
    refine h_st rfl rfl ?_
    refine h_st rfl rfl ?_
    refine h_st rfl rfl ?_
    refine h_st rfl rfl ?_
    refine h_st rfl rfl ?_
    refine h_st rfl rfl ?_
    refine h_st rfl rfl ?_
    refine h_cv4 rfl (Nat.le_of_ble_eq_true rfl) (e_rcv h.2.1) rfl (r_105w h hW hf ef ek (by omega)) (fun σ2 hq => ?_)
    obtain ⟨F2, h2, hW2⟩ := hq
    refine h_st rfl rfl ?_
    refine h_st rfl rfl ?_
    exact ih1 _ _ h2 hW2
theorem r_110w {b : Bool} {σ0 : ae_S} {F0 F : Nat → Nat → Int32} {c u g : Int32} (h : RS b σ0 F0 σ c u g F) {Fb : Nat → Nat → Int32} {f : Nat} {gc : Nat → Int32} (hW : Wr Fb f gc F) (hf : f < 400) {sz : Nat} {x : Int32} (ef : x = nI f) (hz : Fb 195 f = nI sz) (hz1 : 64 ≤ sz ∧ sz ≤ 200) (y : Int32) (hby : byt (ub gc (sz - 5) y) 200) : hE ra (d + 3) 110 [.ref 176, .int x, .int y] σ (pV (fun σ' => ∃ F', RS b σ0 F0 σ' c u g F' ∧ Wr Fb f (cks sz (chk sz (ub gc (sz - 5) y)) (ub gc (sz - 5) y) 4) F')) := by
  have ek : F 195 f - 5 = nI (sz - 5) := by rw [hW.1 195 (by decide), hz, show (5 : Int32) = nI 5 from rfl, pk_sub (by omega)]
  have ec : crb (ub gc (sz - 5) y) (8 * (sz - 4)) ^^^ -1 = chk sz (ub gc (sz - 5) y) := by unfold chk; rw [crc_eq (n := 200) hby (sz - 4) (by omega)]
  refine h_in rfl rfl (Nat.le_of_ble_eq_true rfl) ?_
  refine h_st rfl rfl ?_
  refine h_st rfl rfl ?_
  refine h_st rfl rfl ?_
  refine h_st rfl (e_get h.2.1 rfl) ?_
  refine h_st rfl rfl ?_
  refine h_st rfl (q_ia h.a195 (ef) (hf) (by decide)) ?_
  refine h_st rfl rfl ?_
  refine h_st rfl rfl ?_
  refine h_st rfl rfl ?_
  refine h_cv4 rfl (Nat.le_of_ble_eq_true rfl) (e_rcv h.2.1) rfl (r_105w h hW hf ef ek (by omega)) (fun σ2 hq => ?_)
  obtain ⟨F2, h2, hW2⟩ := hq
  refine h_st rfl rfl ?_
  refine h_st rfl rfl ?_
  refine h_ci2 rfl (Nat.le_of_ble_eq_true rfl) (e_rcv h2.2.1) rfl (r_111w h2 ef hf hW2.2.2 ((congrFun (hW2.1 195 (by decide)) f).trans hz) hz1) (fun σ' y9 hq => ?_)
  obtain ⟨hss, ey⟩ := hq
  replace hss := hss.symm
  subst hss
  rw [ec] at ey
  subst ey
  refine h_st rfl rfl ?_
  refine h_st rfl rfl ?_
  refine h_st rfl rfl ?_
  exact r_110lw ef hf hz hz1 4 0 _ _ rfl h2 hW2
end SY2
