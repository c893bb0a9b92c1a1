section RF3
variable {ra : ae_R} {d : Nat} {σ : ae_S}
theorem r_105 {b : Bool} {σ0 : ae_S} {F0 F : Nat → Nat → Int32} {c u g : Int32} (h : RS b σ0 F0 σ c u g F) (hB : GB (F 194)) {f k : Nat} {x y z : Int32} (ef : x = nI f) (hf : f < 400) (ek : y = nI k) (hk : k < 200) : hE ra (d + 1) 105 [.ref 176, .int x, .int y, .int z] σ (pV (fun σ' => ∃ F', RS b σ0 F0 σ' c u g F' ∧ GB (F' 194) ∧ ∀ q, q ≠ 194 → F' q = F q)) := by
  subst ef
  subst ek
  refine h_in rfl rfl (Nat.le_of_ble_eq_true rfl) ?_
  refine h_st rfl rfl ?_
  refine h_st rfl (e_get h.2.1 rfl) ?_
  refine h_st rfl rfl ?_
  refine h_st rfl rfl ?_
  refine h_st rfl rfl ?_
  refine h_st rfl rfl ?_
  refine h_st rfl rfl ?_
  refine h_st rfl rfl ?_
  refine h_st rfl rfl ?_
  refine h_st rfl rfl ?_
  refine r_ias rfl h m194 (fun _ => by decide) (by decide) (ix2 f k) (by omega) (rfl) (fun σ2 h2 => ?_)
  replace h := h2
  clear h2
  exact h_rv rfl (⟨_, rfl, _, h, hB.upd (rg_and z), fun q hq => fu_n hq⟩)
theorem r_104a {b : Bool} {σ0 : ae_S} {F0 F : Nat → Nat → Int32} {c u g : Int32} (h : RS b σ0 F0 σ c u g F) {f0 : Nat} (hf0 : f0 < 400) (hu : F 196 f0 = 0) {x2 : Option Value} {P : ae_S × ae_O → Prop} (hx : ∀ j, j < 400 → hG ra d 104 σ [some (.ref 176), some (.int (nI j)), x2] [] 17 P) : ∀ (m j : Nat), j + m = f0 → hG ra d 104 σ [some (.ref 176), some (.int (nI j)), x2] [] 2 P := by
  intro m
  induction m with
  | zero =>
    intro j hj
    have hj : j = f0 := by omega
    subst hj
    refine h_st rfl rfl ?_
    refine h_st rfl (e_get h.2.1 rfl) ?_
    refine h_st rfl rfl ?_
    refine h_st rfl (q_ba h.a196 (rfl) (hf0) (by decide)) ?_
    refine h_st rfl rfl ?_
    refine h_pc (if_pos (decide_eq_true (hu))) ?_
    exact hx _ hf0
  | succ m ih =>
    intro j hj
    have ih1 := ih (j + 1) (by omega)
    simp only [← nI_1] at ih1
    refine h_st rfl rfl ?_
    refine h_st rfl (e_get h.2.1 rfl) ?_
    refine h_st rfl rfl ?_
    refine h_st rfl (q_ba h.a196 (rfl) (show j < 400 by omega) (by decide)) ?_
    refine h_st rfl rfl ?_
    refine h_br (fun _ => hx j (by omega)) (fun _ => ?_)
    refine h_st rfl rfl ?_
    refine h_st rfl rfl ?_
    exact ih1
theorem r_104b {b : Bool} {σ0 : ae_S} {F0 F : Nat → Nat → Int32} {c u g : Int32} {f : Nat} (hf : f < 400) {P : ae_S × ae_O → Prop} (hx : ∀ σ fb, RS b σ0 F0 σ c u g (fu F 194 fb) → GB fb → hG ra d 104 σ [some (.ref 176), some (.int (nI f)), some (.int (nI 200))] [] 52 P) : ∀ (m j : Nat) (σ : ae_S) (fb : Nat → Int32), j + m = 200 → RS b σ0 F0 σ c u g (fu F 194 fb) → GB fb → hG ra d 104 σ [some (.ref 176), some (.int (nI f)), some (.int (nI j))] [] 26 P := by
  intro m
  induction m with
  | zero =>
    intro j σ fb hj h hb
    have hj : j = 200 := by omega
    subst hj
    refine h_st rfl rfl ?_
    refine h_st rfl rfl ?_
    refine h_st rfl rfl ?_
    refine h_pc (if_pos (decide_eq_true (nI_le (Nat.le_refl 200) (by decide)))) ?_
    exact hx _ _ h hb
  | succ m ih =>
    intro j σ fb hj h hb
    have ih1 := fun σ fb => ih (j + 1) σ fb (by omega)
    simp only [← nI_1] at ih1
    refine h_st rfl rfl ?_
    refine h_st rfl rfl ?_
    refine h_st rfl rfl ?_
    refine h_pc (if_neg (fun z9 => (nI_ge (show j < 200 by omega) (by decide)) (of_decide_eq_true z9))) ?_
    refine h_st rfl rfl ?_
    refine h_st rfl (e_get h.2.1 rfl) ?_
    refine h_st rfl rfl ?_
    refine h_st rfl rfl ?_
    refine h_st rfl rfl ?_
    refine h_st rfl rfl ?_
    refine h_st rfl rfl ?_
    refine h_st rfl rfl ?_
    refine r_ias rfl h m194 (fun _ => by decide) (by decide) (ix2 f j) (by omega) (rfl) (fun σ2 h2 => ?_)
    replace h := h2
    clear h2
    rw [fu_fu] at h
    refine h_st rfl rfl ?_
    refine h_st rfl rfl ?_
    exact ih1 _ _ h (hb.upd ⟨0, by decide, rfl⟩)
theorem r_104 {b : Bool} {σ0 : ae_S} {F0 F : Nat → Nat → Int32} {c u g : Int32} (h : RS b σ0 F0 σ c u g F) {a e : List Nat} (hP : RP F g a e) (he : e.length ≤ 100) : hE ra (d + 1) 104 [.ref 176] σ (pI (fun σ' v => ∃ f F', v = nI f ∧ f < 400 ∧ RS b σ0 F0 σ' c u g F' ∧ RP F' g a (f :: e) ∧ ∀ q, q ≠ 194 → q ≠ 196 → F' q = F q)) := by
  obtain ⟨f0, hf0, hu⟩ := hP.2.2.2.1.some he
  refine h_in rfl rfl (Nat.le_of_ble_eq_true rfl) ?_
  refine h_st rfl rfl ?_
  refine h_st rfl rfl ?_
  refine r_104a h hf0 hu (fun f hf => ?_) _ 0 (Nat.zero_add _)
  refine h_st rfl rfl ?_
  refine h_st rfl (e_get h.2.1 rfl) ?_
  refine h_st rfl rfl ?_
  refine h_st rfl rfl ?_
  refine r_bas rfl h m196 (fun _ => by decide) (by decide) (rfl) (hf) (rfl) (fun σ2 h2 => ?_)
  replace h := h2
  clear h2
  replace hP := hP.n6 (hP.2.2.2.1.take (f := f) (vp_nar .boolean 1))
  have hag : ∀ q, q ≠ 194 → q ≠ 196 → fu F 196 (upd (F 196) f (vp_nar .boolean 1)) q = F q := fun q _ z => fu_n z
  have hB := hP.2.2.1
  rw [← fu_self (fu F 196 (upd (F 196) f (vp_nar .boolean 1))) 194] at h
  refine h_st rfl rfl ?_
  refine h_st rfl rfl ?_
  refine r_104b hf (fun σ9 fb h hb => ?_) 200 0 _ _ rfl h hB
  refine h_st rfl rfl ?_
  exact h_rt rfl rfl (⟨_, _, rfl, f, _, rfl, hf, h, hP.b hb, fun q z1 z2 => (fu_n z1).trans (hag q z1 z2)⟩)
theorem r_103c {b : Bool} {σ0 : ae_S} {F0 F Fx : Nat → Nat → Int32} {c u g : Int32} (h : RS b σ0 F0 σ c u g F) {a e : List Nat} {x1 x2 x3 x4 x5 x6 x7 : Int32} {f : Nat} (hf : f < 400) (hP : RP F g (f :: a) (f :: e)) (hag : ∀ q, q < 194 ∨ 196 < q → F q = Fx q) {x9 : Option Value} : hG ra (d + 3) 103 σ [some (.ref 176), some (.int x1), some (.int x2), some (.int x3), some (.int x4), some (.int x5), some (.int x6), some (.int x7), some (.int (nI f)), x9] [] 179 (pI (fun σ' v => ∃ f F', v = nI f ∧ f < 400 ∧ RS b σ0 F0 σ' c u g F' ∧ RP F' g (f :: a) (f :: e) ∧ ∀ q, q < 194 ∨ 196 < q → F' q = Fx q)) := by
  refine h_st rfl rfl ?_
  refine h_st rfl rfl ?_
  refine h_st rfl rfl ?_
  refine h_st rfl rfl ?_
  refine h_st rfl rfl ?_
  refine h_st rfl (e_dv (by decide)) ?_
  refine h_cv4 rfl (Nat.le_of_ble_eq_true rfl) (e_rcv h.2.1) rfl (r_105 h hP.2.2.1 rfl hf (rfl : (21 : Int32) = nI 21) (by decide)) (fun σ2 hq => ?_)
  obtain ⟨F2, h2, hB2, ag2⟩ := hq
  replace hP := hP.bg hB2 ag2
  replace hag := fun q hq => (ag2 q (by omega)).trans (hag q hq)
  replace h := h2
  clear h2 hB2 ag2
  refine h_st rfl rfl ?_
  refine h_st rfl rfl ?_
  refine h_st rfl rfl ?_
  refine h_st rfl rfl ?_
  refine h_cv4 rfl (Nat.le_of_ble_eq_true rfl) (e_rcv h.2.1) rfl (r_105 h hP.2.2.1 rfl hf (rfl : (22 : Int32) = nI 22) (by decide)) (fun σ2 hq => ?_)
  obtain ⟨F2, h2, hB2, ag2⟩ := hq
  replace hP := hP.bg hB2 ag2
  replace hag := fun q hq => (ag2 q (by omega)).trans (hag q hq)
  replace h := h2
  clear h2 hB2 ag2
  refine h_st rfl rfl ?_
  refine h_st rfl rfl ?_
  refine h_st rfl rfl ?_
  refine h_st rfl rfl ?_
  refine h_cv4 rfl (Nat.le_of_ble_eq_true rfl) (e_rcv h.2.1) rfl (r_105 h hP.2.2.1 rfl hf (rfl : (23 : Int32) = nI 23) (by decide)) (fun σ2 hq => ?_)
  obtain ⟨F2, h2, hB2, ag2⟩ := hq
  replace hP := hP.bg hB2 ag2
  replace hag := fun q hq => (ag2 q (by omega)).trans (hag q hq)
  replace h := h2
  clear h2 hB2 ag2
  refine h_st rfl rfl ?_
  refine h_st rfl rfl ?_
  refine h_st rfl rfl ?_
  refine h_st rfl rfl ?_
  refine h_cv4 rfl (Nat.le_of_ble_eq_true rfl) (e_rcv h.2.1) rfl (r_105 h hP.2.2.1 rfl hf (rfl : (26 : Int32) = nI 26) (by decide)) (fun σ2 hq => ?_)
  obtain ⟨F2, h2, hB2, ag2⟩ := hq
  replace hP := hP.bg hB2 ag2
  replace hag := fun q hq => (ag2 q (by omega)).trans (hag q hq)
  replace h := h2
  clear h2 hB2 ag2
  refine h_st rfl rfl ?_
  refine h_st rfl rfl ?_
  refine h_st rfl rfl ?_
  refine h_st rfl rfl ?_
  refine h_cv4 rfl (Nat.le_of_ble_eq_true rfl) (e_rcv h.2.1) rfl (r_105 h hP.2.2.1 rfl hf (rfl : (27 : Int32) = nI 27) (by decide)) (fun σ2 hq => ?_)
  obtain ⟨F2, h2, hB2, ag2⟩ := hq
  replace hP := hP.bg hB2 ag2
  replace hag := fun q hq => (ag2 q (by omega)).trans (hag q hq)
  replace h := h2
  clear h2 hB2 ag2
  refine h_st rfl rfl ?_
  refine h_st rfl rfl ?_
  refine h_st rfl rfl ?_
  refine h_st rfl rfl ?_
  refine h_cv4 rfl (Nat.le_of_ble_eq_true rfl) (e_rcv h.2.1) rfl (r_105 h hP.2.2.1 rfl hf (rfl : (28 : Int32) = nI 28) (by decide)) (fun σ2 hq => ?_)
  obtain ⟨F2, h2, hB2, ag2⟩ := hq
  replace hP := hP.bg hB2 ag2
  replace hag := fun q hq => (ag2 q (by omega)).trans (hag q hq)
  replace h := h2
  clear h2 hB2 ag2
  refine h_st rfl rfl ?_
  refine h_st rfl rfl ?_
  refine h_st rfl rfl ?_
  refine h_st rfl rfl ?_
  refine h_cv4 rfl (Nat.le_of_ble_eq_true rfl) (e_rcv h.2.1) rfl (r_105 h hP.2.2.1 rfl hf (rfl : (29 : Int32) = nI 29) (by decide)) (fun σ2 hq => ?_)
  obtain ⟨F2, h2, hB2, ag2⟩ := hq
  replace hP := hP.bg hB2 ag2
  replace hag := fun q hq => (ag2 q (by omega)).trans (hag q hq)
  replace h := h2
  clear h2 hB2 ag2
  refine h_st rfl rfl ?_
  refine h_st rfl rfl ?_
  refine h_st rfl rfl ?_
  refine h_st rfl rfl ?_
  refine h_cv4 rfl (Nat.le_of_ble_eq_true rfl) (e_rcv h.2.1) rfl (r_105 h hP.2.2.1 rfl hf (rfl : (30 : Int32) = nI 30) (by decide)) (fun σ2 hq => ?_)
  obtain ⟨F2, h2, hB2, ag2⟩ := hq
  replace hP := hP.bg hB2 ag2
  replace hag := fun q hq => (ag2 q (by omega)).trans (hag q hq)
  replace h := h2
  clear h2 hB2 ag2
  refine h_st rfl rfl ?_
  refine h_st rfl rfl ?_
  refine h_st rfl rfl ?_
  refine h_st rfl rfl ?_
  refine h_cv4 rfl (Nat.le_of_ble_eq_true rfl) (e_rcv h.2.1) rfl (r_105 h hP.2.2.1 rfl hf (rfl : (31 : Int32) = nI 31) (by decide)) (fun σ2 hq => ?_)
  obtain ⟨F2, h2, hB2, ag2⟩ := hq
  replace hP := hP.bg hB2 ag2
  replace hag := fun q hq => (ag2 q (by omega)).trans (hag q hq)
  replace h := h2
  clear h2 hB2 ag2
  refine h_st rfl rfl ?_
  refine h_st rfl rfl ?_
  refine h_st rfl rfl ?_
  refine h_st rfl rfl ?_
  refine h_cv4 rfl (Nat.le_of_ble_eq_true rfl) (e_rcv h.2.1) rfl (r_105 h hP.2.2.1 rfl hf (rfl : (33 : Int32) = nI 33) (by decide)) (fun σ2 hq => ?_)
  obtain ⟨F2, h2, hB2, ag2⟩ := hq
  replace hP := hP.bg hB2 ag2
  replace hag := fun q hq => (ag2 q (by omega)).trans (hag q hq)
  replace h := h2
  clear h2 hB2 ag2
  refine h_st rfl rfl ?_
  refine h_st rfl rfl ?_
  refine h_ci2 rfl (Nat.le_of_ble_eq_true rfl) (e_rcv h.2.1) rfl (r_106 h rfl hf) (fun σ' y hq => ?_)
  replace hq := hq.symm
  subst hq
  refine h_st rfl rfl ?_
  refine h_st rfl rfl ?_
  refine h_st rfl rfl ?_
  refine h_st rfl rfl ?_
  refine h_st rfl rfl ?_
  refine h_st rfl rfl ?_
  refine h_st rfl (e_dv (by decide)) ?_
  refine h_cv4 rfl (Nat.le_of_ble_eq_true rfl) (e_rcv h.2.1) rfl (r_105 h hP.2.2.1 rfl hf (rfl : (24 : Int32) = nI 24) (by decide)) (fun σ2 hq => ?_)
  obtain ⟨F2, h2, hB2, ag2⟩ := hq
  replace hP := hP.bg hB2 ag2
  replace hag := fun q hq => (ag2 q (by omega)).trans (hag q hq)
  replace h := h2
  clear h2 hB2 ag2
  refine h_st rfl rfl ?_
  refine h_st rfl rfl ?_
  refine h_st rfl rfl ?_
  refine h_st rfl rfl ?_
  refine h_cv4 rfl (Nat.le_of_ble_eq_true rfl) (e_rcv h.2.1) rfl (r_105 h hP.2.2.1 rfl hf (rfl : (25 : Int32) = nI 25) (by decide)) (fun σ2 hq => ?_)
  obtain ⟨F2, h2, hB2, ag2⟩ := hq
  replace hP := hP.bg hB2 ag2
  replace hag := fun q hq => (ag2 q (by omega)).trans (hag q hq)
  replace h := h2
  clear h2 hB2 ag2
  refine h_st rfl rfl ?_
  exact h_rt rfl rfl (⟨_, _, rfl, f, _, rfl, hf, h, hP, hag⟩)
theorem r_103b {b : Bool} {σ0 : ae_S} {F0 F Fx : Nat → Nat → Int32} {c u g : Int32} (h : RS b σ0 F0 σ c u g F) {a e : List Nat} {x1 x2 x3 x4 x5 x6 x7 : Int32} {f : Nat} (hf : f < 400) (hP : RP F g (f :: a) (f :: e)) (hag : ∀ q, q < 194 ∨ 196 < q → F q = Fx q) {x9 : Option Value} : hG ra (d + 3) 103 σ [some (.ref 176), some (.int x1), some (.int x2), some (.int x3), some (.int x4), some (.int x5), some (.int x6), some (.int x7), some (.int (nI f)), x9] [] 86 (pI (fun σ' v => ∃ f F', v = nI f ∧ f < 400 ∧ RS b σ0 F0 σ' c u g F' ∧ RP F' g (f :: a) (f :: e) ∧ ∀ q, q < 194 ∨ 196 < q → F' q = Fx q)) := by
  refine h_st rfl rfl ?_
  refine h_st rfl rfl ?_
  refine h_st rfl rfl ?_
  refine h_st rfl rfl ?_
  refine h_cv4 rfl (Nat.le_of_ble_eq_true rfl) (e_rcv h.2.1) rfl (r_105 h hP.2.2.1 rfl hf (rfl : (12 : Int32) = nI 12) (by decide)) (fun σ2 hq => ?_)
  obtain ⟨F2, h2, hB2, ag2⟩ := hq
  replace hP := hP.bg hB2 ag2
  replace hag := fun q hq => (ag2 q (by omega)).trans (hag q hq)
  replace h := h2
  clear h2 hB2 ag2
  refine h_st rfl rfl ?_
  refine h_st rfl rfl ?_
  refine h_st rfl rfl ?_
  refine h_st rfl rfl ?_
  refine h_cv4 rfl (Nat.le_of_ble_eq_true rfl) (e_rcv h.2.1) rfl (r_105 h hP.2.2.1 rfl hf (rfl : (14 : Int32) = nI 14) (by decide)) (fun σ2 hq => ?_)
  obtain ⟨F2, h2, hB2, ag2⟩ := hq
  replace hP := hP.bg hB2 ag2
  replace hag := fun q hq => (ag2 q (by omega)).trans (hag q hq)
  replace h := h2
  clear h2 hB2 ag2
  refine h_st rfl rfl ?_
  refine h_st rfl rfl ?_
  refine h_st rfl rfl ?_
  refine h_st rfl rfl ?_
  refine h_st rfl rfl ?_
  refine h_st rfl rfl ?_
  refine h_st rfl rfl ?_
  refine h_st rfl (e_dv (by decide)) ?_
  refine h_cv4 rfl (Nat.le_of_ble_eq_true rfl) (e_rcv h.2.1) rfl (r_105 h hP.2.2.1 rfl hf (rfl : (16 : Int32) = nI 16) (by decide)) (fun σ2 hq => ?_)
  obtain ⟨F2, h2, hB2, ag2⟩ := hq
  replace hP := hP.bg hB2 ag2
  replace hag := fun q hq => (ag2 q (by omega)).trans (hag q hq)
  replace h := h2
  clear h2 hB2 ag2
  refine h_st rfl rfl ?_
  refine h_st rfl rfl ?_
  refine h_st rfl rfl ?_
  refine h_st rfl rfl ?_
  refine h_st rfl rfl ?_
  refine h_st rfl rfl ?_
  refine h_cv4 rfl (Nat.le_of_ble_eq_true rfl) (e_rcv h.2.1) rfl (r_105 h hP.2.2.1 rfl hf (rfl : (17 : Int32) = nI 17) (by decide)) (fun σ2 hq => ?_)
  obtain ⟨F2, h2, hB2, ag2⟩ := hq
  replace hP := hP.bg hB2 ag2
  replace hag := fun q hq => (ag2 q (by omega)).trans (hag q hq)
  replace h := h2
  clear h2 hB2 ag2
  refine h_st rfl rfl ?_
  refine h_st rfl rfl ?_
  refine h_st rfl rfl ?_
  refine h_st rfl rfl ?_
  refine h_st rfl rfl ?_
  refine h_st rfl (e_dv (by decide)) ?_
  refine h_cv4 rfl (Nat.le_of_ble_eq_true rfl) (e_rcv h.2.1) rfl (r_105 h hP.2.2.1 rfl hf (rfl : (18 : Int32) = nI 18) (by decide)) (fun σ2 hq => ?_)
  obtain ⟨F2, h2, hB2, ag2⟩ := hq
  replace hP := hP.bg hB2 ag2
  replace hag := fun q hq => (ag2 q (by omega)).trans (hag q hq)
  replace h := h2
  clear h2 hB2 ag2
  refine h_st rfl rfl ?_
  refine h_st rfl rfl ?_
  refine h_st rfl rfl ?_
  refine h_st rfl rfl ?_
  refine h_cv4 rfl (Nat.le_of_ble_eq_true rfl) (e_rcv h.2.1) rfl (r_105 h hP.2.2.1 rfl hf (rfl : (19 : Int32) = nI 19) (by decide)) (fun σ2 hq => ?_)
  obtain ⟨F2, h2, hB2, ag2⟩ := hq
  replace hP := hP.bg hB2 ag2
  replace hag := fun q hq => (ag2 q (by omega)).trans (hag q hq)
  replace h := h2
  clear h2 hB2 ag2
  refine h_st rfl rfl ?_
  refine h_st rfl rfl ?_
  refine h_st rfl rfl ?_
  refine h_st rfl rfl ?_
  refine h_st rfl rfl ?_
  refine h_br (fun q2 => ?_) (fun q2 => ?_)
  · refine h_st rfl rfl ?_
    refine h_cv4 rfl (Nat.le_of_ble_eq_true rfl) (e_rcv h.2.1) rfl (r_105 h hP.2.2.1 rfl hf (rfl : (20 : Int32) = nI 20) (by decide)) (fun σ2 hq => ?_)
    obtain ⟨F2, h2, hB2, ag2⟩ := hq
    replace hP := hP.bg hB2 ag2
    replace hag := fun q hq => (ag2 q (by omega)).trans (hag q hq)
    replace h := h2
    clear h2 hB2 ag2
    exact r_103c h hf hP hag
  · refine h_st rfl rfl ?_
    refine h_st rfl rfl ?_
    refine h_cv4 rfl (Nat.le_of_ble_eq_true rfl) (e_rcv h.2.1) rfl (r_105 h hP.2.2.1 rfl hf (rfl : (20 : Int32) = nI 20) (by decide)) (fun σ2 hq => ?_)
    obtain ⟨F2, h2, hB2, ag2⟩ := hq
    replace hP := hP.bg hB2 ag2
    replace hag := fun q hq => (ag2 q (by omega)).trans (hag q hq)
    replace h := h2
    clear h2 hB2 ag2
    exact r_103c h hf hP hag
theorem r_103a {b : Bool} {σ0 : ae_S} {F0 F Fx : Nat → Nat → Int32} {c u g : Int32} (h : RS b σ0 F0 σ c u g F) {a e : List Nat} {x1 x2 x3 x4 x5 x6 x7 : Int32} {f : Nat} (hf : f < 400) (hP : RP F g (f :: a) (f :: e)) (hag : ∀ q, q < 194 ∨ 196 < q → F q = Fx q) {x9 : Option Value} : hG ra (d + 3) 103 σ [some (.ref 176), some (.int x1), some (.int x2), some (.int x3), some (.int x4), some (.int x5), some (.int x6), some (.int x7), some (.int (nI f)), x9] [] 33 (pI (fun σ' v => ∃ f F', v = nI f ∧ f < 400 ∧ RS b σ0 F0 σ' c u g F' ∧ RP F' g (f :: a) (f :: e) ∧ ∀ q, q < 194 ∨ 196 < q → F' q = Fx q)) := by
  refine h_st rfl rfl ?_
  refine h_st rfl rfl ?_
  refine h_st rfl rfl ?_
  refine h_st rfl rfl ?_
  refine h_cv4 rfl (Nat.le_of_ble_eq_true rfl) (e_rcv h.2.1) rfl (r_105 h hP.2.2.1 rfl hf (rfl : (0 : Int32) = nI 0) (by decide)) (fun σ2 hq => ?_)
  obtain ⟨F2, h2, hB2, ag2⟩ := hq
  replace hP := hP.bg hB2 ag2
  replace hag := fun q hq => (ag2 q (by omega)).trans (hag q hq)
  replace h := h2
  clear h2 hB2 ag2
  refine h_st rfl rfl ?_
  refine h_st rfl rfl ?_
  refine h_st rfl rfl ?_
  refine h_st rfl rfl ?_
  refine h_cv4 rfl (Nat.le_of_ble_eq_true rfl) (e_rcv h.2.1) rfl (r_105 h hP.2.2.1 rfl hf (rfl : (5 : Int32) = nI 5) (by decide)) (fun σ2 hq => ?_)
  obtain ⟨F2, h2, hB2, ag2⟩ := hq
  replace hP := hP.bg hB2 ag2
  replace hag := fun q hq => (ag2 q (by omega)).trans (hag q hq)
  replace h := h2
  clear h2 hB2 ag2
  refine h_st rfl rfl ?_
  refine h_st rfl rfl ?_
  refine h_st rfl rfl ?_
  refine h_st rfl rfl ?_
  refine h_cv4 rfl (Nat.le_of_ble_eq_true rfl) (e_rcv h.2.1) rfl (r_105 h hP.2.2.1 rfl hf (rfl : (6 : Int32) = nI 6) (by decide)) (fun σ2 hq => ?_)
  obtain ⟨F2, h2, hB2, ag2⟩ := hq
  replace hP := hP.bg hB2 ag2
  replace hag := fun q hq => (ag2 q (by omega)).trans (hag q hq)
  replace h := h2
  clear h2 hB2 ag2
  refine h_st rfl rfl ?_
  refine h_st rfl rfl ?_
  refine h_st rfl rfl ?_
  refine h_st rfl rfl ?_
  refine h_cv4 rfl (Nat.le_of_ble_eq_true rfl) (e_rcv h.2.1) rfl (r_105 h hP.2.2.1 rfl hf (rfl : (10 : Int32) = nI 10) (by decide)) (fun σ2 hq => ?_)
  obtain ⟨F2, h2, hB2, ag2⟩ := hq
  replace hP := hP.bg hB2 ag2
  replace hag := fun q hq => (ag2 q (by omega)).trans (hag q hq)
  replace h := h2
  clear h2 hB2 ag2
  refine h_st rfl rfl ?_
  refine h_st rfl rfl ?_
  refine h_st rfl rfl ?_
  refine h_st rfl rfl ?_
  refine h_st rfl rfl ?_
  refine h_br (fun q2 => ?_) (fun q2 => ?_)
  · refine h_st rfl rfl ?_
    refine h_cv4 rfl (Nat.le_of_ble_eq_true rfl) (e_rcv h.2.1) rfl (r_105 h hP.2.2.1 rfl hf (rfl : (11 : Int32) = nI 11) (by decide)) (fun σ2 hq => ?_)
    obtain ⟨F2, h2, hB2, ag2⟩ := hq
    replace hP := hP.bg hB2 ag2
    replace hag := fun q hq => (ag2 q (by omega)).trans (hag q hq)
    replace h := h2
    clear h2 hB2 ag2
    exact r_103b h hf hP hag
  · refine h_st rfl rfl ?_
    refine h_st rfl rfl ?_
    refine h_cv4 rfl (Nat.le_of_ble_eq_true rfl) (e_rcv h.2.1) rfl (r_105 h hP.2.2.1 rfl hf (rfl : (11 : Int32) = nI 11) (by decide)) (fun σ2 hq => ?_)
    obtain ⟨F2, h2, hB2, ag2⟩ := hq
    replace hP := hP.bg hB2 ag2
    replace hag := fun q hq => (ag2 q (by omega)).trans (hag q hq)
    replace h := h2
    clear h2 hB2 ag2
    exact r_103b h hf hP hag
theorem r_103 {b : Bool} {σ0 : ae_S} {F0 F : Nat → Nat → Int32} {c u g : Int32} (h : RS b σ0 F0 σ c u g F) {a e : List Nat} (hP : RP F g a e) (he : e.length ≤ 100) {x1 x2 x3 x4 x5 x6 x7 : Int32} {m : Nat} (hm : (if 64 ≤ x4 + 39 then x4 + 39 else 64) = nI m) (hm1 : 64 ≤ m ∧ m ≤ 200) : hE ra (d + 4) 103 [.ref 176, .int x1, .int x2, .int x3, .int x4, .int x5, .int x6, .int x7] σ (pI (fun σ' v => ∃ f F', v = nI f ∧ f < 400 ∧ RS b σ0 F0 σ' c u g F' ∧ RP F' g (f :: a) (f :: e) ∧ ∀ q, q < 194 ∨ 196 < q → F' q = F q)) := by
  refine h_in rfl rfl (Nat.le_of_ble_eq_true rfl) ?_
  refine h_st rfl rfl ?_
  refine h_ci1 rfl (Nat.le_of_ble_eq_true rfl) (e_rcv h.2.1) rfl (r_104 h hP he) (fun σ1 v hq => ?_)
  obtain ⟨f, F1, rfl, hf, h1, hP1, hag1⟩ := hq
  replace h := h1
  replace hP := hP1
  have hag : ∀ q, q < 194 ∨ 196 < q → F1 q = F q := fun q hq => hag1 q (by omega) (by omega)
  clear h1 hP1 hag1
  refine h_st rfl rfl ?_
  refine h_st rfl rfl ?_
  refine h_st rfl (e_get h.2.1 rfl) ?_
  refine h_st rfl rfl ?_
  refine h_st rfl rfl ?_
  refine h_st rfl rfl ?_
  refine h_st rfl rfl ?_
  refine h_st rfl rfl ?_
  refine h_st rfl rfl ?_
  refine h_br (fun q1 => ?_) (fun q1 => ?_)
  · refine h_st rfl rfl ?_
    refine h_st rfl rfl ?_
    refine h_st rfl rfl ?_
    refine r_ias rfl h m195 (fun _ => by decide) (by decide) (rfl) (hf) (show x4 + 39 = nI m from by rw [if_pos q1] at hm; exact hm) (fun σ2 h2 => ?_)
    replace h := h2
    clear h2
    replace hP := hP.n5 (hP.2.2.2.1.size (f := f) hm1.1 hm1.2)
    replace hag : ∀ q, q < 194 ∨ 196 < q → fu F1 195 (upd (F1 195) f (nI m)) q = F q := fun q hq => (fu_n (by omega)).trans (hag q hq)
    exact r_103a h hf hP hag
  · refine h_st rfl rfl ?_
    refine h_st rfl rfl ?_
    refine r_ias rfl h m195 (fun _ => by decide) (by decide) (rfl) (hf) (show (64 : Int32) = nI m from by rw [if_neg q1] at hm; exact hm) (fun σ2 h2 => ?_)
    replace h := h2
    clear h2
    replace hP := hP.n5 (hP.2.2.2.1.size (f := f) hm1.1 hm1.2)
    replace hag : ∀ q, q < 194 ∨ 196 < q → fu F1 195 (upd (F1 195) f (nI m)) q = F q := fun q hq => (fu_n (by omega)).trans (hag q hq)
    exact r_103a h hf hP hag
theorem r_110l {b : Bool} {σ0 : ae_S} {F0 Fx : Nat → Nat → Int32} {c u g : Int32} {a e : List Nat} {f sz : Nat} {x y x3 : Int32} (ef : x = nI f) (hf : f < 400) (hz : Fx 195 f = nI sz) (hz1 : 64 ≤ sz ∧ sz ≤ 200) : ∀ (m j : Nat) (σ : ae_S) (F : Nat → Nat → Int32), j + m = 4 → RS b σ0 F0 σ c u g F → RP F g a e → (∀ q, q ≠ 194 → F q = Fx q) → hG ra (d + 1) 110 σ [some (.ref 176), some (.int x), some (.int y), some (.int x3), some (.int (nI j))] [] 23 (pV (fun σ' => ∃ F', RS b σ0 F0 σ' c u g F' ∧ RP F' g a e ∧ ∀ q, q ≠ 194 → F' q = Fx q)) := by
  intro m
  induction m with
  | zero =>
    intro j σ F hj h hP hag
    have hj : j = 4 := by omega
    subst hj
    refine h_st rfl rfl ?_
    refine h_st rfl rfl ?_
    refine h_st rfl rfl ?_
    refine h_pc (if_pos (decide_eq_true (nI_le (Nat.le_refl 4) (by decide)))) ?_
    exact h_rv rfl (⟨_, rfl, _, h, hP, hag⟩)
  | succ m ih =>
    intro j σ F hj h hP hag
    have ih1 := fun σ F => ih (j + 1) σ F (by omega)
    simp only [← nI_1] at ih1
    have ek : F 195 f - 4 + nI j = nI (sz - 4 + j) := by rw [hag 195 (by decide), hz, show (4 : Int32) = nI 4 from rfl, pk_sub (by omega), nI_add]
    refine h_st rfl rfl ?_
    refine h_st rfl rfl ?_
    refine h_st rfl rfl ?_
    refine h_pc (if_neg (fun z9 => (nI_ge (show j < 4 by omega) (by decide)) (of_decide_eq_true z9))) ?_
    refine h_st rfl rfl ?_
    refine h_st rfl rfl ?_
    refine h_st rfl rfl ?_
    refine h_st rfl (e_get h.2.1 rfl) ?_
    refine h_st rfl rfl ?_
    refine h_st rfl (q_ia h.a195 (ef) (hf) (by decide)) ?_
    refine h_st rfl rfl ?_
    refine h_st rfl rfl ?_
    refine h_st rfl rfl ?_
    refine h_st rfl rfl ?_
    refine h_st rfl rfl ?_
    refine h_st rfl rfl ?_
    refine h_st rfl rfl ?_
    refine h_st rfl rfl ?_
    refine h_st rfl rfl ?_
    refine h_cv4 rfl (Nat.le_of_ble_eq_true rfl) (e_rcv h.2.1) rfl (r_105 h hP.2.2.1 ef hf ek (by omega)) (fun σ2 hq => ?_)
    obtain ⟨F2, h2, hB2, ag2⟩ := hq
    refine h_st rfl rfl ?_
    refine h_st rfl rfl ?_
    exact ih1 _ _ h2 (hP.bg hB2 ag2) (fun q hq => (ag2 q hq).trans (hag q hq))
theorem r_110 {b : Bool} {σ0 : ae_S} {F0 F : Nat → Nat → Int32} {c u g : Int32} (h : RS b σ0 F0 σ c u g F) {a e : List Nat} (hP : RP F g a e) {f : Nat} {x : Int32} (ef : x = nI f) (hf : f < 400) (hfa : f ∈ a) (y : Int32) : hE ra (d + 3) 110 [.ref 176, .int x, .int y] σ (pV (fun σ' => ∃ F', RS b σ0 F0 σ' c u g F' ∧ RP F' g a e ∧ ∀ q, q ≠ 194 → F' q = F q)) := by
  obtain ⟨sz, z1, z2, hz⟩ := hP.2.2.2.1.2.2.1 f hf (Or.inr hfa)
  have ek : F 195 f - 5 = nI (sz - 5) := by rw [hz, show (5 : Int32) = nI 5 from rfl, pk_sub (by omega)]
  refine h_in rfl rfl (Nat.le_of_ble_eq_true rfl) ?_
  refine h_st rfl rfl ?_
  refine h_st rfl rfl ?_
  refine h_st rfl rfl ?_
  refine h_st rfl (e_get h.2.1 rfl) ?_
  refine h_st rfl rfl ?_
  refine h_st rfl (q_ia h.a195 (ef) (hf) (by decide)) ?_
  refine h_st rfl rfl ?_
  refine h_st rfl rfl ?_
  refine h_st rfl rfl ?_
  refine h_cv4 rfl (Nat.le_of_ble_eq_true rfl) (e_rcv h.2.1) rfl (r_105 h hP.2.2.1 ef hf ek (by omega)) (fun σ2 hq => ?_)
  obtain ⟨F2, h2, hB2, ag2⟩ := hq
  replace hP := hP.bg hB2 ag2
  refine h_st rfl rfl ?_
  refine h_st rfl rfl ?_
  refine h_ci2 rfl (Nat.le_of_ble_eq_true rfl) (e_rcv h2.2.1) rfl (r_111 h2 ef hf ((congrFun (ag2 195 (by decide)) f).trans hz) ⟨z1, z2⟩) (fun σ' y9 hq => ?_)
  replace hq := hq.symm
  subst hq
  refine h_st rfl rfl ?_
  refine h_st rfl rfl ?_
  refine h_st rfl rfl ?_
  exact r_110l ef hf hz ⟨z1, z2⟩ 4 0 _ _ rfl h2 hP ag2
theorem r_113 {b : Bool} {σ0 : ae_S} {F0 F : Nat → Nat → Int32} {c u g : Int32} (h : RS b σ0 F0 σ c u g F) {a e : List Nat} {f k : Nat} {x y : Int32} (ef : x = nI f) (hf : f < 400) (hP : RP F g (f :: a) (f :: e)) (ek : y = nI k) (hk : k < 12) : hE ra (d + 1) 113 [.ref 176, .int x, .int y] σ (pV (fun σ' => ∃ F', RS b σ0 F0 σ' c u g F' ∧ RP F' g a e ∧ ∀ q, q ≠ 196 → q ≠ 213 → F' q = F q)) := by
  refine h_in rfl rfl (Nat.le_of_ble_eq_true rfl) ?_
  refine h_st rfl rfl ?_
  refine h_st rfl (e_get h.2.1 rfl) ?_
  refine h_st rfl rfl ?_
  refine h_st rfl rfl ?_
  refine h_st rfl (q_ia h.a213 (ek) (hk) (by decide)) ?_
  refine h_st rfl rfl ?_
  refine h_st rfl rfl ?_
  refine r_ias rfl h m213 (fun _ => by decide) (by decide) (ek) (hk) (rfl) (fun σ2 h2 => ?_)
  replace h := h2
  clear h2
  have hP2 := RP.fo (f := upd (F 213) k (F 213 k + 1)) hP (p := 213) (by decide)
  refine h_st rfl rfl ?_
  refine h_st rfl (e_get h.2.1 rfl) ?_
  refine h_st rfl rfl ?_
  refine h_st rfl rfl ?_
  refine r_bas rfl h m196 (fun _ => by decide) (by decide) (ef) (hf) ((rfl : vp_nar .boolean 0 = 0)) (fun σ2 h2 => ?_)
  replace h := h2
  clear h2
  exact h_rv rfl (⟨_, rfl, _, h, hP2.n6 hP2.2.2.2.1.free, fun q z1 z2 => (fu_n z1).trans (fu_n z2)⟩)
theorem ix16 (r k : Nat) : (16 : Int32) * nI r + nI k = nI (16 * r + k) := by
  rw [show (16 : Int32) = nI 16 from rfl, pk_mul, nI_add]
theorem r_112b {b : Bool} {σ0 : ae_S} {F0 F : Nat → Nat → Int32} {c u g : Int32} (h : RS b σ0 F0 σ c u g F) {a e : List Nat} {f r C : Nat} {x x1 x3 ev : Int32} (ef : x = nI f) (hf : f < 400) (hP : RP F g (f :: a) (f :: e)) (hr : r < 48) (hC : cap r = C) (hev : (ev = 1 ∧ C = 16) ∨ (ev = 0 ∧ C = 4)) : hG ra (d + 1) 112 σ [some (.ref 176), some (.int x1), some (.int x), some (.int x3), some (.int ev), some (.int (nI r))] [] 35 (pV (fun σ' => ∃ F', RS b σ0 F0 σ' c u g F' ∧ RP F' g a e ∧ ∀ q, q < 196 ∨ (198 < q ∧ q ≠ 213) → F' q = F q)) := by
  obtain ⟨m, hm1, hm2, -⟩ := hP.2.2.2.1.1 r hr
  have hent : m < C → hG ra (d + 1) 112 σ [some (.ref 176), some (.int x1), some (.int x), some (.int x3), some (.int ev), some (.int (nI r))] [] 64 (pV (fun σ' => ∃ F', RS b σ0 F0 σ' c u g F' ∧ RP F' g a e ∧ ∀ q, q < 196 ∨ (198 < q ∧ q ≠ 213) → F' q = F q)) := by
    intro hmC
    have hcl := cap_le r
    have hin : 16 * r + m < 768 := by omega
    have ei : (16 : Int32) * nI r + F 198 r = nI (16 * r + m) := by rw [hm2]; exact ix16 r m
    refine h_st rfl rfl ?_
    refine h_st rfl (e_get h.2.1 rfl) ?_
    refine h_st rfl rfl ?_
    refine h_st rfl rfl ?_
    refine h_st rfl rfl ?_
    refine h_st rfl rfl ?_
    refine h_st rfl (e_get h.2.1 rfl) ?_
    refine h_st rfl rfl ?_
    refine h_st rfl (q_ia h.a198 (rfl) (hr) (by decide)) ?_
    refine h_st rfl rfl ?_
    refine h_st rfl rfl ?_
    refine r_ias rfl h m197 (fun _ => by decide) (by decide) (ei) (hin) (ef) (fun σ2 h2 => ?_)
    replace h := h2
    clear h2
    refine h_st rfl rfl ?_
    refine h_st rfl (e_get h.2.1 rfl) ?_
    refine h_st rfl rfl ?_
    refine h_st rfl rfl ?_
    refine h_st rfl (q_ia h.a198 (rfl) (hr) (by decide)) ?_
    refine h_st rfl rfl ?_
    refine h_st rfl rfl ?_
    refine r_ias rfl h m198 (fun _ => by decide) (by decide) (rfl) (hr) (show F 198 r + 1 = nI (m + 1) from by rw [hm2]; exact nI_1 m) (fun σ2 h2 => ?_)
    replace h := h2
    clear h2
    exact h_rv rfl (⟨_, rfl, _, h, hP.n78 (hP.2.2.2.1.enter hf hr hm2 (by omega)), fun q hq => (fu_n (by omega)).trans (fu_n (by omega))⟩)
  rcases hev with ⟨rfl, rfl⟩ | ⟨rfl, rfl⟩
  · refine h_st rfl rfl ?_
    refine h_st rfl (e_get h.2.1 rfl) ?_
    refine h_st rfl rfl ?_
    refine h_st rfl (q_ia h.a198 (rfl) (hr) (by decide)) ?_
    refine h_st rfl rfl ?_
    refine h_st rfl rfl ?_
    refine h_pc (if_neg (by decide)) ?_
    refine h_st rfl rfl ?_
    refine h_st rfl rfl ?_
    refine h_st rfl rfl ?_
    refine h_br (fun q => hent (Nat.lt_of_le_of_ne (by omega) (fun z => q (by rw [hm2, z]; rfl)))) (fun q => ?_)
    refine h_st rfl rfl ?_
    refine h_st rfl rfl ?_
    refine h_st rfl rfl ?_
    refine h_cv3 rfl (Nat.le_of_ble_eq_true rfl) (e_rcv h.2.1) rfl (r_113 h ef hf hP (rfl : (6 : Int32) = nI 6) (by decide)) (fun σ2 hq => ?_)
    obtain ⟨F2, h2, hP2, ag2⟩ := hq
    exact h_rv rfl (⟨_, rfl, F2, h2, hP2, fun q hq => ag2 q (by omega) (by omega)⟩)
  · refine h_st rfl rfl ?_
    refine h_st rfl (e_get h.2.1 rfl) ?_
    refine h_st rfl rfl ?_
    refine h_st rfl (q_ia h.a198 (rfl) (hr) (by decide)) ?_
    refine h_st rfl rfl ?_
    refine h_st rfl rfl ?_
    refine h_pc (if_pos (by decide)) ?_
    refine h_st rfl rfl ?_
    refine h_st rfl rfl ?_
    refine h_br (fun q => hent (Nat.lt_of_le_of_ne (by omega) (fun z => q (by rw [hm2, z]; rfl)))) (fun q => ?_)
    refine h_st rfl rfl ?_
    refine h_st rfl rfl ?_
    refine h_st rfl rfl ?_
    refine h_cv3 rfl (Nat.le_of_ble_eq_true rfl) (e_rcv h.2.1) rfl (r_113 h ef hf hP (rfl : (6 : Int32) = nI 6) (by decide)) (fun σ2 hq => ?_)
    obtain ⟨F2, h2, hP2, ag2⟩ := hq
    exact h_rv rfl (⟨_, rfl, F2, h2, hP2, fun q hq => ag2 q (by omega) (by omega)⟩)
theorem r_112 {b : Bool} {σ0 : ae_S} {F0 F : Nat → Nat → Int32} {c u g : Int32} (h : RS b σ0 F0 σ c u g F) {a e : List Nat} {f l : Nat} {x x1 : Int32} (ef : x = nI f) (hf : f < 400) (hP : RP F g (f :: a) (f :: e)) (el : x1 = nI l) (hl : l < 24) (x3 : Int32) : hE ra (d + 2) 112 [.ref 176, .int x1, .int x, .int x3] σ (pV (fun σ' => ∃ F', RS b σ0 F0 σ' c u g F' ∧ RP F' g a e ∧ ∀ q, q < 196 ∨ (198 < q ∧ q ≠ 213) → F' q = F q)) := by
  subst el
  have er : nI l - nI l / 12 * 12 = nI (l % 12) := pk_rem (a := l) (d := 12) (by omega) (by decide) (by decide)
  have e0 : (2 : Int32) * nI l + 0 = nI (2 * l) := by rw [show (2 : Int32) = nI 2 from rfl, pk_mul, Int32.add_zero]
  have e1 : (2 : Int32) * nI l + 1 = nI (2 * l + 1) := by rw [show (2 : Int32) = nI 2 from rfl, pk_mul, nI_1]
  have d0 : 2 * l / 2 = l := by omega
  have d1 : (2 * l + 1) / 2 = l := by omega
  by_cases hend : l % 12 < 4
  · refine h_in rfl rfl (Nat.le_of_ble_eq_true rfl) ?_
    refine h_st rfl rfl ?_
    refine h_st rfl rfl ?_
    refine h_st rfl (e_dv (by decide)) ?_
    refine h_st rfl rfl ?_
    refine h_st rfl rfl ?_
    refine h_pc (if_neg (fun z9 => (show ¬ (4 : Int32) ≤ nI l - nI l / 12 * 12 from by rw [er]; exact nI_ge hend (by decide)) (of_decide_eq_true z9))) ?_
    refine h_st rfl rfl ?_
    refine h_st rfl rfl ?_
    refine h_st rfl rfl ?_
    refine h_st rfl rfl ?_
    refine h_st rfl rfl ?_
    refine h_st rfl rfl ?_
    refine h_st rfl rfl ?_
    refine h_st rfl rfl ?_
    refine h_br (fun q1 => ?_) (fun q1 => ?_)
    · refine h_st rfl rfl ?_
      refine h_st rfl rfl ?_
      refine h_st rfl rfl ?_
      have := e0; exact (by simp only [e0]; exact r_112b (r := 2 * l) (C := 16) h ef hf hP (by omega) (by unfold cap; rw [d0, if_pos hend]; exact if_pos (by omega)) (Or.inl ⟨rfl, rfl⟩))
    · refine h_st rfl rfl ?_
      refine h_st rfl rfl ?_
      refine h_pc (if_pos (by decide)) ?_
      refine h_st rfl rfl ?_
      refine h_st rfl rfl ?_
      refine h_st rfl rfl ?_
      exact (by simp only [e0]; exact r_112b (r := 2 * l) (C := 16) h ef hf hP (by omega) (by unfold cap; rw [d0, if_pos hend]; exact if_pos (by omega)) (Or.inl ⟨rfl, rfl⟩))
  · refine h_in rfl rfl (Nat.le_of_ble_eq_true rfl) ?_
    refine h_st rfl rfl ?_
    refine h_st rfl rfl ?_
    refine h_st rfl (e_dv (by decide)) ?_
    refine h_st rfl rfl ?_
    refine h_st rfl rfl ?_
    refine h_pc (if_pos (decide_eq_true (show (4 : Int32) ≤ nI l - nI l / 12 * 12 from by rw [er]; exact nI_le (Nat.le_of_not_lt hend) (by omega)))) ?_
    refine h_st rfl rfl ?_
    refine h_st rfl rfl ?_
    refine h_st rfl rfl ?_
    refine h_st rfl rfl ?_
    refine h_st rfl rfl ?_
    refine h_st rfl rfl ?_
    refine h_st rfl rfl ?_
    refine h_br (fun q1 => ?_) (fun q1 => ?_)
    · refine h_st rfl rfl ?_
      refine h_st rfl rfl ?_
      refine h_st rfl rfl ?_
      exact (by simp only [e0]; exact r_112b (r := 2 * l) (C := 4) h ef hf hP (by omega) (by unfold cap; rw [d0, if_neg hend]) (Or.inr ⟨rfl, rfl⟩))
    · refine h_st rfl rfl ?_
      refine h_st rfl rfl ?_
      refine h_pc (if_neg (by decide)) ?_
      refine h_st rfl rfl ?_
      refine h_st rfl rfl ?_
      refine h_st rfl rfl ?_
      refine h_st rfl rfl ?_
      exact (by simp only [e1]; exact r_112b (r := 2 * l + 1) (C := 4) h ef hf hP (by omega) (by unfold cap; rw [d1, if_neg hend]) (Or.inr ⟨rfl, rfl⟩))
theorem r_129l {b : Bool} {σ0 : ae_S} {F0 F1 : Nat → Nat → Int32} {c u g : Int32} {r m : Nat} {row : Nat → Int32} {v : Int32} (hr : r < 48) (hm : m ≤ 15) (h8 : F1 198 r = nI m) {P : ae_S × ae_O → Prop} (hx : ∀ σ, RS b σ0 F0 σ c u g (fu F1 197 (shl row r m)) → hG ra d 129 σ [some (.ref 176), some (.int (nI r)), some (.int v), some (.int (nI m))] [] 73 P) : ∀ (m' k : Nat) (σ : ae_S), k + m' = m → RS b σ0 F0 σ c u g (fu F1 197 (shl row r k)) → hG ra d 129 σ [some (.ref 176), some (.int (nI r)), some (.int v), some (.int (nI k))] [] 33 P := by
  intro m'
  induction m' with
  | zero =>
    intro k σ hk h
    have hk : k = m := by omega
    subst hk
    refine h_st rfl rfl ?_
    refine h_st rfl rfl ?_
    refine h_st rfl (e_get h.2.1 rfl) ?_
    refine h_st rfl rfl ?_
    refine h_st rfl (q_ia h.a198 (rfl) (hr) (by decide)) ?_
    refine h_st rfl rfl ?_
    refine h_pc (if_pos (decide_eq_true (show F1 198 r ≤ nI k from by rw [h8]; exact nI_le (Nat.le_refl _) (by omega)))) ?_
    exact hx _ h
  | succ m' ih =>
    intro k σ hk h
    have ih1 := fun σ => ih (k + 1) σ (by omega)
    simp only [← nI_1] at ih1
    have e1 : (16 : Int32) * nI r + nI k + 1 = nI (16 * r + k + 1) := by rw [ix16, nI_1]
    have hv : shl row r k (16 * r + k + 1) = row (16 * r + k + 1) := by
      unfold shl
      rw [if_neg (by omega)]
    refine h_st rfl rfl ?_
    refine h_st rfl rfl ?_
    refine h_st rfl (e_get h.2.1 rfl) ?_
    refine h_st rfl rfl ?_
    refine h_st rfl (q_ia h.a198 (rfl) (hr) (by decide)) ?_
    refine h_st rfl rfl ?_
    refine h_pc (if_neg (fun z9 => (show ¬ F1 198 r ≤ nI k from by rw [h8]; exact nI_ge (show k < m by omega) (by omega)) (of_decide_eq_true z9))) ?_
    refine h_st rfl rfl ?_
    refine h_st rfl (e_get h.2.1 rfl) ?_
    refine h_st rfl rfl ?_
    refine h_st rfl rfl ?_
    refine h_st rfl rfl ?_
    refine h_st rfl rfl ?_
    refine h_st rfl rfl ?_
    refine h_st rfl rfl ?_
    refine h_st rfl (e_get h.2.1 rfl) ?_
    refine h_st rfl rfl ?_
    refine h_st rfl rfl ?_
    refine h_st rfl rfl ?_
    refine h_st rfl rfl ?_
    refine h_st rfl rfl ?_
    refine h_st rfl rfl ?_
    refine h_st rfl rfl ?_
    refine h_st rfl (q_ia h.a197 (e1) (by omega) (by decide)) ?_
    refine r_ias rfl h m197 (fun _ => by decide) (by decide) (ix16 r k) (by omega) (hv) (fun σ2 h2 => ?_)
    replace h := h2
    clear h2
    rw [fu_fu] at h
    replace h : RS b σ0 F0 σ2 c u g (fu F1 197 (shl row r (k + 1))) := by rw [← shl_s]; exact h
    refine h_st rfl rfl ?_
    refine h_st rfl rfl ?_
    exact ih1 _ h
theorem r_129t {b : Bool} {σ0 : ae_S} {F0 F : Nat → Nat → Int32} {c u g : Int32} (h : RS b σ0 F0 σ c u g F) {a e : List Nat} (hP : RP F g a e) {r : Nat} {x : Int32} (er : x = nI r) (hr : r < 48) : hE ra (d + 1) 129 [.ref 176, .int x] σ (pI (fun σ' v => (v = -1 ∧ σ' = σ) ∨ ∃ f F', v = nI f ∧ f < 400 ∧ RS b σ0 F0 σ' c u g F' ∧ RP F' g (f :: a) (f :: e) ∧ ∀ q, q ≠ 197 → q ≠ 198 → F' q = F q)) := by
  subst er
  obtain ⟨m', hm1, hm2, -⟩ := hP.2.2.2.1.1 r hr
  have hcl := cap_le r
  cases m' with
  | zero =>
    refine h_in rfl rfl (Nat.le_of_ble_eq_true rfl) ?_
    refine h_st rfl rfl ?_
    refine h_st rfl (e_get h.2.1 rfl) ?_
    refine h_st rfl rfl ?_
    refine h_st rfl ((q_ia h.a198 (rfl) (hr) (by decide)).trans (by rw [hm2])) ?_
    refine h_st rfl rfl ?_
    refine h_pc (if_neg (by decide)) ?_
    refine h_st rfl rfl ?_
    exact h_rt rfl rfl (⟨_, _, rfl, Or.inl ⟨rfl, rfl⟩⟩)
  | succ m =>
    obtain ⟨f, hf, ef, hN⟩ := hP.2.2.2.1.pull hr hm2 (by omega)
    have e16 : (16 : Int32) * nI r = nI (16 * r) := by rw [show (16 : Int32) = nI 16 from rfl, pk_mul]
    have hne : ¬ nI (m + 1) = 0 := nI_ne0 (by omega) (by omega)
    have hP2 := hP.n87 hN
    refine h_in rfl rfl (Nat.le_of_ble_eq_true rfl) ?_
    refine h_st rfl rfl ?_
    refine h_st rfl (e_get h.2.1 rfl) ?_
    refine h_st rfl rfl ?_
    refine h_st rfl ((q_ia h.a198 (rfl) (hr) (by decide)).trans (by rw [hm2])) ?_
    refine h_st rfl rfl ?_
    refine h_pc (if_pos (decide_eq_true (hne))) ?_
    refine h_st rfl rfl ?_
    refine h_st rfl (e_get h.2.1 rfl) ?_
    refine h_st rfl rfl ?_
    refine h_st rfl rfl ?_
    refine h_st rfl rfl ?_
    refine h_st rfl ((q_ia h.a197 (e16) (by omega) (by decide)).trans (by rw [ef])) ?_
    refine h_st rfl rfl ?_
    refine h_st rfl rfl ?_
    refine h_st rfl (e_get h.2.1 rfl) ?_
    refine h_st rfl rfl ?_
    refine h_st rfl rfl ?_
    refine h_st rfl (q_ia h.a198 (rfl) (hr) (by decide)) ?_
    refine h_st rfl rfl ?_
    refine h_st rfl rfl ?_
    refine r_ias rfl h m198 (fun _ => by decide) (by decide) (rfl) (hr) (show F 198 r - 1 = nI m from by rw [hm2]; exact nI_pred m) (fun σ2 h2 => ?_)
    replace h := h2
    clear h2
    rw [← fu_self (fu F 198 (upd (F 198) r (nI m))) 197, ← shl_0 (fu F 198 (upd (F 198) r (nI m)) 197) r] at h
    refine h_st rfl rfl ?_
    refine h_st rfl rfl ?_
    refine r_129l (F1 := fu F 198 (upd (F 198) r (nI m))) hr (by omega) pk_us (fun σ9 h => ?_) m 0 _ (Nat.zero_add _) h
    refine h_st rfl rfl ?_
    exact h_rt rfl rfl (⟨_, _, rfl, Or.inr ⟨f, _, rfl, hf, h, hP2, fun q z1 z2 => (fu_n z1).trans (fu_n z2)⟩⟩)
end RF3
