section SY21
variable {ra : ae_R} {d : Nat} {σ : ae_S}
/-- the fragments' cells while j of a message are put behind wn of link l -/
def FRg (Fx F : Nat → Nat → Int32) (l wn j : Nat) (sz x3 nu : Int32) (rm : Nat) : Prop := (∀ i, i < 8 * l + wn ∨ 8 * l + (wn + j) ≤ i → F 190 i = Fx 190 i ∧ F 191 i = Fx 191 i ∧ F 192 i = Fx 192 i ∧ F 193 i = Fx 193 i) ∧ ∀ i, i < j → F 190 (8 * l + (wn + i)) = sz ∧ F 191 (8 * l + (wn + i)) = x3 ∧ F 192 (8 * l + (wn + i)) = nu ∧ F 193 (8 * l + (wn + i)) = nI (i * rm)
theorem FRg.z {Fx F : Nat → Nat → Int32} {l wn : Nat} {sz x3 nu : Int32} {rm : Nat} (e : ∀ q, 190 ≤ q → q ≤ 193 → F q = Fx q) : FRg Fx F l wn 0 sz x3 nu rm := ⟨fun i _ => by rw [e 190 (by decide) (by decide), e 191 (by decide) (by decide), e 192 (by decide) (by decide), e 193 (by decide) (by decide)]; exact ⟨rfl, rfl, rfl, rfl⟩, fun i hi => absurd hi (by omega)⟩
theorem FRg.s {Fx F F2 : Nat → Nat → Int32} {l wn j : Nat} {sz x3 nu : Int32} {rm : Nat} (h : FRg Fx F l wn j sz x3 nu rm) (e0 : F2 190 = upd (F 190) (8 * l + (wn + j)) sz) (e1 : F2 191 = upd (F 191) (8 * l + (wn + j)) x3) (e2 : F2 192 = upd (F 192) (8 * l + (wn + j)) nu) (e3 : F2 193 = upd (F 193) (8 * l + (wn + j)) (nI (j * rm))) : FRg Fx F2 l wn (j + 1) sz x3 nu rm := by
  refine ⟨fun i hi => ?_, fun i hi => ?_⟩
  · have hne : i ≠ 8 * l + (wn + j) := by omega
    rw [e0, e1, e2, e3, pk_un hne, pk_un hne, pk_un hne, pk_un hne]
    exact h.1 i (by omega)
  · rw [e0, e1, e2, e3]
    by_cases c : i = j
    · subst c
      exact ⟨pk_us, pk_us, pk_us, pk_us⟩
    · have hne : 8 * l + (wn + i) ≠ 8 * l + (wn + j) := by omega
      rw [pk_un hne, pk_un hne, pk_un hne, pk_un hne]
      exact h.2 i (by omega)
def WG (Fx F : Nat → Nat → Int32) (l wn n : Nat) (sz x3 : Int32) (rm : Nat) : Prop := F 189 = upd (Fx 189) l (nI (wn + n)) ∧ F 186 = upd (Fx 186) l (Fx 186 l + 1 - (Fx 186 l + 1) / 65536 * 65536) ∧ (∀ q, q ≠ 186 → q < 189 ∨ 193 < q → F q = Fx q) ∧ FRg Fx F l wn n sz x3 (Fx 186 l) rm
theorem r_98xy {σ0 : ae_S} {F : Nat → Nat → Int32} {c u g : Int32} (h : RS false σ0 F σ c u g F) (hP : RP F g [] []) {x1 x2 x3 : Int32} {x6 x7 : Option Value} (hno : ∀ j k, j < 8 → x1 = nI j → F 182 j = nI k → 64 ≤ k ∧ k ≤ 128 → F 177 j = 0 ∨ ned k (F 179 j) x2 = 0) : hG ra (d + 1) 98 σ [some (.ref 176), some (.int x1), some (.int x2), some (.int x3), some (.int 0), some (.int 0), x6, x7] [] 33 (pI (fun σ' v => ∃ c' F', RS false σ0 F σ' c' u g F' ∧ RP F' g [] [] ∧ ((c' = 1 ∧ F' = F ∧ ∀ j k, j < 8 → x1 = nI j → F 182 j = nI k → 64 ≤ k ∧ k ≤ 128 → F 177 j = 0 ∨ ned k (F 179 j) x2 = 0) ∨ (∃ j k w, j < 8 ∧ x1 = nI j ∧ F 177 j ≠ 0 ∧ F 182 j = nI k ∧ (64 ≤ k ∧ k ≤ 128) ∧ ned k (F 179 j) x2 ≠ 0 ∧ F 189 j = nI w ∧ w ≤ 8 ∧ ((c' = 2 ∧ F' = F ∧ 8 < w + ned k (F 179 j) x2) ∨ (c' = 0 ∧ w + ned k (F 179 j) x2 ≤ 8 ∧ WG F F' j w (ned k (F 179 j) x2) x2 x3 (rmm k (F 179 j)))))))) := by
  refine h_st rfl rfl ?_
  refine h_st rfl rfl ?_
  refine h_pc (if_pos (by decide)) ?_
  refine h_st rfl rfl ?_
  refine h_st rfl rfl ?_
  refine h_st rfl rfl ?_
  refine h_pc (if_pos (by decide)) ?_
  refine h_st rfl rfl ?_
  refine h_st rfl rfl ?_
  refine r_put rfl h rfl (Nat.le_of_ble_eq_true rfl) rfl (fun σ2 h2 => ?_)
  replace h := h2
  clear h2
  refine h_st rfl rfl ?_
  refine h_st rfl (e_get h.2.1 rfl) ?_
  refine h_st rfl rfl ?_
  refine h_pc (if_neg (by decide)) ?_
  refine h_st rfl rfl ?_
  exact h_rt rfl rfl (⟨_, _, rfl, 1, F, h, hP, Or.inl ⟨rfl, rfl, hno⟩⟩)
theorem r_98ny {σ0 : ae_S} {Fx : Nat → Nat → Int32} {c u g : Int32} {l k sz n wn : Nat} {x3 : Int32} (hl : l < 8) (hk : Fx 182 l = nI k) (hk1 : 64 ≤ k ∧ k ≤ 128) (hw : wn + n ≤ 8) : ∀ (m j : Nat) (σ : ae_S) (F : Nat → Nat → Int32) (x7 : Option Value), j + m = n → RS false σ0 Fx σ c u g F → RP F g [] [] → (∀ q, q < 189 ∨ 193 < q → F q = Fx q) → F 189 = upd (Fx 189) l (nI (wn + j)) → FRg Fx F l wn j (nI sz) x3 (Fx 186 l) (rmm k (Fx 179 l)) → hG ra (d + 1) 98 σ [some (.ref 176), some (.int (nI l)), some (.int (nI sz)), some (.int x3), some (.int 1), some (.int (nI n)), some (.int (nI j)), x7] [] 127 (pI (fun σ' v => v = nI n ∧ ∃ F', RS false σ0 Fx σ' c u g F' ∧ RP F' g [] [] ∧ WG Fx F' l wn n (nI sz) x3 (rmm k (Fx 179 l)))) := by
  intro m
  induction m with
  | zero =>
    intro j σ F x7 hj h hP hag h9 hG
    have hj : j = n := by omega
    subst hj
    have e86 : F 186 = Fx 186 := hag 186 (by decide)
    have e86l : F 186 l = Fx 186 l := by rw [e86]
    refine h_st rfl rfl ?_
    refine h_st rfl rfl ?_
    refine h_st rfl rfl ?_
    refine h_pc (if_pos (decide_eq_true (nI_le (Nat.le_refl _) (by omega)))) ?_
    refine h_st rfl rfl ?_
    refine h_st rfl (e_get h.2.1 rfl) ?_
    refine h_st rfl rfl ?_
    refine h_st rfl rfl ?_
    refine h_st rfl (e_get h.2.1 rfl) ?_
    refine h_st rfl rfl ?_
    refine h_st rfl (q_iaE h.a186 (rfl) (hl) (by decide) (e86l)) ?_
    refine h_st rfl rfl ?_
    refine h_st rfl rfl ?_
    refine h_st rfl rfl ?_
    refine h_st rfl (e_dv (by decide)) ?_
    refine r_ias rfl h m186 (fun z => by cases z) (by decide) (rfl) (hl) (rfl) (fun σ2 h2 => ?_)
    replace h := h2
    clear h2
    refine h_st rfl rfl ?_
    exact h_rt rfl rfl (⟨_, _, rfl, rfl, _, h, hP.fo (by decide), h9, (show upd (F 186) l _ = _ from by rw [e86]), fun q z1 z2 => (fu_n z1).trans (hag q z2), hG⟩)
  | succ m ih =>
    intro j σ F x7 hj h hP hag h9 hG
    have ih1 := fun σ F x7 => ih (j + 1) σ F x7 (by omega)
    simp only [← nI_1] at ih1
    have ea : (8 : Int32) * nI l + nI (wn + j) = nI (8 * l + (wn + j)) := by rw [ix8, nI_add]
    have hin : 8 * l + (wn + j) < 64 := by omega
    have hk' : F 182 l = nI k := (congrFun (hag 182 (by decide)) l).trans hk
    have h9l : F 189 l = nI (wn + j) := by rw [h9, pk_us]
    have e86l : F 186 l = Fx 186 l := by rw [hag 186 (by decide)]
    have e79l : F 179 l = Fx 179 l := by rw [hag 179 (by decide)]
    have euu : upd (F 189) l (nI (wn + (j + 1))) = upd (Fx 189) l (nI (wn + (j + 1))) := by
      funext q
      by_cases e : q = l
      · rw [e, pk_us, pk_us]
      · rw [pk_un e, pk_un e, h9, pk_un e]
    refine h_st rfl rfl ?_
    refine h_st rfl rfl ?_
    refine h_st rfl rfl ?_
    refine h_pc (if_neg (fun z9 => (nI_ge (show j < n by omega) (by omega)) (of_decide_eq_true z9))) ?_
    refine h_st rfl rfl ?_
    refine h_st rfl rfl ?_
    refine h_st rfl rfl ?_
    refine h_st rfl rfl ?_
    refine h_st rfl (e_get h.2.1 rfl) ?_
    refine h_st rfl rfl ?_
    refine h_st rfl (q_iaE h.a189 (rfl) (hl) (by decide) (h9l)) ?_
    refine h_st rfl rfl ?_
    refine h_st rfl rfl ?_
    refine h_st rfl rfl ?_
    refine h_st rfl (e_get h.2.1 rfl) ?_
    refine h_st rfl rfl ?_
    refine h_st rfl rfl ?_
    refine r_ias rfl h m190 (fun z => by cases z) (by decide) (ea) (hin) (rfl) (fun σ2 h2 => ?_)
    replace h := h2
    clear h2
    refine h_st rfl rfl ?_
    refine h_st rfl (e_get h.2.1 rfl) ?_
    refine h_st rfl rfl ?_
    refine h_st rfl rfl ?_
    refine r_ias rfl h m191 (fun z => by cases z) (by decide) (ea) (hin) (rfl) (fun σ2 h2 => ?_)
    replace h := h2
    clear h2
    refine h_st rfl rfl ?_
    refine h_st rfl (e_get h.2.1 rfl) ?_
    refine h_st rfl rfl ?_
    refine h_st rfl rfl ?_
    refine h_st rfl (e_get h.2.1 rfl) ?_
    refine h_st rfl rfl ?_
    refine h_st rfl (q_iaE h.a186 (rfl) (hl) (by decide) (e86l)) ?_
    refine r_ias rfl h m192 (fun z => by cases z) (by decide) (ea) (hin) (rfl) (fun σ2 h2 => ?_)
    replace h := h2
    clear h2
    refine h_st rfl rfl ?_
    refine h_st rfl (e_get h.2.1 rfl) ?_
    refine h_st rfl rfl ?_
    refine h_st rfl rfl ?_
    refine h_st rfl rfl ?_
    refine h_st rfl rfl ?_
    refine h_ci2 rfl (Nat.le_of_ble_eq_true rfl) (e_rcv h.2.1) rfl (r_100 h rfl hl hk' hk1) (fun σ' y9 hq => ?_)
    obtain ⟨hss, hy9⟩ := hq
    replace hss := hss.symm
    subst hss
    replace hy9 : y9 = nI (rmm k (F 179 l)) := hy9
    rw [e79l] at hy9
    subst hy9
    refine h_st rfl rfl ?_
    refine r_ias rfl h m193 (fun z => by cases z) (by decide) (ea) (hin) (show nI j * nI (rmm k (Fx 179 l)) = nI (j * rmm k (Fx 179 l)) from by rw [pk_mul]) (fun σ2 h2 => ?_)
    replace h := h2
    clear h2
    refine h_st rfl rfl ?_
    refine h_st rfl (e_get h.2.1 rfl) ?_
    refine h_st rfl rfl ?_
    refine h_st rfl rfl ?_
    refine h_st rfl (q_ia h.a189 (rfl) (hl) (by decide)) ?_
    refine h_st rfl rfl ?_
    refine h_st rfl rfl ?_
    refine r_ias rfl h m189 (fun z => by cases z) (by decide) (rfl) (hl) (show F 189 l + 1 = nI (wn + (j + 1)) from by rw [h9l, nI_1]; rfl) (fun σ2 h2 => ?_)
    replace h := h2
    clear h2
    have hw2 := hP.2.1.up (k := l) (x := nI (wn + (j + 1))) ⟨wn + (j + 1), by omega, rfl⟩
    refine h_st rfl rfl ?_
    refine h_st rfl rfl ?_
    exact ih1 _ _ _ h (((((hP.fo (by decide)).fo (by decide)).fo (by decide)).fo (by decide)).w9 hw2) (fun q hq => (fu_n (by omega)).trans ((fu_n (by omega)).trans ((fu_n (by omega)).trans ((fu_n (by omega)).trans ((fu_n (by omega)).trans (hag q hq)))))) euu (hG.s rfl rfl rfl rfl)
theorem r_98gy {σ0 : ae_S} {F : Nat → Nat → Int32} {c u g : Int32} (h : RS false σ0 F σ c u g F) (hP : RP F g [] []) {l k sz : Nat} {x3 : Int32} (hl : l < 8) (hi : F 177 l ≠ 0) (hk : F 182 l = nI k) (hk1 : 64 ≤ k ∧ k ≤ 128) (hsz : 1 ≤ sz ∧ sz ≤ 400) {n : Nat} {x6 x7 : Option Value} (hn : n ≤ 17) (n1 : rmm k (F 179 l) * (n - 1) < sz + 8) (n2 : sz + 8 ≤ rmm k (F 179 l) * n) : hG ra (d + 1) 98 σ [some (.ref 176), some (.int (nI l)), some (.int (nI sz)), some (.int x3), some (.int 1), some (.int (nI n)), x6, x7] [] 63 (pI (fun σ' v => ∃ c' F', RS false σ0 F σ' c' u g F' ∧ RP F' g [] [] ∧ ((c' = 1 ∧ F' = F ∧ ∀ j k, j < 8 → nI l = nI j → F 182 j = nI k → 64 ≤ k ∧ k ≤ 128 → F 177 j = 0 ∨ ned k (F 179 j) (nI sz) = 0) ∨ (∃ j k w, j < 8 ∧ nI l = nI j ∧ F 177 j ≠ 0 ∧ F 182 j = nI k ∧ (64 ≤ k ∧ k ≤ 128) ∧ ned k (F 179 j) (nI sz) ≠ 0 ∧ F 189 j = nI w ∧ w ≤ 8 ∧ ((c' = 2 ∧ F' = F ∧ 8 < w + ned k (F 179 j) (nI sz)) ∨ (c' = 0 ∧ w + ned k (F 179 j) (nI sz) ≤ 8 ∧ WG F F' j w (ned k (F 179 j) (nI sz)) (nI sz) x3 (rmm k (F 179 j)))))))) := by
  obtain ⟨wn, hwn, ewn⟩ := hP.2.1 l hl
  have hned := ned_eq (qu := F 179 l) hk1 hsz n1 n2
  have hn0 := (ned_of (qu := F 179 l) hk1 hsz n1 n2).1
  have hbad : ned k (F 179 l) (nI sz) = 0 → ∀ j k', j < 8 → nI l = nI j → F 182 j = nI k' → 64 ≤ k' ∧ k' ≤ 128 → F 177 j = 0 ∨ ned k' (F 179 j) (nI sz) = 0 := fun hz j k' hj ej hk' hkb => by
    have e : l = j := nI_inj (by omega) (by omega) ej
    subst e
    have ekk : k' = k := nI_inj (by omega) (by omega) (hk'.symm.trans hk)
    subst ekk
    exact Or.inr hz
  have hgo : ned k (F 179 l) (nI sz) = n → n ≤ 8 → hG ra (d + 1) 98 σ [some (.ref 176), some (.int (nI l)), some (.int (nI sz)), some (.int x3), some (.int 1), some (.int (nI n)), x6, x7] [.ref 176] 93 (pI (fun σ' v => ∃ c' F', RS false σ0 F σ' c' u g F' ∧ RP F' g [] [] ∧ ((c' = 1 ∧ F' = F ∧ ∀ j k, j < 8 → nI l = nI j → F 182 j = nI k → 64 ≤ k ∧ k ≤ 128 → F 177 j = 0 ∨ ned k (F 179 j) (nI sz) = 0) ∨ (∃ j k w, j < 8 ∧ nI l = nI j ∧ F 177 j ≠ 0 ∧ F 182 j = nI k ∧ (64 ≤ k ∧ k ≤ 128) ∧ ned k (F 179 j) (nI sz) ≠ 0 ∧ F 189 j = nI w ∧ w ≤ 8 ∧ ((c' = 2 ∧ F' = F ∧ 8 < w + ned k (F 179 j) (nI sz)) ∨ (c' = 0 ∧ w + ned k (F 179 j) (nI sz) ≤ 8 ∧ WG F F' j w (ned k (F 179 j) (nI sz)) (nI sz) x3 (rmm k (F 179 j)))))))) := by
    intro hne hn8
    refine h_st rfl rfl ?_
    refine h_st rfl (e_get h.2.1 rfl) ?_
    refine h_st rfl rfl ?_
    refine h_st rfl (q_iaE h.a189 (rfl) (hl) (by decide) (ewn)) ?_
    refine h_st rfl rfl ?_
    refine h_st rfl rfl ?_
    refine h_st rfl rfl ?_
    refine h_st rfl rfl ?_
    refine h_br (fun q => ?_) (fun q => ?_)
    · refine h_st rfl rfl ?_
      refine r_put rfl h rfl (Nat.le_of_ble_eq_true rfl) rfl (fun σ2 h2 => ?_)
      replace h := h2
      clear h2
      refine h_st rfl rfl ?_
      refine h_st rfl (e_get h.2.1 rfl) ?_
      refine h_st rfl rfl ?_
      refine h_pc (if_pos (by decide)) ?_
      refine h_st rfl rfl ?_
      refine h_st rfl rfl ?_
      have hw8 : wn + n ≤ 8 := (nI_leI (by omega) (by decide)).mp (show nI (wn + n) ≤ nI 8 from by rw [← nI_add]; exact q)
      obtain ⟨r, g1, σ9, v, rfl, rfl, F9, h9, hP9, e9⟩ := r_98ny (ra := ra) (d := d) (sz := sz) (x3 := x3) hl hk hk1 hw8 n 0 _ _ x7 (Nat.zero_add _) h hP (fun _ _ => rfl) (by rw [Nat.add_zero, ← ewn]; exact (upd_self _ _).symm) (FRg.z (fun _ _ _ => rfl))
      exact ⟨_, g1, σ9, _, rfl, 0, F9, h9, hP9, Or.inr ⟨l, k, wn, hl, rfl, hi, hk, hk1, by omega, ewn, by omega, Or.inr ⟨rfl, by omega, by rw [hne]; exact e9⟩⟩⟩
    · refine h_st rfl rfl ?_
      refine h_st rfl rfl ?_
      refine r_put rfl h rfl (Nat.le_of_ble_eq_true rfl) rfl (fun σ2 h2 => ?_)
      replace h := h2
      clear h2
      refine h_st rfl rfl ?_
      refine h_st rfl (e_get h.2.1 rfl) ?_
      refine h_st rfl rfl ?_
      refine h_pc (if_neg (by decide)) ?_
      refine h_st rfl rfl ?_
      exact h_rt rfl rfl (⟨_, _, rfl, 2, F, h, hP, Or.inr ⟨l, k, wn, hl, rfl, hi, hk, hk1, by omega, ewn, by omega, Or.inl ⟨rfl, rfl, by rw [hne]; exact Nat.lt_of_not_le (fun z => q (show nI wn + nI n ≤ nI 8 from by rw [nI_add]; exact nI_le z (by decide)))⟩⟩⟩)
  refine h_st rfl rfl ?_
  refine h_st rfl rfl ?_
  refine h_st rfl rfl ?_
  refine h_pc (if_neg (by decide)) ?_
  refine h_st rfl rfl ?_
  refine h_st rfl rfl ?_
  refine h_st rfl (e_get h.2.1 rfl) ?_
  refine h_st rfl rfl ?_
  refine h_st rfl (q_ba h.a179 (rfl) (hl) (by decide)) ?_
  refine h_st rfl rfl ?_
  refine h_br (fun q0 => ?_) (fun q0 => ?_)
  · refine h_st rfl rfl ?_
    rw [if_pos q0] at hned
    refine h_st rfl rfl ?_
    refine h_br (fun q => ?_) (fun q => ?_)
    · have hle : n ≤ 1 := (nI_leI (a := n) (b := 1) (by omega) (by decide)).mp q
      rw [if_pos hle] at hned
      exact hgo hned (by omega)
    · refine h_st rfl rfl ?_
      refine h_st rfl rfl ?_
      refine r_put rfl h rfl (Nat.le_of_ble_eq_true rfl) rfl (fun σ2 h2 => ?_)
      replace h := h2
      clear h2
      refine h_st rfl rfl ?_
      refine h_st rfl (e_get h.2.1 rfl) ?_
      refine h_st rfl rfl ?_
      refine h_pc (if_neg (by decide)) ?_
      refine h_st rfl rfl ?_
      exact h_rt rfl rfl (⟨_, _, rfl, 1, F, h, hP, Or.inl ⟨rfl, rfl, hbad (by rw [hned, if_neg (fun z => q (nI_le z (by decide)))])⟩⟩)
  · refine h_st rfl rfl ?_
    refine h_st rfl rfl ?_
    rw [if_neg q0] at hned
    refine h_st rfl rfl ?_
    refine h_br (fun q => ?_) (fun q => ?_)
    · have hle : n ≤ 8 := (nI_leI (a := n) (b := 8) (by omega) (by decide)).mp q
      rw [if_pos hle] at hned
      exact hgo hned (by omega)
    · refine h_st rfl rfl ?_
      refine h_st rfl rfl ?_
      refine r_put rfl h rfl (Nat.le_of_ble_eq_true rfl) rfl (fun σ2 h2 => ?_)
      replace h := h2
      clear h2
      refine h_st rfl rfl ?_
      refine h_st rfl (e_get h.2.1 rfl) ?_
      refine h_st rfl rfl ?_
      refine h_pc (if_neg (by decide)) ?_
      refine h_st rfl rfl ?_
      exact h_rt rfl rfl (⟨_, _, rfl, 1, F, h, hP, Or.inl ⟨rfl, rfl, hbad (by rw [hned, if_neg (fun z => q (nI_le z (by decide)))])⟩⟩)
theorem r_98ly {σ0 : ae_S} {F : Nat → Nat → Int32} {c u g : Int32} (h : RS false σ0 F σ c u g F) (hP : RP F g [] []) {l k sz : Nat} {x3 : Int32} (hl : l < 8) (hi : F 177 l ≠ 0) (hk : F 182 l = nI k) (hk1 : 64 ≤ k ∧ k ≤ 128) (hsz : 1 ≤ sz ∧ sz ≤ 400) {x7 : Option Value} : ∀ (m n : Nat), n + m = 17 → (n = 0 ∨ rmm k (F 179 l) * (n - 1) < sz + 8) → hG ra (d + 1) 98 σ [some (.ref 176), some (.int (nI l)), some (.int (nI sz)), some (.int x3), some (.int 1), some (.int (nI n)), some (.int (nI (rmm k (F 179 l) * n))), x7] [] 33 (pI (fun σ' v => ∃ c' F', RS false σ0 F σ' c' u g F' ∧ RP F' g [] [] ∧ ((c' = 1 ∧ F' = F ∧ ∀ j k, j < 8 → nI l = nI j → F 182 j = nI k → 64 ≤ k ∧ k ≤ 128 → F 177 j = 0 ∨ ned k (F 179 j) (nI sz) = 0) ∨ (∃ j k w, j < 8 ∧ nI l = nI j ∧ F 177 j ≠ 0 ∧ F 182 j = nI k ∧ (64 ≤ k ∧ k ≤ 128) ∧ ned k (F 179 j) (nI sz) ≠ 0 ∧ F 189 j = nI w ∧ w ≤ 8 ∧ ((c' = 2 ∧ F' = F ∧ 8 < w + ned k (F 179 j) (nI sz)) ∨ (c' = 0 ∧ w + ned k (F 179 j) (nI sz) ≤ 8 ∧ WG F F' j w (ned k (F 179 j) (nI sz)) (nI sz) x3 (rmm k (F 179 j)))))))) := by
  have hp := rmm_bd (qu := F 179 l) hk1
  have e8 : nI sz + 8 = nI (sz + 8) := by rw [show (8 : Int32) = nI 8 from rfl, nI_add]
  have hex : ∀ n, n ≤ 17 → (n = 0 ∨ rmm k (F 179 l) * (n - 1) < sz + 8) → sz + 8 ≤ rmm k (F 179 l) * n → rmm k (F 179 l) * (n - 1) < sz + 8 := fun n _ h1 h2 => by
    rcases h1 with rfl | h1
    · omega
    · exact h1
  intro m
  induction m with
  | zero =>
    intro n hn hpr
    have hn : n = 17 := by omega
    subst hn
    have h17 : sz + 8 ≤ rmm k (F 179 l) * 17 := by omega
    have hb : rmm k (F 179 l) * 17 < 2 ^ 31 := by omega
    refine h_st rfl rfl ?_
    refine h_st rfl rfl ?_
    refine h_pc (if_neg (by decide)) ?_
    refine h_st rfl rfl ?_
    refine h_st rfl rfl ?_
    refine h_st rfl rfl ?_
    refine h_st rfl rfl ?_
    refine h_st rfl rfl ?_
    refine h_pc (if_pos (decide_eq_true (show nI sz + 8 ≤ nI (rmm k (F 179 l) * 17) from by rw [e8]; exact nI_le h17 hb))) ?_
    exact r_98gy h hP hl hi hk hk1 hsz (Nat.le_refl _) (hex 17 (Nat.le_refl _) hpr h17) h17
  | succ m ih =>
    intro n hn hpr
    have hb : rmm k (F 179 l) * n ≤ 89 * 17 := Nat.mul_le_mul hp.2 (by omega)
    have hb2 : rmm k (F 179 l) * n < 2 ^ 31 := by omega
    have ih1 := fun h => ih (n + 1) (by omega) h
    have en : nI (rmm k (F 179 l) * n) + nI (rmm k (F 179 l)) = nI (rmm k (F 179 l) * (n + 1)) := by rw [nI_add, Nat.mul_succ]
    simp only [← en, ← nI_1] at ih1
    refine h_st rfl rfl ?_
    refine h_st rfl rfl ?_
    refine h_pc (if_neg (by decide)) ?_
    refine h_st rfl rfl ?_
    refine h_st rfl rfl ?_
    refine h_st rfl rfl ?_
    refine h_st rfl rfl ?_
    refine h_st rfl rfl ?_
    refine h_br (fun q => ?_) (fun q => ?_)
    · have h2 : sz + 8 ≤ rmm k (F 179 l) * n := (nI_leI (by omega) hb2).mp (show nI (sz + 8) ≤ nI (rmm k (F 179 l) * n) from by rw [← e8]; exact q)
      exact r_98gy h hP hl hi hk hk1 hsz (by omega) (hex n (by omega) hpr h2) h2
    · refine h_st rfl rfl ?_
      refine h_st rfl rfl ?_
      refine h_st rfl rfl ?_
      refine h_st rfl rfl ?_
      refine h_ci2 rfl (Nat.le_of_ble_eq_true rfl) (e_rcv h.2.1) rfl (r_100 h rfl hl hk hk1) (fun σ' y9 hq => ?_)
      obtain ⟨hss, hv9⟩ := hq
      replace hss := hss.symm
      subst hss
      replace hv9 : y9 = nI (rmm k (F 179 l)) := hv9
      subst hv9
      refine h_st rfl rfl ?_
      refine h_st rfl rfl ?_
      refine h_st rfl rfl ?_
      exact ih1 (Or.inr (Nat.lt_of_not_le (fun z => q (show nI sz + 8 ≤ nI (rmm k (F 179 l) * n) from by rw [e8]; exact nI_le z hb2))))
theorem r_98y {b : Bool} {σ0 : ae_S} {F0 F : Nat → Nat → Int32} {c u g : Int32} (h : RS b σ0 F0 σ c u g F) (hP : RP F g [] []) (x1 x2 x3 : Int32) : hE ra (d + 2) 98 [.ref 176, .int x1, .int x2, .int x3] σ (pI (fun σ' v => ∃ c' F', RS false σ0 F σ' c' u g F' ∧ RP F' g [] [] ∧ ((c' = 1 ∧ F' = F ∧ ∀ j k, j < 8 → x1 = nI j → F 182 j = nI k → 64 ≤ k ∧ k ≤ 128 → F 177 j = 0 ∨ ned k (F 179 j) x2 = 0) ∨ (∃ j k w, j < 8 ∧ x1 = nI j ∧ F 177 j ≠ 0 ∧ F 182 j = nI k ∧ (64 ≤ k ∧ k ≤ 128) ∧ ned k (F 179 j) x2 ≠ 0 ∧ F 189 j = nI w ∧ w ≤ 8 ∧ ((c' = 2 ∧ F' = F ∧ 8 < w + ned k (F 179 j) x2) ∨ (c' = 0 ∧ w + ned k (F 179 j) x2 ≤ 8 ∧ WG F F' j w (ned k (F 179 j) x2) x2 x3 (rmm k (F 179 j)))))))) := by
  have hfl : RS false σ0 F σ c u g F := h.fls
  replace h := hfl
  clear hfl
  refine h_in rfl rfl (Nat.le_of_ble_eq_true rfl) ?_
  refine h_st rfl rfl ?_
  refine h_st rfl rfl ?_
  refine h_ci2 rfl (Nat.le_of_ble_eq_true rfl) (e_rcv h.2.1) rfl (r_99t h _) (fun σ' y9 hq => ?_)
  obtain ⟨hss, hv⟩ := hq
  replace hss := hss.symm
  subst hss
  rcases hv with ⟨rfl, hv⟩ | ⟨rfl, l, hl, rfl, hil⟩
  · refine h_st rfl rfl ?_
    refine h_pc (if_pos (by decide)) ?_
    refine h_st rfl rfl ?_
    refine h_st rfl rfl ?_
    refine h_st rfl rfl ?_
    refine h_st rfl rfl ?_
    refine h_st rfl rfl ?_
    refine h_st rfl rfl ?_
    exact r_98xy h hP (fun j k hj ej _ _ => Or.inl (hv j hj ej))
  · refine h_st rfl rfl ?_
    refine h_pc (if_neg (by decide)) ?_
    refine h_st rfl rfl ?_
    refine h_st rfl rfl ?_
    refine h_st rfl rfl ?_
    refine h_br (fun q1 => ?_) (fun q1 => ?_)
    · refine h_st rfl rfl ?_
      refine h_st rfl rfl ?_
      refine h_st rfl rfl ?_
      refine h_st rfl rfl ?_
      refine h_st rfl rfl ?_
      refine h_st rfl rfl ?_
      exact r_98xy h hP (fun j k hj ej _ _ => Or.inr (by unfold ned; rw [if_pos (Or.inl q1)]))
    · refine h_st rfl rfl ?_
      refine h_st rfl rfl ?_
      refine h_st rfl rfl ?_
      refine h_br (fun q2 => ?_) (fun q2 => ?_)
      · refine h_st rfl rfl ?_
        refine h_st rfl rfl ?_
        refine h_st rfl rfl ?_
        refine h_st rfl rfl ?_
        refine h_st rfl rfl ?_
        refine h_st rfl rfl ?_
        exact r_98xy h hP (fun j k hj ej _ _ => Or.inr (by unfold ned; rw [if_pos (Or.inr q2)]))
      · refine h_st rfl rfl ?_
        refine h_st rfl rfl ?_
        refine h_st rfl rfl ?_
        refine h_st rfl rfl ?_
        refine h_st rfl rfl ?_
        refine h_st rfl rfl ?_
        refine h_st rfl rfl ?_
        obtain ⟨sz, hsz, rfl⟩ := nI_of2 (x := x2) (M := 400) (n := 400) (by decide) (fun z => q1 (Int32.lt_trans z (by decide))) (Int32.not_lt.mp q2)
        have hs1 : 1 ≤ sz := Nat.le_of_not_lt (fun z => q1 ((nI_ltI (b := 1) (by omega) (by decide)).mpr z))
        obtain ⟨k, hk1, hk2, hk⟩ := hP.1.2 l hl hil
        exact r_98ly h hP hl hil hk ⟨hk1, hk2⟩ ⟨hs1, hsz⟩ 17 0 rfl (Or.inl rfl)
section S21
variable {F F' : Nat → Nat → Int32} {v : Nat → Nat} {a : AN} {k : AK} {l : Nat} {x1 x2 x3 c' : Int32}
theorem ned_q {mo : Nat} {qu qu' x : Int32} (h : qu = 0 ↔ qu' = 0) : ned mo qu x = ned mo qu' x ∧ rmm mo qu = rmm mo qu' := by
  unfold ned rmm
  by_cases e : qu = 0
  · rw [if_pos e, if_pos (h.mp e), if_pos e, if_pos (h.mp e)]
    exact ⟨rfl, rfl⟩
  · rw [if_neg e, if_neg (fun y => e (h.mpr y)), if_neg e, if_neg (fun y => e (h.mpr y))]
    exact ⟨rfl, rfl⟩
theorem n_nx {n : Nat} (h : n < 65536) : nI n + 1 - (nI n + 1) / 65536 * 65536 = (nI n + 1) &&& 65535 ∧ rg ((nI n + 1) &&& 65535) 65536 := by
  have e1 : nI n + 1 = nI (n + 1) := nI_1 n
  have e2 : nI (n + 1) - nI (n + 1) / 65536 * 65536 = nI ((n + 1) % 65536) := pk_rem (a := n + 1) (d := 65536) (by omega) (by decide) (by decide)
  have e3 : (nI (n + 1) &&& 65535).toBitVec.toNat = (n + 1) % 65536 := by
    rw [Int32.toBitVec_and, BitVec.toNat_and, nI_bv (by omega)]
    exact Nat.and_two_pow_sub_one_eq_mod (n + 1) 16
  have e4 : nI (n + 1) &&& 65535 = nI ((n + 1) % 65536) := by
    apply Int32.toBitVec_inj.mp
    apply BitVec.eq_of_toNat_eq
    rw [e3, nI_bv (by omega)]
  rw [e1, e2, e4]
  exact ⟨rfl, (n + 1) % 65536, Nat.mod_lt _ (by decide), rfl⟩
/-- a link of the reference whose cells stay -/
theorem RK.cg {i : Nat} (h : RK F i k) (ag : ∀ q, 177 ≤ q → q ≠ 186 → q < 189 → F' q = F q) (e6 : F' 186 i = F 186 i) (e9 : F' 189 i = F 189 i) (ef : ∀ j, j < 8 → F' 190 (8 * i + j) = F 190 (8 * i + j) ∧ F' 191 (8 * i + j) = F 191 (8 * i + j) ∧ F' 192 (8 * i + j) = F 192 (8 * i + j) ∧ F' 193 (8 * i + j) = F 193 (8 * i + j)) : RK F' i k := by
  obtain ⟨b1, b2, b3, b4, b5⟩ := h
  refine ⟨?_, ?_, b3, fun j x hx => ?_, fun ln hln => ?_⟩
  · rw [ag 177 (by decide) (by decide) (by decide), ag 180 (by decide) (by decide) (by decide), ag 181 (by decide) (by decide) (by decide), ag 182 (by decide) (by decide) (by decide), ag 183 (by decide) (by decide) (by decide), ag 178 (by decide) (by decide) (by decide), ag 179 (by decide) (by decide) (by decide)]
    exact b1
  · rw [ag 185 (by decide) (by decide) (by decide), e6, ag 187 (by decide) (by decide) (by decide), e9, ag 188 (by decide) (by decide) (by decide)]
    exact b2
  · have hj : j < 8 := Nat.lt_of_lt_of_le (List.getElem?_eq_some_iff.mp hx).1 b3.2.2.1
    obtain ⟨f1, f2, f3, f4⟩ := ef j hj
    rw [f1, f2, f3, f4]
    exact b4 j x hx
  · rw [ag 180 (by decide) (by decide) (by decide), ag 183 (by decide) (by decide) (by decide)]
    exact b5 ln hln
theorem frl_at {me sd : Int32} {s rm n i : Nat} {x : AG} (h : (frl me s sd rm n)[i]? = some x) : i < n ∧ x = (me, s, sd, i * rm) := by
  have hi : i < n := by
    have := (List.getElem?_eq_some_iff.mp h).1
    rwa [frl_len] at this
  refine ⟨hi, ?_⟩
  unfold frl at h
  rw [List.getElem?_map, List.getElem?_range hi] at h
  injection h with h
  exact h.symm
theorem RR.wr {s n : Nat} (hR : RR F v a) (hl : l < 8) (hk : nK a l = some k) (hW : WG F F' l (dfr k).length n (nI s) x3 (rmm (kmo k) (kqu k))) (h8 : (dfr k).length + n ≤ 8) (hs : 1 ≤ s ∧ s ≤ 400) (n1 : rmm (kmo k) (kqu k) * (n - 1) < s + 8) (n2 : s + 8 ≤ rmm (kmo k) (kqu k) * n) : RR F' v (setK a l (adm k s x3 n)) := by
  obtain ⟨w1, w2, w3, w4, w5⟩ := hW
  have hRK := (hR.2.1 l hl).2 k hk
  obtain ⟨b1, b2, b3, b4, b5⟩ := hRK
  have hrb := rmm_bd (qu := kqu k) b3.2.1
  obtain ⟨nu, hnu, enu⟩ := b3.2.2.2.1
  have e86 : F 186 l = dme k := b2.2.1
  have ag : ∀ q, 177 ≤ q → q ≠ 186 → q < 189 → F' q = F q := fun q _ z1 z2 => w3 q z1 (Or.inl z2)
  refine ⟨hR.1.o (fun q z1 z2 => w3 q (by omega) (by omega)), fun i hi => ?_, hR.2.2.ag (fun q hq => w3 q (by omega) (by omega)) (stK_up hk rfl)⟩
  by_cases c : i = l
  · subst c
    refine ⟨fun z => ?_, fun k' hk' => ?_⟩
    · rw [show nK (setK a i (adm k s x3 n)) i = some _ from updK_s] at z
      cases z
    · rw [show nK (setK a i (adm k s x3 n)) i = some _ from updK_s] at hk'
      injection hk' with hk'
      subst hk'
      have elen : (dfr (adm k s x3 n)).length = (dfr k).length + n := by
        show (dfr k ++ frl (dme k) s x3 (rmm (kmo k) (kqu k)) n).length = _
        rw [List.length_append, frl_len]
      refine ⟨?_, ⟨?_, ?_, ?_, ?_, ?_, ?_⟩, ⟨b3.1, b3.2.1, by rw [elen]; exact h8, ?_, b3.2.2.2.2⟩, fun j x hx => ?_, fun ln hln => ?_⟩
      · rw [ag 177 (by decide) (by decide) (by decide), ag 180 (by decide) (by decide) (by decide), ag 181 (by decide) (by decide) (by decide), ag 182 (by decide) (by decide) (by decide), ag 183 (by decide) (by decide) (by decide), ag 178 (by decide) (by decide) (by decide), ag 179 (by decide) (by decide) (by decide)]
        exact b1
      · rw [ag 185 (by decide) (by decide) (by decide)]
        exact b2.1
      · rw [w2, pk_us, e86]
        show _ = (dme k + 1) &&& 65535
        rw [enu]
        exact (n_nx hnu).1
      · rw [ag 187 (by decide) (by decide) (by decide)]
        exact b2.2.2.1
      · rw [w1, pk_us, elen]
      · rw [ag 188 (by decide) (by decide) (by decide)]
        exact b2.2.2.2.2.1
      · rw [ag 188 (by decide) (by decide) (by decide)]
        exact b2.2.2.2.2.2
      · show rg ((dme k + 1) &&& 65535) 65536
        rw [enu]
        exact (n_nx hnu).2
      · replace hx : (dfr k ++ frl (dme k) s x3 (rmm (kmo k) (kqu k)) n)[j]? = some x := hx
        by_cases cj : j < (dfr k).length
        · rw [List.getElem?_append_left cj] at hx
          obtain ⟨f1, f2, f3, f4⟩ := w4 (8 * i + j) (by omega)
          rw [f1, f2, f3, f4]
          exact b4 j x hx
        · obtain ⟨j', rfl⟩ : ∃ j', j = (dfr k).length + j' := ⟨j - (dfr k).length, by omega⟩
          rw [List.getElem?_append_right (by omega), Nat.add_sub_cancel_left] at hx
          obtain ⟨hj, rfl⟩ := frl_at hx
          obtain ⟨f1, f2, f3, f4⟩ := w5 j' hj
          have hc := (cut n1 n2 hrb.1 hj).1
          exact ⟨⟨f1, f2, f3.trans e86, f4⟩, ⟨hs.1, hs.2, hc⟩, nu, hnu, enu⟩
      · rw [ag 180 (by decide) (by decide) (by decide), ag 183 (by decide) (by decide) (by decide)]
        exact b5 ln hln
  · rw [show nK (setK a l (adm k s x3 n)) i = nK a i from updK_n c]
    have e6 : F' 186 i = F 186 i := by rw [w2, pk_un c]
    have e9 : F' 189 i = F 189 i := by rw [w1, pk_un c]
    refine ⟨fun z => ?_, fun k' hk' => ?_⟩
    · rw [ag 177 (by decide) (by decide) (by decide), ag 185 (by decide) (by decide) (by decide), e6, ag 187 (by decide) (by decide) (by decide), e9]
      exact (hR.2.1 i hi).1 z
    · exact ((hR.2.1 i hi).2 k' hk').cg ag e6 e9 (fun j hj => w4 (8 * i + j) (by omega))
theorem RR.wrA (hR : RR F v a) (hm : ((c' = 1 ∧ F' = F ∧ ∀ j k, j < 8 → x1 = nI j → F 182 j = nI k → 64 ≤ k ∧ k ≤ 128 → F 177 j = 0 ∨ ned k (F 179 j) x2 = 0) ∨ (∃ j k w, j < 8 ∧ x1 = nI j ∧ F 177 j ≠ 0 ∧ F 182 j = nI k ∧ (64 ≤ k ∧ k ≤ 128) ∧ ned k (F 179 j) x2 ≠ 0 ∧ F 189 j = nI w ∧ w ≤ 8 ∧ ((c' = 2 ∧ F' = F ∧ 8 < w + ned k (F 179 j) x2) ∨ (c' = 0 ∧ w + ned k (F 179 j) x2 ≤ 8 ∧ WG F F' j w (ned k (F 179 j) x2) x2 x3 (rmm k (F 179 j))))))) : RR F' v (wrA a x1 x2 x3) := by
  have key : ∀ j kk, j < 8 → F 182 j = nI kk → 64 ≤ kk ∧ kk ≤ 128 → ∀ k, nK a j = some k → F 177 j ≠ 0 ∧ kk = kmo k ∧ ned kk (F 179 j) x2 = ned (kmo k) (kqu k) x2 ∧ rmm kk (F 179 j) = rmm (kmo k) (kqu k) := fun j kk hj hkk hb k hk => by
    have hRK := (hR.2.1 j hj).2 k hk
    have e : kk = kmo k := nI_inj (by omega) (by have := hRK.2.2.1.2.1; omega) (hkk.symm.trans hRK.1.2.2.2.1)
    subst e
    exact ⟨hRK.1.1, rfl, ned_q hRK.1.2.2.2.2.2.2⟩
  rcases hm with ⟨-, rfl, hno⟩ | ⟨j, kk, wn, hj, rfl, hi, hkk, hb, hne, hwn, hw8, hm⟩
  · have e : wrA a x1 x2 x3 = a := by
      refine wr_no ?_
      cases hkat : kat a x1 with
      | none => exact Or.inl rfl
      | some r =>
        obtain ⟨l, k⟩ := r
        obtain ⟨hl, rfl, hk⟩ := kat_inv hkat
        have hRK := (hR.2.1 l hl).2 k hk
        obtain ⟨z1, z2, z3, z4⟩ := key l (kmo k) hl hRK.1.2.2.2.1 hRK.2.2.1.2.1 k hk
        refine Or.inr ⟨l, k, rfl, ?_⟩
        rw [← z3]
        exact (hno l (kmo k) hl rfl hRK.1.2.2.2.1 hRK.2.2.1.2.1).resolve_left z1
    rw [e]
    exact hR
  · obtain ⟨k, hk, hkat, hRK⟩ := kat_yes hR.2.1 hj hi
    obtain ⟨z1, z2, z3, z4⟩ := key j kk hj hkk hb k hk
    have ew : wn = (dfr k).length := nI_inj (by omega) (by have := hRK.2.2.1.2.2.1; omega) (hwn.symm.trans hRK.2.1.2.2.2.1)
    subst ew
    rw [z3] at hne hm
    rw [z4] at hm
    rcases hm with ⟨-, rfl, h8⟩ | ⟨-, h8, hW⟩
    · rw [wr_fu hkat hne h8]
      exact hR
    · obtain ⟨s, rfl, hs, n1, n2⟩ := ned_bd hRK.2.2.1.2.1 hne
      rw [wr_ok hkat hne h8 rfl (by omega)]
      exact hR.wr hj hk hW h8 hs n1 n2
end S21
theorem r_98w {b : Bool} {σ0 : ae_S} {F0 F : Nat → Nat → Int32} {c g : Int32} {a : AN} {v : Nat → Nat} (h : RS b σ0 F0 σ c (nT a) g F) (hR : RR F v a) (hP : RP F g [] []) (x1 x2 x3 : Int32) : hE ra (d + 2) 98 [.ref 176, .int x1, .int x2, .int x3] σ (pI (fun σ' _ => ∃ c' F', RS false σ0 F σ' c' (nT a) g F' ∧ RP F' g [] [] ∧ RR F' v (wrA a x1 x2 x3))) := by
  refine hE_mono (r_98y h hP x1 x2 x3) (fun r z => ?_)
  obtain ⟨σ', y, er, c', F', z1, z2, z3⟩ := z
  exact ⟨σ', y, er, c', F', z1, z2, hR.wrA z3⟩
end SY21
