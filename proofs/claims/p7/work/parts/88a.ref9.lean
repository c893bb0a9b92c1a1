section RF9
variable {ra : ae_R} {d : Nat} {σ : ae_S}
theorem ned_of {k n sz : Nat} {qu : Int32} (hk : 64 ≤ k ∧ k ≤ 128) (hs : 1 ≤ sz ∧ sz ≤ 400) (h1 : rmm k qu * (n - 1) < sz + 8) (h2 : sz + 8 ≤ rmm k qu * n) : n ≠ 0 ∧ (8 + sz + rmm k qu - 1) / rmm k qu = n := by
  have hr := rmm_bd (qu := qu) hk
  cases n with
  | zero => omega
  | succ m =>
    refine ⟨by omega, ?_⟩
    rw [Nat.succ_sub_one] at h1
    rw [Nat.mul_succ] at h2
    apply Nat.div_eq_of_lt_le
    · rw [Nat.mul_comm, Nat.mul_succ]
      omega
    · rw [Nat.mul_comm, Nat.mul_succ, Nat.mul_succ]
      omega
theorem ned_eq {k n sz : Nat} {qu : Int32} (hk : 64 ≤ k ∧ k ≤ 128) (hs : 1 ≤ sz ∧ sz ≤ 400) (h1 : rmm k qu * (n - 1) < sz + 8) (h2 : sz + 8 ≤ rmm k qu * n) : ned k qu (nI sz) = if n ≤ (if qu = 0 then 1 else 8) then n else 0 := by
  obtain ⟨_, e⟩ := ned_of hk hs h1 h2
  unfold ned
  rw [if_neg (fun z => z.elim (fun y => absurd ((nI_ltI (b := 1) (by omega) (by decide)).mp y) (by omega)) (fun y => absurd ((nI_ltI (a := 400) (by decide) (by omega)).mp y) (by omega))), nI_clamp (by omega), e]
theorem r_98xx {σ0 : ae_S} {F : Nat → Nat → Int32} {c u g : Int32} (h : RS false σ0 F σ c u g F) (hP : RP F g [] []) {x1 x2 x3 : Int32} {x6 x7 : Option Value} (hno : ∀ j k, j < 8 → x1 = nI j → F 182 j = nI k → 64 ≤ k ∧ k ≤ 128 → F 177 j = 0 ∨ ned k (F 179 j) x2 = 0) : hG ra (d + 1) 98 σ [some (.ref 176), some (.int x1), some (.int x2), some (.int x3), some (.int 0), some (.int 0), x6, x7] [] 33 (pI (fun σ' v => ∃ c' F', RS false σ0 F σ' c' u g F' ∧ RP F' g [] [] ∧ ((c' = 1 ∧ F' = F ∧ ∀ j k, j < 8 → x1 = nI j → F 182 j = nI k → 64 ≤ k ∧ k ≤ 128 → F 177 j = 0 ∨ ned k (F 179 j) x2 = 0) ∨ (∃ j k w, j < 8 ∧ x1 = nI j ∧ F 177 j ≠ 0 ∧ F 182 j = nI k ∧ (64 ≤ k ∧ k ≤ 128) ∧ ned k (F 179 j) x2 ≠ 0 ∧ F 189 j = nI w ∧ w ≤ 8 ∧ ((c' = 2 ∧ F' = F ∧ 8 < w + ned k (F 179 j) x2) ∨ (c' = 0 ∧ v = nI (ned k (F 179 j) x2) ∧ w + ned k (F 179 j) x2 ≤ 8 ∧ F' 189 = upd (F 189) j (nI (w + ned k (F 179 j) x2)) ∧ ∀ q, q < 186 → F' q = F q)))))) := by
  refine h_st rfl rfl ?_
  refine h_st rfl rfl ?_
  refine h_pc (if_pos (by decide)) ?_
  refine h_st rfl rfl ?_
  refine h_st rfl rfl ?_
  refine h_st rfl rfl ?_
  refine h_pc (if_pos (by decide)) ?_
  refine h_st rfl rfl ?_
  refine h_st rfl rfl ?_
  refine r_put rfl h rfl (Nat.le_of_ble_eq_true rfl) rfl (fun σ2 h2 => ?_)
  replace h := h2
  clear h2
  refine h_st rfl rfl ?_
  refine h_st rfl (e_get h.2.1 rfl) ?_
  refine h_st rfl rfl ?_
  refine h_pc (if_neg (by decide)) ?_
  refine h_st rfl rfl ?_
  exact h_rt rfl rfl (⟨_, _, rfl, 1, F, h, hP, Or.inl ⟨rfl, rfl, hno⟩⟩)
theorem r_98nx {σ0 : ae_S} {Fx : Nat → Nat → Int32} {c u g : Int32} {l k sz n wn : Nat} {x3 : Int32} (hl : l < 8) (hk : Fx 182 l = nI k) (hk1 : 64 ≤ k ∧ k ≤ 128) (hw : wn + n ≤ 8) : ∀ (m j : Nat) (σ : ae_S) (F : Nat → Nat → Int32) (x7 : Option Value), j + m = n → RS false σ0 Fx σ c u g F → RP F g [] [] → (∀ q, q < 186 → F q = Fx q) → F 189 = upd (Fx 189) l (nI (wn + j)) → hG ra (d + 1) 98 σ [some (.ref 176), some (.int (nI l)), some (.int (nI sz)), some (.int x3), some (.int 1), some (.int (nI n)), some (.int (nI j)), x7] [] 127 (pI (fun σ' v => v = nI n ∧ ∃ F', RS false σ0 Fx σ' c u g F' ∧ RP F' g [] [] ∧ F' 189 = upd (Fx 189) l (nI (wn + n)) ∧ ∀ q, q < 186 → F' q = Fx q)) := by
  intro m
  induction m with
  | zero =>
    intro j σ F x7 hj h hP hag h9
    have hj : j = n := by omega
    subst hj
    refine h_st rfl rfl ?_
    refine h_st rfl rfl ?_
    refine h_st rfl rfl ?_
    refine h_pc (if_pos (decide_eq_true (nI_le (Nat.le_refl _) (by omega)))) ?_
    refine h_st rfl rfl ?_
    refine h_st rfl (e_get h.2.1 rfl) ?_
    refine h_st rfl rfl ?_
    refine h_st rfl rfl ?_
    refine h_st rfl (e_get h.2.1 rfl) ?_
    refine h_st rfl rfl ?_
    refine h_st rfl (q_ia h.a186 (rfl) (hl) (by decide)) ?_
    refine h_st rfl rfl ?_
    refine h_st rfl rfl ?_
    refine h_st rfl rfl ?_
    refine h_st rfl (e_dv (by decide)) ?_
    refine r_ias rfl h m186 (fun z => by cases z) (by decide) (rfl) (hl) (rfl) (fun σ2 h2 => ?_)
    replace h := h2
    clear h2
    refine h_st rfl rfl ?_
    exact h_rt rfl rfl (⟨_, _, rfl, rfl, _, h, hP.fo (by decide), h9, fun q hq => (fu_n (by omega)).trans (hag q hq)⟩)
  | succ m ih =>
    intro j σ F x7 hj h hP hag h9
    have ih1 := fun σ F x7 => ih (j + 1) σ F x7 (by omega)
    simp only [← nI_1] at ih1
    have ea : (8 : Int32) * nI l + nI (wn + j) = nI (8 * l + (wn + j)) := by rw [ix8, nI_add]
    have hin : 8 * l + (wn + j) < 64 := by omega
    have hk' : F 182 l = nI k := (congrFun (hag 182 (by decide)) l).trans hk
    have h9l : F 189 l = nI (wn + j) := by rw [h9, pk_us]
    have euu : upd (F 189) l (nI (wn + (j + 1))) = upd (Fx 189) l (nI (wn + (j + 1))) := by
      funext q
      by_cases e : q = l
      · rw [e, pk_us, pk_us]
      · rw [pk_un e, pk_un e, h9, pk_un e]
    refine h_st rfl rfl ?_
    refine h_st rfl rfl ?_
    refine h_st rfl rfl ?_
    refine h_pc (if_neg (fun z9 => (nI_ge (show j < n by omega) (by omega)) (of_decide_eq_true z9))) ?_
    refine h_st rfl rfl ?_
    refine h_st rfl rfl ?_
    refine h_st rfl rfl ?_
    refine h_st rfl rfl ?_
    refine h_st rfl (e_get h.2.1 rfl) ?_
    refine h_st rfl rfl ?_
    refine h_st rfl (q_iaE h.a189 (rfl) (hl) (by decide) (h9l)) ?_
    refine h_st rfl rfl ?_
    refine h_st rfl rfl ?_
    refine h_st rfl rfl ?_
    refine h_st rfl (e_get h.2.1 rfl) ?_
    refine h_st rfl rfl ?_
    refine h_st rfl rfl ?_
    refine r_ias rfl h m190 (fun z => by cases z) (by decide) (ea) (hin) (rfl) (fun σ2 h2 => ?_)
    replace h := h2
    clear h2
    refine h_st rfl rfl ?_
    refine h_st rfl (e_get h.2.1 rfl) ?_
    refine h_st rfl rfl ?_
    refine h_st rfl rfl ?_
    refine r_ias rfl h m191 (fun z => by cases z) (by decide) (ea) (hin) (rfl) (fun σ2 h2 => ?_)
    replace h := h2
    clear h2
    refine h_st rfl rfl ?_
    refine h_st rfl (e_get h.2.1 rfl) ?_
    refine h_st rfl rfl ?_
    refine h_st rfl rfl ?_
    refine h_st rfl (e_get h.2.1 rfl) ?_
    refine h_st rfl rfl ?_
    refine h_st rfl (q_ia h.a186 (rfl) (hl) (by decide)) ?_
    refine r_ias rfl h m192 (fun z => by cases z) (by decide) (ea) (hin) (rfl) (fun σ2 h2 => ?_)
    replace h := h2
    clear h2
    refine h_st rfl rfl ?_
    refine h_st rfl (e_get h.2.1 rfl) ?_
    refine h_st rfl rfl ?_
    refine h_st rfl rfl ?_
    refine h_st rfl rfl ?_
    refine h_st rfl rfl ?_
    refine h_ci2 rfl (Nat.le_of_ble_eq_true rfl) (e_rcv h.2.1) rfl (r_100 h rfl hl hk' hk1) (fun σ' y9 hq => ?_)
    obtain ⟨hss, rfl⟩ := hq
    replace hss := hss.symm
    subst hss
    refine h_st rfl rfl ?_
    refine r_ias rfl h m193 (fun z => by cases z) (by decide) (ea) (hin) (rfl) (fun σ2 h2 => ?_)
    replace h := h2
    clear h2
    refine h_st rfl rfl ?_
    refine h_st rfl (e_get h.2.1 rfl) ?_
    refine h_st rfl rfl ?_
    refine h_st rfl rfl ?_
    refine h_st rfl (q_ia h.a189 (rfl) (hl) (by decide)) ?_
    refine h_st rfl rfl ?_
    refine h_st rfl rfl ?_
    refine r_ias rfl h m189 (fun z => by cases z) (by decide) (rfl) (hl) (show F 189 l + 1 = nI (wn + (j + 1)) from by rw [h9l, nI_1]; rfl) (fun σ2 h2 => ?_)
    replace h := h2
    clear h2
    have hw2 := hP.2.1.up (k := l) (x := nI (wn + (j + 1))) ⟨wn + (j + 1), by omega, rfl⟩
    refine h_st rfl rfl ?_
    refine h_st rfl rfl ?_
    exact ih1 _ _ _ h (((((hP.fo (by decide)).fo (by decide)).fo (by decide)).fo (by decide)).w9 hw2) (fun q hq => (fu_n (by omega)).trans ((fu_n (by omega)).trans ((fu_n (by omega)).trans ((fu_n (by omega)).trans ((fu_n (by omega)).trans (hag q hq)))))) euu
theorem upd_self (f : Nat → Int32) (l : Nat) : upd f l (f l) = f := by
  funext q
  by_cases e : q = l
  · rw [e, pk_us]
  · rw [pk_un e]
theorem r_98gx {σ0 : ae_S} {F : Nat → Nat → Int32} {c u g : Int32} (h : RS false σ0 F σ c u g F) (hP : RP F g [] []) {l k sz : Nat} {x3 : Int32} (hl : l < 8) (hi : F 177 l ≠ 0) (hk : F 182 l = nI k) (hk1 : 64 ≤ k ∧ k ≤ 128) (hsz : 1 ≤ sz ∧ sz ≤ 400) {n : Nat} {x6 x7 : Option Value} (hn : n ≤ 17) (n1 : rmm k (F 179 l) * (n - 1) < sz + 8) (n2 : sz + 8 ≤ rmm k (F 179 l) * n) : hG ra (d + 1) 98 σ [some (.ref 176), some (.int (nI l)), some (.int (nI sz)), some (.int x3), some (.int 1), some (.int (nI n)), x6, x7] [] 63 (pI (fun σ' v => ∃ c' F', RS false σ0 F σ' c' u g F' ∧ RP F' g [] [] ∧ ((c' = 1 ∧ F' = F ∧ ∀ j k, j < 8 → nI l = nI j → F 182 j = nI k → 64 ≤ k ∧ k ≤ 128 → F 177 j = 0 ∨ ned k (F 179 j) (nI sz) = 0) ∨ (∃ j k w, j < 8 ∧ nI l = nI j ∧ F 177 j ≠ 0 ∧ F 182 j = nI k ∧ (64 ≤ k ∧ k ≤ 128) ∧ ned k (F 179 j) (nI sz) ≠ 0 ∧ F 189 j = nI w ∧ w ≤ 8 ∧ ((c' = 2 ∧ F' = F ∧ 8 < w + ned k (F 179 j) (nI sz)) ∨ (c' = 0 ∧ v = nI (ned k (F 179 j) (nI sz)) ∧ w + ned k (F 179 j) (nI sz) ≤ 8 ∧ F' 189 = upd (F 189) j (nI (w + ned k (F 179 j) (nI sz))) ∧ ∀ q, q < 186 → F' q = F q)))))) := by
  obtain ⟨wn, hwn, ewn⟩ := hP.2.1 l hl
  have hned := ned_eq (qu := F 179 l) hk1 hsz n1 n2
  have hn0 := (ned_of (qu := F 179 l) hk1 hsz n1 n2).1
  have hbad : ned k (F 179 l) (nI sz) = 0 → ∀ j k', j < 8 → nI l = nI j → F 182 j = nI k' → 64 ≤ k' ∧ k' ≤ 128 → F 177 j = 0 ∨ ned k' (F 179 j) (nI sz) = 0 := fun hz j k' hj ej hk' hkb => by
    have e : l = j := nI_inj (by omega) (by omega) ej
    subst e
    have ekk : k' = k := nI_inj (by omega) (by omega) (hk'.symm.trans hk)
    subst ekk
    exact Or.inr hz
  have hgo : ned k (F 179 l) (nI sz) = n → n ≤ 8 → hG ra (d + 1) 98 σ [some (.ref 176), some (.int (nI l)), some (.int (nI sz)), some (.int x3), some (.int 1), some (.int (nI n)), x6, x7] [.ref 176] 93 (pI (fun σ' v => ∃ c' F', RS false σ0 F σ' c' u g F' ∧ RP F' g [] [] ∧ ((c' = 1 ∧ F' = F ∧ ∀ j k, j < 8 → nI l = nI j → F 182 j = nI k → 64 ≤ k ∧ k ≤ 128 → F 177 j = 0 ∨ ned k (F 179 j) (nI sz) = 0) ∨ (∃ j k w, j < 8 ∧ nI l = nI j ∧ F 177 j ≠ 0 ∧ F 182 j = nI k ∧ (64 ≤ k ∧ k ≤ 128) ∧ ned k (F 179 j) (nI sz) ≠ 0 ∧ F 189 j = nI w ∧ w ≤ 8 ∧ ((c' = 2 ∧ F' = F ∧ 8 < w + ned k (F 179 j) (nI sz)) ∨ (c' = 0 ∧ v = nI (ned k (F 179 j) (nI sz)) ∧ w + ned k (F 179 j) (nI sz) ≤ 8 ∧ F' 189 = upd (F 189) j (nI (w + ned k (F 179 j) (nI sz))) ∧ ∀ q, q < 186 → F' q = F q)))))) := by
    intro hne hn8
    refine h_st rfl rfl ?_
    refine h_st rfl (e_get h.2.1 rfl) ?_
    refine h_st rfl rfl ?_
    refine h_st rfl (q_iaE h.a189 (rfl) (hl) (by decide) (ewn)) ?_
    refine h_st rfl rfl ?_
    refine h_st rfl rfl ?_
    refine h_st rfl rfl ?_
    refine h_st rfl rfl ?_
    refine h_br (fun q => ?_) (fun q => ?_)
    · refine h_st rfl rfl ?_
      refine r_put rfl h rfl (Nat.le_of_ble_eq_true rfl) rfl (fun σ2 h2 => ?_)
      replace h := h2
      clear h2
      refine h_st rfl rfl ?_
      refine h_st rfl (e_get h.2.1 rfl) ?_
      refine h_st rfl rfl ?_
      refine h_pc (if_pos (by decide)) ?_
      refine h_st rfl rfl ?_
      refine h_st rfl rfl ?_
      have hw8 : wn + n ≤ 8 := (nI_leI (by omega) (by decide)).mp (show nI (wn + n) ≤ nI 8 from by rw [← nI_add]; exact q)
      obtain ⟨r, g1, σ9, v, rfl, rfl, F9, h9, hP9, e9, ag9⟩ := r_98nx (ra := ra) (d := d) (sz := sz) (x3 := x3) hl hk hk1 hw8 n 0 _ _ x7 (Nat.zero_add _) h hP (fun _ _ => rfl) (by rw [Nat.add_zero, ← ewn]; exact (upd_self _ _).symm)
      exact ⟨_, g1, σ9, _, rfl, 0, F9, h9, hP9, Or.inr ⟨l, k, wn, hl, rfl, hi, hk, hk1, by omega, ewn, by omega, Or.inr ⟨rfl, by rw [hne], by omega, by rw [hne]; exact e9, ag9⟩⟩⟩
    · refine h_st rfl rfl ?_
      refine h_st rfl rfl ?_
      refine r_put rfl h rfl (Nat.le_of_ble_eq_true rfl) rfl (fun σ2 h2 => ?_)
      replace h := h2
      clear h2
      refine h_st rfl rfl ?_
      refine h_st rfl (e_get h.2.1 rfl) ?_
      refine h_st rfl rfl ?_
      refine h_pc (if_neg (by decide)) ?_
      refine h_st rfl rfl ?_
      exact h_rt rfl rfl (⟨_, _, rfl, 2, F, h, hP, Or.inr ⟨l, k, wn, hl, rfl, hi, hk, hk1, by omega, ewn, by omega, Or.inl ⟨rfl, rfl, by rw [hne]; exact Nat.lt_of_not_le (fun z => q (show nI wn + nI n ≤ nI 8 from by rw [nI_add]; exact nI_le z (by decide)))⟩⟩⟩)
  refine h_st rfl rfl ?_
  refine h_st rfl rfl ?_
  refine h_st rfl rfl ?_
  refine h_pc (if_neg (by decide)) ?_
  refine h_st rfl rfl ?_
  refine h_st rfl rfl ?_
  refine h_st rfl (e_get h.2.1 rfl) ?_
  refine h_st rfl rfl ?_
  refine h_st rfl (q_ba h.a179 (rfl) (hl) (by decide)) ?_
  refine h_st rfl rfl ?_
  refine h_br (fun q0 => ?_) (fun q0 => ?_)
  · refine h_st rfl rfl ?_
    rw [if_pos q0] at hned
    refine h_st rfl rfl ?_
    refine h_br (fun q => ?_) (fun q => ?_)
    · have hle : n ≤ 1 := (nI_leI (a := n) (b := 1) (by omega) (by decide)).mp q
      rw [if_pos hle] at hned
      exact hgo hned (by omega)
    · refine h_st rfl rfl ?_
      refine h_st rfl rfl ?_
      refine r_put rfl h rfl (Nat.le_of_ble_eq_true rfl) rfl (fun σ2 h2 => ?_)
      replace h := h2
      clear h2
      refine h_st rfl rfl ?_
      refine h_st rfl (e_get h.2.1 rfl) ?_
      refine h_st rfl rfl ?_
      refine h_pc (if_neg (by decide)) ?_
      refine h_st rfl rfl ?_
      exact h_rt rfl rfl (⟨_, _, rfl, 1, F, h, hP, Or.inl ⟨rfl, rfl, hbad (by rw [hned, if_neg (fun z => q (nI_le z (by decide)))])⟩⟩)
  · refine h_st rfl rfl ?_
    refine h_st rfl rfl ?_
    rw [if_neg q0] at hned
    refine h_st rfl rfl ?_
    refine h_br (fun q => ?_) (fun q => ?_)
    · have hle : n ≤ 8 := (nI_leI (a := n) (b := 8) (by omega) (by decide)).mp q
      rw [if_pos hle] at hned
      exact hgo hned (by omega)
    · refine h_st rfl rfl ?_
      refine h_st rfl rfl ?_
      refine r_put rfl h rfl (Nat.le_of_ble_eq_true rfl) rfl (fun σ2 h2 => ?_)
      replace h := h2
      clear h2
      refine h_st rfl rfl ?_
      refine h_st rfl (e_get h.2.1 rfl) ?_
      refine h_st rfl rfl ?_
      refine h_pc (if_neg (by decide)) ?_
      refine h_st rfl rfl ?_
      exact h_rt rfl rfl (⟨_, _, rfl, 1, F, h, hP, Or.inl ⟨rfl, rfl, hbad (by rw [hned, if_neg (fun z => q (nI_le z (by decide)))])⟩⟩)
theorem r_98lx {σ0 : ae_S} {F : Nat → Nat → Int32} {c u g : Int32} (h : RS false σ0 F σ c u g F) (hP : RP F g [] []) {l k sz : Nat} {x3 : Int32} (hl : l < 8) (hi : F 177 l ≠ 0) (hk : F 182 l = nI k) (hk1 : 64 ≤ k ∧ k ≤ 128) (hsz : 1 ≤ sz ∧ sz ≤ 400) {x7 : Option Value} : ∀ (m n : Nat), n + m = 17 → (n = 0 ∨ rmm k (F 179 l) * (n - 1) < sz + 8) → hG ra (d + 1) 98 σ [some (.ref 176), some (.int (nI l)), some (.int (nI sz)), some (.int x3), some (.int 1), some (.int (nI n)), some (.int (nI (rmm k (F 179 l) * n))), x7] [] 33 (pI (fun σ' v => ∃ c' F', RS false σ0 F σ' c' u g F' ∧ RP F' g [] [] ∧ ((c' = 1 ∧ F' = F ∧ ∀ j k, j < 8 → nI l = nI j → F 182 j = nI k → 64 ≤ k ∧ k ≤ 128 → F 177 j = 0 ∨ ned k (F 179 j) (nI sz) = 0) ∨ (∃ j k w, j < 8 ∧ nI l = nI j ∧ F 177 j ≠ 0 ∧ F 182 j = nI k ∧ (64 ≤ k ∧ k ≤ 128) ∧ ned k (F 179 j) (nI sz) ≠ 0 ∧ F 189 j = nI w ∧ w ≤ 8 ∧ ((c' = 2 ∧ F' = F ∧ 8 < w + ned k (F 179 j) (nI sz)) ∨ (c' = 0 ∧ v = nI (ned k (F 179 j) (nI sz)) ∧ w + ned k (F 179 j) (nI sz) ≤ 8 ∧ F' 189 = upd (F 189) j (nI (w + ned k (F 179 j) (nI sz))) ∧ ∀ q, q < 186 → F' q = F q)))))) := by
  have hp := rmm_bd (qu := F 179 l) hk1
  have e8 : nI sz + 8 = nI (sz + 8) := by rw [show (8 : Int32) = nI 8 from rfl, nI_add]
  have hex : ∀ n, n ≤ 17 → (n = 0 ∨ rmm k (F 179 l) * (n - 1) < sz + 8) → sz + 8 ≤ rmm k (F 179 l) * n → rmm k (F 179 l) * (n - 1) < sz + 8 := fun n _ h1 h2 => by
    rcases h1 with rfl | h1
    · omega
    · exact h1
  intro m
  induction m with
  | zero =>
    intro n hn hpr
    have hn : n = 17 := by omega
    subst hn
    have h17 : sz + 8 ≤ rmm k (F 179 l) * 17 := by omega
    have hb : rmm k (F 179 l) * 17 < 2 ^ 31 := by omega
    refine h_st rfl rfl ?_
    refine h_st rfl rfl ?_
    refine h_pc (if_neg (by decide)) ?_
    refine h_st rfl rfl ?_
    refine h_st rfl rfl ?_
    refine h_st rfl rfl ?_
    refine h_st rfl rfl ?_
    refine h_st rfl rfl ?_
    refine h_pc (if_pos (decide_eq_true (show nI sz + 8 ≤ nI (rmm k (F 179 l) * 17) from by rw [e8]; exact nI_le h17 hb))) ?_
    exact r_98gx h hP hl hi hk hk1 hsz (Nat.le_refl _) (hex 17 (Nat.le_refl _) hpr h17) h17
  | succ m ih =>
    intro n hn hpr
    have hb : rmm k (F 179 l) * n ≤ 89 * 17 := Nat.mul_le_mul hp.2 (by omega)
    have hb2 : rmm k (F 179 l) * n < 2 ^ 31 := by omega
    have ih1 := fun h => ih (n + 1) (by omega) h
    have en : nI (rmm k (F 179 l) * n) + nI (rmm k (F 179 l)) = nI (rmm k (F 179 l) * (n + 1)) := by rw [nI_add, Nat.mul_succ]
    simp only [← en, ← nI_1] at ih1
    refine h_st rfl rfl ?_
    refine h_st rfl rfl ?_
    refine h_pc (if_neg (by decide)) ?_
    refine h_st rfl rfl ?_
    refine h_st rfl rfl ?_
    refine h_st rfl rfl ?_
    refine h_st rfl rfl ?_
    refine h_st rfl rfl ?_
    refine h_br (fun q => ?_) (fun q => ?_)
    · have h2 : sz + 8 ≤ rmm k (F 179 l) * n := (nI_leI (by omega) hb2).mp (show nI (sz + 8) ≤ nI (rmm k (F 179 l) * n) from by rw [← e8]; exact q)
      exact r_98gx h hP hl hi hk hk1 hsz (by omega) (hex n (by omega) hpr h2) h2
    · refine h_st rfl rfl ?_
      refine h_st rfl rfl ?_
      refine h_st rfl rfl ?_
      refine h_st rfl rfl ?_
      refine h_ci2 rfl (Nat.le_of_ble_eq_true rfl) (e_rcv h.2.1) rfl (r_100 h rfl hl hk hk1) (fun σ' y9 hq => ?_)
      obtain ⟨hss, hv9⟩ := hq
      replace hss := hss.symm
      subst hss
      replace hv9 : y9 = nI (rmm k (F 179 l)) := hv9
      subst hv9
      refine h_st rfl rfl ?_
      refine h_st rfl rfl ?_
      refine h_st rfl rfl ?_
      exact ih1 (Or.inr (Nat.lt_of_not_le (fun z => q (show nI sz + 8 ≤ nI (rmm k (F 179 l) * n) from by rw [e8]; exact nI_le z hb2))))
theorem r_98x_ {b : Bool} {σ0 : ae_S} {F0 F : Nat → Nat → Int32} {c u g : Int32} (h : RS b σ0 F0 σ c u g F) (hP : RP F g [] []) (x1 x2 x3 : Int32) : hE ra (d + 2) 98 [.ref 176, .int x1, .int x2, .int x3] σ (pI (fun σ' v => ∃ c' F', RS false σ0 F σ' c' u g F' ∧ RP F' g [] [] ∧ ((c' = 1 ∧ F' = F ∧ ∀ j k, j < 8 → x1 = nI j → F 182 j = nI k → 64 ≤ k ∧ k ≤ 128 → F 177 j = 0 ∨ ned k (F 179 j) x2 = 0) ∨ (∃ j k w, j < 8 ∧ x1 = nI j ∧ F 177 j ≠ 0 ∧ F 182 j = nI k ∧ (64 ≤ k ∧ k ≤ 128) ∧ ned k (F 179 j) x2 ≠ 0 ∧ F 189 j = nI w ∧ w ≤ 8 ∧ ((c' = 2 ∧ F' = F ∧ 8 < w + ned k (F 179 j) x2) ∨ (c' = 0 ∧ v = nI (ned k (F 179 j) x2) ∧ w + ned k (F 179 j) x2 ≤ 8 ∧ F' 189 = upd (F 189) j (nI (w + ned k (F 179 j) x2)) ∧ ∀ q, q < 186 → F' q = F q)))))) := by
  have hfl : RS false σ0 F σ c u g F := h.fls
  replace h := hfl
  clear hfl
  refine h_in rfl rfl (Nat.le_of_ble_eq_true rfl) ?_
  refine h_st rfl rfl ?_
  refine h_st rfl rfl ?_
  refine h_ci2 rfl (Nat.le_of_ble_eq_true rfl) (e_rcv h.2.1) rfl (r_99t h _) (fun σ' y9 hq => ?_)
  obtain ⟨hss, hv⟩ := hq
  replace hss := hss.symm
  subst hss
  rcases hv with ⟨rfl, hv⟩ | ⟨rfl, l, hl, rfl, hil⟩
  · refine h_st rfl rfl ?_
    refine h_pc (if_pos (by decide)) ?_
    refine h_st rfl rfl ?_
    refine h_st rfl rfl ?_
    refine h_st rfl rfl ?_
    refine h_st rfl rfl ?_
    refine h_st rfl rfl ?_
    refine h_st rfl rfl ?_
    exact r_98xx h hP (fun j k hj ej _ _ => Or.inl (hv j hj ej))
  · refine h_st rfl rfl ?_
    refine h_pc (if_neg (by decide)) ?_
    refine h_st rfl rfl ?_
    refine h_st rfl rfl ?_
    refine h_st rfl rfl ?_
    refine h_br (fun q1 => ?_) (fun q1 => ?_)
    · refine h_st rfl rfl ?_
      refine h_st rfl rfl ?_
      refine h_st rfl rfl ?_
      refine h_st rfl rfl ?_
      refine h_st rfl rfl ?_
      refine h_st rfl rfl ?_
      exact r_98xx h hP (fun j k hj ej _ _ => Or.inr (by unfold ned; rw [if_pos (Or.inl q1)]))
    · refine h_st rfl rfl ?_
      refine h_st rfl rfl ?_
      refine h_st rfl rfl ?_
      refine h_br (fun q2 => ?_) (fun q2 => ?_)
      · refine h_st rfl rfl ?_
        refine h_st rfl rfl ?_
        refine h_st rfl rfl ?_
        refine h_st rfl rfl ?_
        refine h_st rfl rfl ?_
        refine h_st rfl rfl ?_
        exact r_98xx h hP (fun j k hj ej _ _ => Or.inr (by unfold ned; rw [if_pos (Or.inr q2)]))
      · refine h_st rfl rfl ?_
        refine h_st rfl rfl ?_
        refine h_st rfl rfl ?_
        refine h_st rfl rfl ?_
        refine h_st rfl rfl ?_
        refine h_st rfl rfl ?_
        refine h_st rfl rfl ?_
        obtain ⟨sz, hsz, rfl⟩ := nI_of2 (x := x2) (M := 400) (n := 400) (by decide) (fun z => q1 (Int32.lt_trans z (by decide))) (Int32.not_lt.mp q2)
        have hs1 : 1 ≤ sz := Nat.le_of_not_lt (fun z => q1 ((nI_ltI (b := 1) (by omega) (by decide)).mpr z))
        obtain ⟨k, hk1, hk2, hk⟩ := hP.1.2 l hl hil
        exact r_98lx h hP hl hil hk ⟨hk1, hk2⟩ ⟨hs1, hsz⟩ 17 0 rfl (Or.inl rfl)
end RF9
