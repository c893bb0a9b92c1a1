section RF4
variable {ra : ae_R} {d : Nat} {σ : ae_S}
theorem q_iaE {L : ae_Ls} {s : List Value} {np p n k : Nat} {j v : Int32} {f : Nat → Int32} (h : σ.2[p]? = some (.inl (0, n, .inl f))) (ej : j = nI k) (hk : k < n) (hn : n ≤ 200000) (ev : f k = v) : o_ia np ra σ L (.int j :: .ref p :: s) = some (σ, L, .int v :: s, np) := by
  rw [← ev]
  exact q_ia h ej hk hn
theorem q_baE {L : ae_Ls} {s : List Value} {np p n k : Nat} {j v : Int32} {f : Nat → Int32} (h : σ.2[p]? = some (.inl (2, n, .inl f))) (ej : j = nI k) (hk : k < n) (hn : n ≤ 200000) (ev : f k = v) : o_ba np ra σ L (.int j :: .ref p :: s) = some (σ, L, .int v :: s, np) := by
  rw [← ev]
  exact q_ba h ej hk hn
theorem i_nn {x : Int32} (h : ¬ x < 0) : ∃ k, k < 2 ^ 31 ∧ x = nI k := by
  refine rg_bv ?_
  have h1 : ¬ x.toInt < 0 := fun z => h (Int32.lt_iff_toInt_lt.mpr z)
  have h2 : x.toInt = x.toBitVec.toInt := rfl
  rw [h2, BitVec.toInt_eq_toNat_cond] at h1
  have := x.toBitVec.isLt
  split at h1 <;> omega
theorem GP.f4 {t1 t2 t3 t4 : Nat → Int32} {k : Nat} {x : Int32} (h : GP t1 t2 t3 t4) (hx : rg x 256) : GP (upd t1 k x) t2 t3 t4 := by
  refine ⟨fun i hi => ?_, h.2⟩
  by_cases e : i = k
  · rw [e, pk_us]
    exact Or.inr hx
  · rw [pk_un e]
    exact h.1 i hi
theorem rg.up {f : Nat → Int32} {n N k : Nat} {x : Int32} (h : ∀ i, i < N → rg (f i) n) (hx : rg x n) : ∀ i, i < N → rg (upd f k x i) n := by
  intro i hi
  by_cases e : i = k
  · rw [e, pk_us]
    exact hx
  · rw [pk_un e]
    exact h i hi
section RPY
variable {F : Nat → Nat → Int32} {g : Int32} {a e : List Nat} {k : Nat} {x : Int32}
theorem RP.u4 (h : RP F g a e) (hx : rg x 256) : RP (fu F 204 (upd (F 204) k x)) g a e := ⟨h.1, h.2.1, h.2.2.1, h.2.2.2.1, h.2.2.2.2.1, h.2.2.2.2.2.1.f4 hx, h.2.2.2.2.2.2⟩
theorem RP.u7 (h : RP F g a e) (hx : rg x 1001) : RP (fu F 207 (upd (F 207) k x)) g a e := ⟨h.1, h.2.1, h.2.2.1, h.2.2.2.1, h.2.2.2.2.1, ⟨h.2.2.2.2.2.1.1, rg.up h.2.2.2.2.2.1.2.1 hx, h.2.2.2.2.2.1.2.2⟩, h.2.2.2.2.2.2⟩
theorem RP.u9 (h : RP F g a e) (hx : rg x 5) : RP (fu F 209 (upd (F 209) k x)) g a e := ⟨h.1, h.2.1, h.2.2.1, h.2.2.2.1, h.2.2.2.2.1, ⟨h.2.2.2.2.2.1.1, h.2.2.2.2.2.1.2.1, rg.up h.2.2.2.2.2.1.2.2.1 hx, h.2.2.2.2.2.1.2.2.2⟩, h.2.2.2.2.2.2⟩
theorem RP.u10 (h : RP F g a e) (hx : rg x 993) : RP (fu F 210 (upd (F 210) k x)) g a e := ⟨h.1, h.2.1, h.2.2.1, h.2.2.2.1, h.2.2.2.2.1, ⟨h.2.2.2.2.2.1.1, h.2.2.2.2.2.1.2.1, h.2.2.2.2.2.1.2.2.1, rg.up h.2.2.2.2.2.1.2.2.2 hx⟩, h.2.2.2.2.2.2⟩
end RPY
theorem r_128e {b : Bool} {σ0 : ae_S} {F0 F : Nat → Nat → Int32} {c u g : Int32} (h : RS b σ0 F0 σ c u g F) {a e : List Nat} {f l : Nat} (hf : f < 400) (hl : l < 24) (hP : RP F g (f :: a) (f :: e)) (hon : F 199 l = -1) : hG ra (d + 2) 128 σ [some (.ref 176), some (.int (nI l)), some (.int (nI f))] [] 87 (pV (fun σ' => ∃ F', RS b σ0 F0 σ' c u g F' ∧ RP F' g a e)) := by
  obtain ⟨sz, z1, z2, hz⟩ := hP.2.2.2.1.2.2.1 f hf (Or.inr List.mem_cons_self)
  obtain ⟨hh1, hh2⟩ := hP.2.2.2.2.1 l hl
  obtain ⟨k, hk, ek⟩ := i_nn hh1
  have er : nI k - nI k / nI sz * nI sz = nI (k % sz) := pk_rem (a := k) (d := sz) hk (by omega) (by omega)
  have hks : k % sz < sz := Nat.mod_lt _ (by omega)
  have ej : (200 : Int32) * nI f + (F 201 l - F 201 l / nI sz * nI sz) = nI (200 * f + k % sz) := by rw [ek, er, ix2]
  have hin : 200 * f + k % sz < 80000 := by omega
  refine h_st rfl rfl ?_
  refine h_st rfl rfl ?_
  refine h_st rfl rfl ?_
  refine h_pc (if_pos (decide_eq_true (nI_nm1 (by omega)))) ?_
  refine h_st rfl rfl ?_
  refine h_st rfl (e_get h.2.1 rfl) ?_
  refine h_st rfl rfl ?_
  refine h_st rfl (q_ia h.a202 (rfl) (hl) (by decide)) ?_
  refine h_st rfl rfl ?_
  refine h_br (fun q1 => ?_) (fun q1 => ?_)
  · refine h_st rfl rfl ?_
    refine h_st rfl (e_get h.2.1 rfl) ?_
    refine h_st rfl rfl ?_
    refine h_st rfl rfl ?_
    refine r_ias rfl h m202 (fun _ => by decide) (by decide) (rfl) (hl) (rfl) (fun σ2 h2 => ?_)
    replace h := h2
    clear h2
    replace hP := hP.h2 (hP.2.2.2.2.1.m1 (l := l))
    refine h_st rfl rfl ?_
    refine h_st rfl (e_get h.2.1 rfl) ?_
    refine h_st rfl rfl ?_
    refine h_st rfl rfl ?_
    refine r_ias rfl h m199 (fun _ => by decide) (by decide) (rfl) (hl) (rfl) (fun σ2 h2 => ?_)
    replace h := h2
    clear h2
    replace hP := hP.n9 (hP.2.2.2.1.onF hf hl hon)
    refine h_st rfl rfl ?_
    refine h_st rfl (e_get h.2.1 rfl) ?_
    refine h_st rfl rfl ?_
    refine h_st rfl rfl ?_
    refine r_ias rfl h m200 (fun _ => by decide) (by decide) (rfl) (hl) (rfl) (fun σ2 h2 => ?_)
    replace h := h2
    clear h2
    exact h_rv rfl (⟨_, rfl, _, h, hP.fo (by decide)⟩)
  · have hmk : rg (F 202 l) 256 := hh2.resolve_left (fun z => q1 (by rw [z]; decide))
    refine h_st rfl rfl ?_
    refine h_st rfl (e_get h.2.1 rfl) ?_
    refine h_st rfl rfl ?_
    refine h_st rfl rfl ?_
    refine h_st rfl rfl ?_
    refine h_st rfl rfl ?_
    refine h_st rfl (e_get h.2.1 rfl) ?_
    refine h_st rfl rfl ?_
    refine h_st rfl (q_ia h.a201 (rfl) (hl) (by decide)) ?_
    refine h_st rfl rfl ?_
    refine h_st rfl (e_get h.2.1 rfl) ?_
    refine h_st rfl rfl ?_
    refine h_st rfl (q_iaE h.a195 (rfl) (hf) (by decide) (hz)) ?_
    refine h_st rfl (e_dv (nI_ne0 (by omega) (by omega))) ?_
    refine h_st rfl rfl ?_
    refine h_st rfl rfl ?_
    refine h_st rfl (q_ia h.a194 (ej) (hin) (by decide)) ?_
    refine h_st rfl rfl ?_
    refine h_st rfl (e_get h.2.1 rfl) ?_
    refine h_st rfl rfl ?_
    refine h_st rfl (q_ia h.a202 (rfl) (hl) (by decide)) ?_
    refine h_st rfl rfl ?_
    refine r_ias rfl h m194 (fun _ => by decide) (by decide) (ej) (hin) (rfl) (fun σ2 h2 => ?_)
    replace h := h2
    clear h2
    replace hP := hP.b (hP.2.2.1.upd (k := 200 * f + k % sz) (rg_xor (hP.2.2.1 _ hin) hmk))
    refine h_st rfl rfl ?_
    refine h_st rfl (e_get h.2.1 rfl) ?_
    refine h_st rfl rfl ?_
    refine h_st rfl rfl ?_
    refine r_ias rfl h m202 (fun _ => by decide) (by decide) (rfl) (hl) (rfl) (fun σ2 h2 => ?_)
    replace h := h2
    clear h2
    replace hP := hP.h2 (hP.2.2.2.2.1.m1 (l := l))
    refine h_st rfl rfl ?_
    refine h_st rfl (e_get h.2.1 rfl) ?_
    refine h_st rfl rfl ?_
    refine h_st rfl rfl ?_
    refine r_ias rfl h m199 (fun _ => by decide) (by decide) (rfl) (hl) (rfl) (fun σ2 h2 => ?_)
    replace h := h2
    clear h2
    replace hP := hP.n9 (hP.2.2.2.1.onF hf hl hon)
    refine h_st rfl rfl ?_
    refine h_st rfl (e_get h.2.1 rfl) ?_
    refine h_st rfl rfl ?_
    refine h_st rfl rfl ?_
    refine r_ias rfl h m200 (fun _ => by decide) (by decide) (rfl) (hl) (rfl) (fun σ2 h2 => ?_)
    replace h := h2
    clear h2
    exact h_rv rfl (⟨_, rfl, _, h, hP.fo (by decide)⟩)
theorem r_128n {b : Bool} {σ0 : ae_S} {F0 F : Nat → Nat → Int32} {c u g : Int32} (h : RS b σ0 F0 σ c u g F) {a e : List Nat} {l : Nat} (hP : RP F g a e) : hG ra (d + 2) 128 σ [some (.ref 176), some (.int (nI l)), some (.int (-1))] [] 34 (pV (fun σ' => ∃ F', RS b σ0 F0 σ' c u g F' ∧ RP F' g a e)) := by
  refine h_st rfl rfl ?_
  refine h_st rfl rfl ?_
  refine h_st rfl rfl ?_
  refine h_pc (if_pos (by decide)) ?_
  refine h_st rfl rfl ?_
  refine h_st rfl rfl ?_
  refine h_st rfl rfl ?_
  refine h_pc (if_neg (by decide)) ?_
  exact h_rv rfl (⟨_, rfl, _, h, hP⟩)
theorem r_128c {b : Bool} {σ0 : ae_S} {F0 F : Nat → Nat → Int32} {c u g : Int32} (h : RS b σ0 F0 σ c u g F) {a e : List Nat} {f l : Nat} (hf : f < 400) (hl : l < 24) (hP : RP F g (f :: a) (f :: e)) (hon : F 199 l = -1) (hmk : F 202 l = -1) : hG ra (d + 2) 128 σ [some (.ref 176), some (.int (nI l)), some (.int (nI f))] [] 34 (pV (fun σ' => ∃ F', RS b σ0 F0 σ' c u g F' ∧ RP F' g a e)) := by
  refine h_st rfl rfl ?_
  refine h_st rfl rfl ?_
  refine h_st rfl rfl ?_
  refine h_pc (if_neg (fun z9 => (nI_nm1 (by omega)) (of_decide_eq_true z9))) ?_
  refine h_st rfl rfl ?_
  refine h_st rfl (e_get h.2.1 rfl) ?_
  refine h_st rfl rfl ?_
  refine h_st rfl (q_iaE h.a202 (rfl) (hl) (by decide) (hmk)) ?_
  refine h_st rfl rfl ?_
  refine h_pc (if_pos (by decide)) ?_
  exact r_128e h hf hl hP hon
theorem ix2l (l : Nat) : (2 : Int32) * nI l = nI (2 * l) ∧ (2 : Int32) * nI l + 1 = nI (2 * l + 1) := by
  refine ⟨?_, ?_⟩
  · rw [show (2 : Int32) = nI 2 from rfl, pk_mul]
  · rw [show (2 : Int32) = nI 2 from rfl, pk_mul, nI_1]
theorem r_128f {b : Bool} {σ0 : ae_S} {F0 F : Nat → Nat → Int32} {c u g : Int32} (h : RS b σ0 F0 σ c u g F) {a e : List Nat} {f l : Nat} (hf : f < 400) (hl : l < 24) (hP : RP F g (f :: a) (f :: e)) (hon : F 199 l = -1) : hG ra (d + 2) 128 σ [some (.ref 176), some (.int (nI l)), some (.int (nI f))] [] 34 (pV (fun σ' => ∃ F', RS b σ0 F0 σ' c u g F' ∧ RP F' g a e)) := by
  refine h_st rfl rfl ?_
  refine h_st rfl rfl ?_
  refine h_st rfl rfl ?_
  refine h_pc (if_neg (fun z9 => (nI_nm1 (by omega)) (of_decide_eq_true z9))) ?_
  refine h_st rfl rfl ?_
  refine h_st rfl (e_get h.2.1 rfl) ?_
  refine h_st rfl rfl ?_
  refine h_st rfl (q_ia h.a202 (rfl) (hl) (by decide)) ?_
  refine h_st rfl rfl ?_
  refine h_br (fun _ => r_128e h hf hl hP hon) (fun q => ?_)
  refine h_st rfl rfl ?_
  refine h_st rfl (e_get h.2.1 rfl) ?_
  refine h_st rfl rfl ?_
  refine h_st rfl rfl ?_
  refine r_ias rfl h m202 (fun _ => by decide) (by decide) (rfl) (hl) (rfl) (fun σ2 h2 => ?_)
  replace h := h2
  clear h2
  replace hP := hP.h2 (hP.2.2.2.2.1.m1 (l := l))
  have hmk : fu F 202 (upd (F 202) l (-1)) 202 l = -1 := pk_us
  refine h_st rfl rfl ?_
  refine h_st rfl rfl ?_
  refine h_st rfl rfl ?_
  refine h_cv3 rfl (Nat.le_of_ble_eq_true rfl) (e_rcv h.2.1) rfl (r_113 h rfl hf hP (rfl : (0 : Int32) = nI 0) (by decide)) (fun σ4 hq => ?_)
  obtain ⟨F4, h4, hP4, ag4⟩ := hq
  replace h := h4
  replace hP := hP4
  replace hon : F4 199 l = -1 := (congrFun (ag4 199 (by decide) (by decide)) l).trans hon
  replace hmk : F4 202 l = -1 := (congrFun (ag4 202 (by decide) (by decide)) l).trans hmk
  refine h_st rfl rfl ?_
  refine h_st rfl rfl ?_
  refine h_st rfl rfl ?_
  refine h_st rfl rfl ?_
  refine h_st rfl rfl ?_
  refine h_st rfl rfl ?_
  refine h_ci2 rfl (Nat.le_of_ble_eq_true rfl) (e_rcv h.2.1) rfl (r_129t h hP (ix2l l).2 (by omega)) (fun σ2 v2 hq => ?_)
  rcases hq with ⟨rfl, hss⟩ | ⟨f, F2, rfl, hf, h2, hP2, ag2⟩
  · replace hss := hss.symm
    subst hss
    refine h_st rfl rfl ?_
    refine h_st rfl rfl ?_
    refine h_st rfl rfl ?_
    refine h_st rfl rfl ?_
    refine h_pc (if_neg (by decide)) ?_
    refine h_st rfl rfl ?_
    refine h_st rfl rfl ?_
    refine h_st rfl rfl ?_
    refine h_st rfl rfl ?_
    refine h_ci2 rfl (Nat.le_of_ble_eq_true rfl) (e_rcv h.2.1) rfl (r_129t h hP (ix2l l).1 (by omega)) (fun σ3 v3 hq => ?_)
    rcases hq with ⟨rfl, hss⟩ | ⟨f, F2, rfl, hf, h2, hP2, ag2⟩
    · replace hss := hss.symm
      subst hss
      refine h_st rfl rfl ?_
      refine h_st rfl rfl ?_
      exact r_128n h hP
    · refine h_st rfl rfl ?_
      refine h_st rfl rfl ?_
      exact r_128c h2 hf hl hP2 ((congrFun (ag2 199 (by decide) (by decide)) l).trans hon) ((congrFun (ag2 202 (by decide) (by decide)) l).trans hmk)
  · refine h_st rfl rfl ?_
    refine h_st rfl rfl ?_
    refine h_st rfl rfl ?_
    refine h_st rfl rfl ?_
    refine h_pc (if_pos (decide_eq_true (nI_nm1 (by omega)))) ?_
    exact r_128c h2 hf hl hP2 ((congrFun (ag2 199 (by decide) (by decide)) l).trans hon) ((congrFun (ag2 202 (by decide) (by decide)) l).trans hmk)
theorem r_128t {b : Bool} {σ0 : ae_S} {F0 F : Nat → Nat → Int32} {c u g : Int32} (h : RS b σ0 F0 σ c u g F) {a e : List Nat} (hP : RP F g a e) {l : Nat} {x : Int32} (el : x = nI l) (hl : l < 24) : hE ra (d + 3) 128 [.ref 176, .int x] σ (pV (fun σ' => ∃ F', RS b σ0 F0 σ' c u g F' ∧ RP F' g a e)) := by
  subst el
  refine h_in rfl rfl (Nat.le_of_ble_eq_true rfl) ?_
  refine h_st rfl rfl ?_
  refine h_st rfl (e_get h.2.1 rfl) ?_
  refine h_st rfl rfl ?_
  refine h_st rfl (q_ia h.a199 (rfl) (hl) (by decide)) ?_
  refine h_st rfl rfl ?_
  refine h_st rfl rfl ?_
  refine h_br (fun hon => ?_) (fun _ => ?_)
  · refine h_st rfl rfl ?_
    refine h_st rfl rfl ?_
    refine h_st rfl rfl ?_
    refine h_st rfl rfl ?_
    refine h_st rfl rfl ?_
    refine h_st rfl rfl ?_
    refine h_ci2 rfl (Nat.le_of_ble_eq_true rfl) (e_rcv h.2.1) rfl (r_129t h hP (ix2l l).2 (by omega)) (fun σ2 v2 hq => ?_)
    rcases hq with ⟨rfl, hss⟩ | ⟨f, F2, rfl, hf, h2, hP2, ag2⟩
    · replace hss := hss.symm
      subst hss
      refine h_st rfl rfl ?_
      refine h_st rfl rfl ?_
      refine h_st rfl rfl ?_
      refine h_st rfl rfl ?_
      refine h_pc (if_neg (by decide)) ?_
      refine h_st rfl rfl ?_
      refine h_st rfl rfl ?_
      refine h_st rfl rfl ?_
      refine h_st rfl rfl ?_
      refine h_ci2 rfl (Nat.le_of_ble_eq_true rfl) (e_rcv h.2.1) rfl (r_129t h hP (ix2l l).1 (by omega)) (fun σ3 v3 hq => ?_)
      rcases hq with ⟨rfl, hss⟩ | ⟨f, F2, rfl, hf, h2, hP2, ag2⟩
      · replace hss := hss.symm
        subst hss
        refine h_st rfl rfl ?_
        exact r_128n h hP
      · refine h_st rfl rfl ?_
        exact r_128f h2 hf hl hP2 ((congrFun (ag2 199 (by decide) (by decide)) l).trans hon)
    · refine h_st rfl rfl ?_
      refine h_st rfl rfl ?_
      refine h_st rfl rfl ?_
      refine h_st rfl rfl ?_
      refine h_pc (if_pos (decide_eq_true (nI_nm1 (by omega)))) ?_
      exact r_128f h2 hf hl hP2 ((congrFun (ag2 199 (by decide) (by decide)) l).trans hon)
  · exact h_rv rfl (⟨_, rfl, _, h, hP⟩)
theorem r_123m {b : Bool} {σ0 : ae_S} {F0 F : Nat → Nat → Int32} {c u g : Int32} {a e : List Nat} {k n pl sv mm : Nat} {x : Int32} {x5 : Option Value} (hk : k < 32) (hs : 8 ≤ sv ∧ sv ≤ 1000) (hmm : mm < 4) {P : ae_S × ae_O → Prop} (hP : RP F g a e) (hx : ∀ σ fb, RS b σ0 F0 σ c u g (fu F 211 fb) → hG ra (d + 2) 123 σ [some (.ref 176), some (.int x), some (.int (nI k)), some (.int (nI n)), some (.int (nI pl)), x5, some (.int (nI sv)), some (.int (nI (4 * k + mm))), some (.int (nI sv))] [] 338 P) : ∀ (m i : Nat) (σ : ae_S) (fb : Nat → Int32), i + m = sv → 8 ≤ i → RS b σ0 F0 σ c u g (fu F 211 fb) → hG ra (d + 2) 123 σ [some (.ref 176), some (.int x), some (.int (nI k)), some (.int (nI n)), some (.int (nI pl)), x5, some (.int (nI sv)), some (.int (nI (4 * k + mm))), some (.int (nI i))] [] 295 P := by
  intro m
  induction m with
  | zero =>
    intro i σ fb hi h8 h
    have hi : i = sv := by omega
    subst hi
    refine h_st rfl rfl ?_
    refine h_st rfl rfl ?_
    refine h_st rfl rfl ?_
    refine h_pc (if_pos (decide_eq_true (nI_le (Nat.le_refl _) (by omega)))) ?_
    exact hx _ _ h
  | succ m ih =>
    intro i σ fb hi h8 h
    have ih1 := fun σ fb => ih (i + 1) σ fb (by omega) (by omega)
    simp only [← nI_1] at ih1
    have e1 : (1000 : Int32) * nI (4 * k + mm) + nI i - 8 = nI (1000 * (4 * k + mm) + i - 8) := by rw [show (1000 : Int32) = nI 1000 from rfl, pk_mul, nI_add, show (8 : Int32) = nI 8 from rfl, pk_sub (by omega)]
    have e2 : (1000 : Int32) * nI k + nI i = nI (1000 * k + i) := by rw [show (1000 : Int32) = nI 1000 from rfl, pk_mul, nI_add]
    refine h_st rfl rfl ?_
    refine h_st rfl rfl ?_
    refine h_st rfl rfl ?_
    refine h_pc (if_neg (fun z9 => (nI_ge (show i < sv by omega) (by omega)) (of_decide_eq_true z9))) ?_
    refine h_st rfl rfl ?_
    refine h_st rfl (e_get h.2.1 rfl) ?_
    refine h_st rfl rfl ?_
    refine h_st rfl rfl ?_
    refine h_st rfl rfl ?_
    refine h_st rfl rfl ?_
    refine h_st rfl rfl ?_
    refine h_st rfl rfl ?_
    refine h_st rfl rfl ?_
    refine h_st rfl rfl ?_
    refine h_st rfl (e_get h.2.1 rfl) ?_
    refine h_st rfl rfl ?_
    refine h_st rfl rfl ?_
    refine h_st rfl rfl ?_
    refine h_st rfl rfl ?_
    refine h_st rfl rfl ?_
    refine h_st rfl (q_ia h.a208 (e2) (by omega) (by decide)) ?_
    refine r_ias rfl h m211 (fun _ => by decide) (by decide) (e1) (by omega) (rfl) (fun σ2 h2 => ?_)
    replace h := h2
    clear h2
    rw [fu_fu] at h
    refine h_st rfl rfl ?_
    refine h_st rfl rfl ?_
    exact ih1 _ _ h
theorem r_123g {b : Bool} {σ0 : ae_S} {F0 F : Nat → Nat → Int32} {c u g : Int32} (h : RS b σ0 F0 σ c u g F) {a e : List Nat} {f k n pl : Nat} {x : Int32} (ef : x = nI f) (hf : f < 400) (hk : k < 32) (hP : RP F g a e) {sv mq : Nat} {x5 x7 x8 : Option Value} (hs : 8 ≤ sv ∧ sv ≤ 1000) (hmq : F 209 k = nI mq) (hmq4 : mq ≤ 4) : hG ra (d + 2) 123 σ [some (.ref 176), some (.int x), some (.int (nI k)), some (.int (nI n)), some (.int (nI pl)), x5, some (.int (nI sv)), x7, x8] [] 254 (pI (fun σ' v => ∃ F' w, v = nI w ∧ w < 12 ∧ RS b σ0 F0 σ' c u g F' ∧ RP F' g a e)) := by
  have e4 : (4 : Int32) * nI k + nI mq = nI (4 * k + mq) := by rw [show (4 : Int32) = nI 4 from rfl, pk_mul, nI_add]
  have e8 : nI sv - 8 = nI (sv - 8) := by rw [show (8 : Int32) = nI 8 from rfl, pk_sub (by omega)]
  refine h_st rfl rfl ?_
  refine h_st rfl (e_get h.2.1 rfl) ?_
  refine h_st rfl rfl ?_
  refine h_st rfl (q_iaE h.a209 (rfl) (hk) (by decide) (hmq)) ?_
  refine h_st rfl rfl ?_
  refine h_st rfl rfl ?_
  refine h_br (fun q => ?_) (fun q => ?_)
  · have hm4 : mq < 4 := Nat.lt_of_le_of_ne hmq4 (fun z => q (by rw [z]; rfl))
    refine h_st rfl rfl ?_
    refine h_st rfl rfl ?_
    refine h_st rfl rfl ?_
    refine h_st rfl rfl ?_
    refine h_st rfl (e_get h.2.1 rfl) ?_
    refine h_st rfl rfl ?_
    refine h_st rfl (q_iaE h.a209 (rfl) (hk) (by decide) (hmq)) ?_
    refine h_st rfl rfl ?_
    refine h_st rfl rfl ?_
    refine h_st rfl rfl ?_
    refine h_st rfl (e_get h.2.1 rfl) ?_
    refine h_st rfl rfl ?_
    refine h_st rfl rfl ?_
    refine h_st rfl rfl ?_
    refine h_st rfl rfl ?_
    refine r_ias rfl h m210 (fun _ => by decide) (by decide) (e4) (by omega) (e8) (fun σ2 h2 => ?_)
    replace h := h2
    clear h2
    replace hP := hP.u10 (k := 4 * k + mq) (x := nI (sv - 8)) ⟨sv - 8, by omega, rfl⟩
    rw [← fu_self (fu F 210 (upd (F 210) (4 * k + mq) (nI (sv - 8)))) 211] at h
    refine h_st rfl rfl ?_
    refine h_st rfl rfl ?_
    simp only [e4]
    refine r_123m (sv := sv) hk hs hm4 hP (fun σ9 fb h => ?_) (sv - 8) 8 _ _ (by omega) (by omega) h
    replace hP := RP.fo (p := 211) (f := fb) hP (by decide)
    refine h_st rfl rfl ?_
    refine h_st rfl (e_get h.2.1 rfl) ?_
    refine h_st rfl rfl ?_
    refine h_st rfl rfl ?_
    refine h_st rfl (q_ia h.a209 (rfl) (hk) (by decide)) ?_
    refine h_st rfl rfl ?_
    refine h_st rfl rfl ?_
    refine r_ias rfl h m209 (fun _ => by decide) (by decide) (rfl) (hk) (show F 209 k + 1 = nI (mq + 1) from by rw [hmq]; exact nI_1 mq) (fun σ2 h2 => ?_)
    replace h := h2
    clear h2
    replace hP := hP.u9 (k := k) (x := nI (mq + 1)) ⟨mq + 1, by omega, rfl⟩
    refine h_st rfl rfl ?_
    refine h_st rfl (e_get h.2.1 rfl) ?_
    refine h_st rfl rfl ?_
    refine h_st rfl rfl ?_
    refine h_st rfl (e_get h.2.1 rfl) ?_
    refine r_ias rfl h m212 (fun _ => by decide) (by decide) (rfl) (hk) (rfl) (fun σ2 h2 => ?_)
    replace h := h2
    clear h2
    refine h_st rfl rfl ?_
    exact h_rt rfl rfl (⟨_, _, rfl, _, 0, rfl, by decide, h, hP.fo (by decide)⟩)
  · refine h_st rfl rfl ?_
    exact h_rt rfl rfl (⟨_, _, rfl, _, 11, rfl, by decide, h, hP⟩)
theorem r_123h {b : Bool} {σ0 : ae_S} {F0 F : Nat → Nat → Int32} {c u g : Int32} (h : RS b σ0 F0 σ c u g F) {a e : List Nat} {f k n pl : Nat} {x : Int32} (ef : x = nI f) (hf : f < 400) (hk : k < 32) (hP : RP F g a e) {sv : Nat} {x5 x7 x8 : Option Value} (hs : 8 ≤ sv ∧ sv ≤ 1000) : hG ra (d + 2) 123 σ [some (.ref 176), some (.int x), some (.int (nI k)), some (.int (nI n)), some (.int (nI pl)), x5, some (.int (nI sv)), x7, x8] [] 235 (pI (fun σ' v => ∃ F' w, v = nI w ∧ w < 12 ∧ RS b σ0 F0 σ' c u g F' ∧ RP F' g a e)) := by
  have ek8 : nI k - nI k / 8 * 8 = nI (k % 8) := pk_rem (a := k) (d := 8) (by omega) (by decide) (by decide)
  have hk8 : k % 8 < 8 := Nat.mod_lt _ (by decide)
  obtain ⟨mq, hmq4, hmq⟩ := hP.2.2.2.2.2.1.2.2.1 k hk
  refine h_st rfl rfl ?_
  refine h_st rfl (e_get h.2.1 rfl) ?_
  refine h_st rfl rfl ?_
  refine h_st rfl rfl ?_
  refine h_st rfl (e_dv (by decide)) ?_
  refine h_st rfl (q_ba h.a179 (ek8) (hk8) (by decide)) ?_
  refine h_st rfl rfl ?_
  refine h_br (fun q4 => ?_) (fun q4 => ?_)
  · exact r_123g h ef hf hk hP hs hmq (by omega)
  · refine h_st rfl rfl ?_
    refine h_st rfl (e_get h.2.1 rfl) ?_
    refine h_st rfl rfl ?_
    refine h_st rfl rfl ?_
    refine r_ias rfl h m209 (fun _ => by decide) (by decide) (rfl) (hk) (rfl) (fun σ2 h2 => ?_)
    replace h := h2
    clear h2
    replace hP := hP.u9 (k := k) (x := 0) ⟨0, by decide, rfl⟩
    exact r_123g h ef hf hk hP (mq := 0) hs pk_us (by omega)
theorem r_123e {b : Bool} {σ0 : ae_S} {F0 F : Nat → Nat → Int32} {c u g : Int32} (h : RS b σ0 F0 σ c u g F) {a e : List Nat} {f k n pl : Nat} {x : Int32} (ef : x = nI f) (hf : f < 400) (hk : k < 32) (hP : RP F g a e) {x5 x6 x7 x8 : Option Value} (hpn : pl + n ≤ 1000) (hpl : F 207 k = nI pl) : hG ra (d + 2) 123 σ [some (.ref 176), some (.int x), some (.int (nI k)), some (.int (nI n)), some (.int (nI pl)), x5, x6, x7, x8] [] 148 (pI (fun σ' v => ∃ F' w, v = nI w ∧ w < 12 ∧ RS b σ0 F0 σ' c u g F' ∧ RP F' g a e)) := by
  have e1 : (1000 : Int32) * nI k + 4 = nI (1000 * k + 4) := by rw [show (1000 : Int32) = nI 1000 from rfl, pk_mul, show (4 : Int32) = nI 4 from rfl, nI_add]
  have e2 : (1000 : Int32) * nI k + 5 = nI (1000 * k + 5) := by rw [show (1000 : Int32) = nI 1000 from rfl, pk_mul, show (5 : Int32) = nI 5 from rfl, nI_add]
  have e7 : fu F 207 (upd (F 207) k (nI (pl + n))) 207 k = nI (pl + n) := pk_us
  refine h_st rfl rfl ?_
  refine h_st rfl (e_get h.2.1 rfl) ?_
  refine h_st rfl rfl ?_
  refine h_st rfl rfl ?_
  refine h_st rfl (q_ia h.a207 (rfl) (hk) (by decide)) ?_
  refine h_st rfl rfl ?_
  refine h_st rfl rfl ?_
  refine r_ias rfl h m207 (fun _ => by decide) (by decide) (rfl) (hk) (show F 207 k + nI n = nI (pl + n) from by rw [hpl]; exact nI_add pl n) (fun σ2 h2 => ?_)
  replace h := h2
  clear h2
  replace hP := hP.u7 (k := k) (x := nI (pl + n)) ⟨pl + n, by omega, rfl⟩
  refine h_st rfl rfl ?_
  refine h_st rfl rfl ?_
  refine h_st rfl rfl ?_
  refine h_ci3 rfl (Nat.le_of_ble_eq_true rfl) (e_rcv h.2.1) rfl (r_108 h (ef) (hf) ((rfl : (20 : Int32) = nI 20)) (by decide)) (fun σ' y hq => ?_)
  obtain ⟨hss, rfl⟩ := hq
  replace hss := hss.symm
  subst hss
  refine h_st rfl rfl ?_
  refine h_st rfl (e_dv (by decide)) ?_
  refine h_st rfl rfl ?_
  refine h_st rfl (e_dv (by decide)) ?_
  refine h_st rfl rfl ?_
  refine h_st rfl rfl ?_
  refine h_br (fun q1 => ?_) (fun q1 => ?_)
  · refine h_st rfl rfl ?_
    refine h_st rfl (e_get h.2.1 rfl) ?_
    refine h_st rfl rfl ?_
    refine h_st rfl rfl ?_
    refine r_ias rfl h m206 (fun _ => by decide) (by decide) (rfl) (hk) (rfl) (fun σ2 h2 => ?_)
    replace h := h2
    clear h2
    replace hP := RP.fo (p := 206) (f := upd (F 206) k (-1)) hP (by decide)
    refine h_st rfl rfl ?_
    refine h_st rfl (e_get h.2.1 rfl) ?_
    refine h_st rfl rfl ?_
    refine h_st rfl (q_iaE h.a207 (rfl) (hk) (by decide) (e7)) ?_
    refine h_st rfl rfl ?_
    refine h_st rfl rfl ?_
    refine h_st rfl rfl ?_
    refine h_st rfl rfl ?_
    refine h_br (fun q2 => ?_) (fun q2 => ?_)
    · refine h_st rfl rfl ?_
      exact h_rt rfl rfl (⟨_, _, rfl, _, 10, rfl, by decide, h, hP⟩)
    · have hs8 : 8 ≤ pl + n := Nat.le_of_not_lt (fun z => q2 ((nI_ltI (by omega) (by decide)).mpr z))
      refine h_st rfl rfl ?_
      refine h_st rfl rfl ?_
      refine h_st rfl (e_get h.2.1 rfl) ?_
      refine h_st rfl rfl ?_
      refine h_st rfl rfl ?_
      refine h_st rfl rfl ?_
      refine h_st rfl rfl ?_
      refine h_st rfl rfl ?_
      refine h_st rfl (q_ia h.a208 (e1) (by omega) (by decide)) ?_
      refine h_st rfl rfl ?_
      refine h_st rfl rfl ?_
      refine h_st rfl (e_get h.2.1 rfl) ?_
      refine h_st rfl rfl ?_
      refine h_st rfl rfl ?_
      refine h_st rfl rfl ?_
      refine h_st rfl rfl ?_
      refine h_st rfl rfl ?_
      refine h_st rfl (q_ia h.a208 (e2) (by omega) (by decide)) ?_
      refine h_st rfl rfl ?_
      refine h_st rfl rfl ?_
      refine h_st rfl rfl ?_
      refine h_br (fun q3 => ?_) (fun q3 => ?_)
      · exact r_123h h ef hf hk hP ⟨hs8, hpn⟩
      · refine h_st rfl rfl ?_
        exact h_rt rfl rfl (⟨_, _, rfl, _, 10, rfl, by decide, h, hP⟩)
  · refine h_st rfl rfl ?_
    exact h_rt rfl rfl (⟨_, _, rfl, _, 0, rfl, by decide, h, hP⟩)
theorem r_123d {b : Bool} {σ0 : ae_S} {F0 F : Nat → Nat → Int32} {c u g : Int32} {a e : List Nat} {f k n pl : Nat} {x : Int32} (ef : x = nI f) (hf : f < 400) (hk : k < 32) (hP : RP F g a e) {x5 x7 x8 : Option Value} (hn : n ≤ 161) (hpn : pl + n ≤ 1000) (hpl : F 207 k = nI pl) : ∀ (m i : Nat) (σ : ae_S) (fb : Nat → Int32), i + m = n → RS b σ0 F0 σ c u g (fu F 208 fb) → hG ra (d + 2) 123 σ [some (.ref 176), some (.int x), some (.int (nI k)), some (.int (nI n)), some (.int (nI pl)), x5, some (.int (nI i)), x7, x8] [] 110 (pI (fun σ' v => ∃ F' w, v = nI w ∧ w < 12 ∧ RS b σ0 F0 σ' c u g F' ∧ RP F' g a e)) := by
  intro m
  induction m with
  | zero =>
    intro i σ fb hi h
    have hi : i = n := by omega
    subst hi
    refine h_st rfl rfl ?_
    refine h_st rfl rfl ?_
    refine h_st rfl rfl ?_
    refine h_pc (if_pos (decide_eq_true (nI_le (Nat.le_refl _) (by omega)))) ?_
    exact r_123e h ef hf hk (RP.fo (p := 208) (f := fb) hP (by decide)) hpn hpl
  | succ m ih =>
    intro i σ fb hi h
    have ih1 := fun σ fb => ih (i + 1) σ fb (by omega)
    simp only [← nI_1] at ih1
    have e1 : (1000 : Int32) * nI k + nI pl + nI i = nI (1000 * k + pl + i) := by rw [show (1000 : Int32) = nI 1000 from rfl, pk_mul, nI_add, nI_add]
    have e2 : (34 : Int32) + nI i = nI (34 + i) := by rw [show (34 : Int32) = nI 34 from rfl, nI_add]
    refine h_st rfl rfl ?_
    refine h_st rfl rfl ?_
    refine h_st rfl rfl ?_
    refine h_pc (if_neg (fun z9 => (nI_ge (show i < n by omega) (by omega)) (of_decide_eq_true z9))) ?_
    refine h_st rfl rfl ?_
    refine h_st rfl (e_get h.2.1 rfl) ?_
    refine h_st rfl rfl ?_
    refine h_st rfl rfl ?_
    refine h_st rfl rfl ?_
    refine h_st rfl rfl ?_
    refine h_st rfl rfl ?_
    refine h_st rfl rfl ?_
    refine h_st rfl rfl ?_
    refine h_st rfl rfl ?_
    refine h_st rfl rfl ?_
    refine h_st rfl rfl ?_
    refine h_st rfl rfl ?_
    refine h_st rfl rfl ?_
    refine h_ci3 rfl (Nat.le_of_ble_eq_true rfl) (e_rcv h.2.1) rfl (r_108 h (ef) (hf) (e2) (by omega)) (fun σ' y hq => ?_)
    obtain ⟨hss, rfl⟩ := hq
    replace hss := hss.symm
    subst hss
    refine r_ias rfl h m208 (fun _ => by decide) (by decide) (e1) (by omega) (rfl) (fun σ2 h2 => ?_)
    replace h := h2
    clear h2
    rw [fu_fu] at h
    refine h_st rfl rfl ?_
    refine h_st rfl rfl ?_
    exact ih1 _ _ h
theorem r_123c {b : Bool} {σ0 : ae_S} {F0 F : Nat → Nat → Int32} {c u g : Int32} (h : RS b σ0 F0 σ c u g F) {a e : List Nat} {f k n pl : Nat} {x : Int32} (ef : x = nI f) (hf : f < 400) (hk : k < 32) (hP : RP F g a e) {x5 x6 x7 x8 : Option Value} (hn : n ≤ 161) (hpl2 : pl ≤ 2040) : hG ra (d + 2) 123 σ [some (.ref 176), some (.int x), some (.int (nI k)), some (.int (nI n)), some (.int (nI pl)), x5, x6, x7, x8] [] 48 (pI (fun σ' v => ∃ F' w, v = nI w ∧ w < 12 ∧ RS b σ0 F0 σ' c u g F' ∧ RP F' g a e)) := by
  refine h_st rfl rfl ?_
  refine h_st rfl (e_get h.2.1 rfl) ?_
  refine h_st rfl rfl ?_
  refine h_st rfl (q_ia h.a206 (rfl) (hk) (by decide)) ?_
  refine h_st rfl rfl ?_
  refine h_st rfl rfl ?_
  refine h_st rfl rfl ?_
  refine h_ci3 rfl (Nat.le_of_ble_eq_true rfl) (e_rcv h.2.1) rfl (r_107 h (ef) (hf) ((rfl : (18 : Int32) = nI 18)) (by decide)) (fun σ' y hq => ?_)
  obtain ⟨hss, rfl⟩ := hq
  replace hss := hss.symm
  subst hss
  refine h_st rfl rfl ?_
  refine h_br (fun q1 => ?_) (fun q1 => ?_)
  · refine h_st rfl rfl ?_
    refine h_st rfl rfl ?_
    refine h_st rfl rfl ?_
    refine h_st rfl rfl ?_
    refine h_pc (if_neg (by decide)) ?_
    refine h_st rfl rfl ?_
    refine h_st rfl (e_get h.2.1 rfl) ?_
    refine h_st rfl rfl ?_
    refine h_st rfl rfl ?_
    refine r_ias rfl h m206 (fun _ => by decide) (by decide) (rfl) (hk) (rfl) (fun σ2 h2 => ?_)
    replace h := h2
    clear h2
    refine h_st rfl rfl ?_
    exact h_rt rfl rfl (⟨_, _, rfl, _, 10, rfl, by decide, h, hP.fo (by decide)⟩)
  · refine h_st rfl rfl ?_
    refine h_st rfl (e_get h.2.1 rfl) ?_
    refine h_st rfl rfl ?_
    refine h_st rfl (q_ia h.a207 (rfl) (hk) (by decide)) ?_
    refine h_st rfl rfl ?_
    refine h_st rfl rfl ?_
    refine h_br (fun q2 => ?_) (fun q2 => ?_)
    · refine h_st rfl rfl ?_
      refine h_st rfl rfl ?_
      refine h_st rfl rfl ?_
      refine h_st rfl rfl ?_
      refine h_pc (if_neg (by decide)) ?_
      refine h_st rfl rfl ?_
      refine h_st rfl (e_get h.2.1 rfl) ?_
      refine h_st rfl rfl ?_
      refine h_st rfl rfl ?_
      refine r_ias rfl h m206 (fun _ => by decide) (by decide) (rfl) (hk) (rfl) (fun σ2 h2 => ?_)
      replace h := h2
      clear h2
      refine h_st rfl rfl ?_
      exact h_rt rfl rfl (⟨_, _, rfl, _, 10, rfl, by decide, h, hP.fo (by decide)⟩)
    · refine h_st rfl rfl ?_
      refine h_st rfl rfl ?_
      refine h_st rfl rfl ?_
      refine h_st rfl rfl ?_
      refine h_st rfl rfl ?_
      refine h_br (fun q3 => ?_) (fun q3 => ?_)
      · refine h_st rfl rfl ?_
        refine h_st rfl rfl ?_
        refine h_st rfl rfl ?_
        refine h_st rfl rfl ?_
        refine h_pc (if_neg (by decide)) ?_
        refine h_st rfl rfl ?_
        refine h_st rfl (e_get h.2.1 rfl) ?_
        refine h_st rfl rfl ?_
        refine h_st rfl rfl ?_
        refine r_ias rfl h m206 (fun _ => by decide) (by decide) (rfl) (hk) (rfl) (fun σ2 h2 => ?_)
        replace h := h2
        clear h2
        refine h_st rfl rfl ?_
        exact h_rt rfl rfl (⟨_, _, rfl, _, 10, rfl, by decide, h, hP.fo (by decide)⟩)
      · refine h_st rfl rfl ?_
        refine h_st rfl rfl ?_
        refine h_st rfl rfl ?_
        refine h_st rfl rfl ?_
        refine h_st rfl rfl ?_
        refine h_pc (if_pos (by decide)) ?_
        have hpn : pl + n ≤ 1000 := (nI_leI (by omega) (by decide)).mp (show nI (pl + n) ≤ nI 1000 from by rw [← nI_add]; exact Int32.not_lt.mp q3)
        have hpl : F 207 k = nI pl := Classical.byContradiction (fun z => q2 z)
        rw [← fu_self F 208] at h
        refine h_st rfl rfl ?_
        refine h_st rfl rfl ?_
        exact r_123d ef hf hk hP hn hpn hpl n 0 _ _ (Nat.zero_add _) h
theorem r_123b {b : Bool} {σ0 : ae_S} {F0 F : Nat → Nat → Int32} {c u g : Int32} (h : RS b σ0 F0 σ c u g F) {a e : List Nat} {f k n pl : Nat} {x : Int32} (ef : x = nI f) (hf : f < 400) (hk : k < 32) (hP : RP F g a e) {x5 x6 x7 x8 : Option Value} {x3 x4 : Int32} (e3 : x3 = nI n) (e4 : x4 = nI pl) (hn : n ≤ 161) (hpl2 : pl ≤ 2040) : hG ra (d + 2) 123 σ [some (.ref 176), some (.int x), some (.int (nI k)), some (.int x3), some (.int x4), x5, x6, x7, x8] [] 23 (pI (fun σ' v => ∃ F' w, v = nI w ∧ w < 12 ∧ RS b σ0 F0 σ' c u g F' ∧ RP F' g a e)) := by
  subst e3
  subst e4
  refine h_st rfl rfl ?_
  refine h_st rfl rfl ?_
  refine h_br (fun q => ?_) (fun q => ?_)
  · exact r_123c h ef hf hk hP hn hpl2
  · refine h_st rfl rfl ?_
    refine h_st rfl (e_get h.2.1 rfl) ?_
    refine h_st rfl rfl ?_
    refine h_st rfl rfl ?_
    refine h_st rfl rfl ?_
    refine h_st rfl rfl ?_
    refine h_ci3 rfl (Nat.le_of_ble_eq_true rfl) (e_rcv h.2.1) rfl (r_107 h (ef) (hf) ((rfl : (18 : Int32) = nI 18)) (by decide)) (fun σ' y hq => ?_)
    obtain ⟨hss, rfl⟩ := hq
    replace hss := hss.symm
    subst hss
    refine r_ias rfl h m206 (fun _ => by decide) (by decide) (rfl) (hk) (rfl) (fun σ2 h2 => ?_)
    replace h := h2
    clear h2
    replace hP := RP.fo (p := 206) (f := upd (F 206) k (256 * F 194 (200 * f + 18) + F 194 (200 * f + (18 + 1)))) hP (by decide)
    refine h_st rfl rfl ?_
    refine h_st rfl (e_get h.2.1 rfl) ?_
    refine h_st rfl rfl ?_
    refine h_st rfl rfl ?_
    refine r_ias rfl h m207 (fun _ => by decide) (by decide) (rfl) (hk) (rfl) (fun σ2 h2 => ?_)
    replace h := h2
    clear h2
    replace hP := hP.u7 (k := k) (x := 0) ⟨0, by decide, rfl⟩
    exact r_123c h ef hf hk hP hn hpl2
theorem r_123 {b : Bool} {σ0 : ae_S} {F0 F : Nat → Nat → Int32} {c u g : Int32} (h : RS b σ0 F0 σ c u g F) {a e : List Nat} (hP : RP F g a e) {f k n : Nat} {x y : Int32} (ef : x = nI f) (hf : f < 400) (ek : y = nI k) (hk : k < 32) (hn : n ≤ 161) (hnn : 256 * F 194 (200 * f + 16) + F 194 (200 * f + (16 + 1)) - 20 = nI n) : hE ra (d + 3) 123 [.ref 176, .int x, .int y] σ (pI (fun σ' v => ∃ F' w, v = nI w ∧ w < 12 ∧ RS b σ0 F0 σ' c u g F' ∧ RP F' g a e)) := by
  subst ek
  obtain ⟨c21, hc21, ec21⟩ := hP.2.2.1 (200 * f + 21) (by omega)
  have e4 : (8 : Int32) * F 194 (200 * f + 21) = nI (8 * c21) := by rw [ec21, show (8 : Int32) = nI 8 from rfl, pk_mul]
  refine h_in rfl rfl (Nat.le_of_ble_eq_true rfl) ?_
  refine h_st rfl rfl ?_
  refine h_st rfl rfl ?_
  refine h_st rfl rfl ?_
  refine h_ci3 rfl (Nat.le_of_ble_eq_true rfl) (e_rcv h.2.1) rfl (r_107 h (ef) (hf) ((rfl : (16 : Int32) = nI 16)) (by decide)) (fun σ' y hq => ?_)
  obtain ⟨hss, rfl⟩ := hq
  replace hss := hss.symm
  subst hss
  refine h_st rfl rfl ?_
  refine h_st rfl rfl ?_
  refine h_st rfl rfl ?_
  refine h_st rfl rfl ?_
  refine h_st rfl rfl ?_
  refine h_st rfl rfl ?_
  refine h_st rfl rfl ?_
  refine h_ci3 rfl (Nat.le_of_ble_eq_true rfl) (e_rcv h.2.1) rfl (r_108 h (ef) (hf) ((rfl : (21 : Int32) = nI 21)) (by decide)) (fun σ' y hq => ?_)
  obtain ⟨hss, rfl⟩ := hq
  replace hss := hss.symm
  subst hss
  refine h_st rfl rfl ?_
  refine h_st rfl rfl ?_
  exact r_123b h ef hf hk hP hnn e4 hn (by omega)
theorem r_121d {b : Bool} {σ0 : ae_S} {F0 F : Nat → Nat → Int32} {c u g : Int32} (h : RS b σ0 F0 σ c u g F) {a e : List Nat} {f k n sv : Nat} {x x2 : Int32} (ef : x = nI f) (hf : f < 400) (hk : k < 32) (hsv : sv < 256) (hP : RP F g a e) (hn : n ≤ 161) (hnn : 256 * F 194 (200 * f + 16) + F 194 (200 * f + (16 + 1)) - 20 = nI n) {x5 x6 x7 x8 x9 : Option Value} : hG ra (d + 3) 121 σ [some (.ref 176), some (.int x), some (.int x2), some (.int (nI k)), some (.int (nI sv)), x5, x6, x7, x8, x9] [] 189 (pI (fun σ' v => ∃ F' w, v = nI w ∧ w < 12 ∧ RS b σ0 F0 σ' c u g F' ∧ RP F' g a e)) := by
  refine h_st rfl rfl ?_
  refine h_st rfl (e_get h.2.1 rfl) ?_
  refine h_st rfl rfl ?_
  refine h_st rfl rfl ?_
  refine r_ias rfl h m204 (fun _ => by decide) (by decide) (rfl) (hk) (rfl) (fun σ2 h2 => ?_)
  replace h := h2
  clear h2
  replace hP := hP.u4 (k := k) (x := nI sv) ⟨sv, hsv, rfl⟩
  refine h_st rfl rfl ?_
  refine h_st rfl (e_get h.2.1 rfl) ?_
  refine h_st rfl rfl ?_
  refine h_st rfl rfl ?_
  refine h_st rfl (e_get h.2.1 rfl) ?_
  refine r_ias rfl h m205 (fun _ => by decide) (by decide) (rfl) (hk) (rfl) (fun σ2 h2 => ?_)
  replace h := h2
  clear h2
  replace hP := RP.fo (p := 205) (f := upd (F 205) k u) hP (by decide)
  refine h_st rfl rfl ?_
  refine h_st rfl rfl ?_
  refine h_st rfl rfl ?_
  refine h_ci3 rfl (Nat.le_of_ble_eq_true rfl) (e_rcv h.2.1) rfl (r_123 h hP ef hf rfl hk hn hnn) (fun σ9 v9 hq => ?_)
  obtain ⟨F9, w9, rfl, hw9, h9, hP9⟩ := hq
  exact h_rt rfl rfl (⟨_, _, rfl, F9, w9, rfl, hw9, h9, hP9⟩)
theorem r_121c {b : Bool} {σ0 : ae_S} {F0 F : Nat → Nat → Int32} {c u g : Int32} (h : RS b σ0 F0 σ c u g F) {a e : List Nat} {f k n sv : Nat} {x x2 : Int32} (ef : x = nI f) (hf : f < 400) (hk : k < 32) (hsv : sv < 256) (hP : RP F g a e) (hn : n ≤ 161) (hnn : 256 * F 194 (200 * f + 16) + F 194 (200 * f + (16 + 1)) - 20 = nI n) {x5 x9 : Option Value} {x6 x7 x8 : Int32} : hG ra (d + 3) 121 σ [some (.ref 176), some (.int x), some (.int x2), some (.int (nI k)), some (.int (nI sv)), x5, some (.int x6), some (.int x7), some (.int x8), x9] [] 144 (pI (fun σ' v => ∃ F' w, v = nI w ∧ w < 12 ∧ RS b σ0 F0 σ' c u g F' ∧ RP F' g a e)) := by
  refine h_st rfl rfl ?_
  refine h_st rfl rfl ?_
  refine h_st rfl rfl ?_
  refine h_br (fun q1 => ?_) (fun q1 => ?_)
  · refine h_st rfl rfl ?_
    refine h_st rfl rfl ?_
    refine h_st rfl rfl ?_
    refine h_st rfl rfl ?_
    refine h_br (fun q8 => ?_) (fun q8 => ?_)
    · exact r_121d h ef hf hk hsv hP hn hnn
    · refine h_st rfl rfl ?_
      refine h_st rfl rfl ?_
      refine h_pc (if_neg (by decide)) ?_
      refine h_st rfl rfl ?_
      exact h_rt rfl rfl (⟨_, _, rfl, _, 9, rfl, by decide, h, hP⟩)
  · refine h_st rfl rfl ?_
    refine h_st rfl rfl ?_
    refine h_br (fun q2 => ?_) (fun q2 => ?_)
    · refine h_st rfl rfl ?_
      refine h_st rfl rfl ?_
      refine h_st rfl rfl ?_
      refine h_st rfl rfl ?_
      refine h_st rfl rfl ?_
      refine h_br (fun q8 => ?_) (fun q8 => ?_)
      · exact r_121d h ef hf hk hsv hP hn hnn
      · refine h_st rfl rfl ?_
        refine h_st rfl rfl ?_
        refine h_pc (if_pos (by decide)) ?_
        exact r_121d h ef hf hk hsv hP hn hnn
    · refine h_st rfl rfl ?_
      refine h_st rfl rfl ?_
      refine h_br (fun q3 => ?_) (fun q3 => ?_)
      · refine h_st rfl rfl ?_
        refine h_st rfl rfl ?_
        refine h_st rfl rfl ?_
        refine h_st rfl rfl ?_
        refine h_st rfl rfl ?_
        refine h_br (fun q8 => ?_) (fun q8 => ?_)
        · exact r_121d h ef hf hk hsv hP hn hnn
        · refine h_st rfl rfl ?_
          refine h_st rfl rfl ?_
          refine h_pc (if_pos (by decide)) ?_
          exact r_121d h ef hf hk hsv hP hn hnn
      · refine h_st rfl rfl ?_
        refine h_st rfl rfl ?_
        refine h_st rfl rfl ?_
        refine h_br (fun q4 => ?_) (fun q4 => ?_)
        · refine h_st rfl rfl ?_
          refine h_st rfl rfl ?_
          refine h_st rfl rfl ?_
          refine h_st rfl rfl ?_
          refine h_br (fun q8 => ?_) (fun q8 => ?_)
          · exact r_121d h ef hf hk hsv hP hn hnn
          · refine h_st rfl rfl ?_
            refine h_st rfl rfl ?_
            refine h_pc (if_neg (by decide)) ?_
            refine h_st rfl rfl ?_
            exact h_rt rfl rfl (⟨_, _, rfl, _, 9, rfl, by decide, h, hP⟩)
        · refine h_st rfl rfl ?_
          refine h_st rfl rfl ?_
          refine h_st rfl rfl ?_
          refine h_st rfl rfl ?_
          refine h_st rfl rfl ?_
          refine h_br (fun q8 => ?_) (fun q8 => ?_)
          · exact r_121d h ef hf hk hsv hP hn hnn
          · refine h_st rfl rfl ?_
            refine h_st rfl rfl ?_
            refine h_pc (if_pos (by decide)) ?_
            exact r_121d h ef hf hk hsv hP hn hnn
theorem r_121l {b : Bool} {σ0 : ae_S} {F0 F : Nat → Nat → Int32} {c u g : Int32} (h : RS b σ0 F0 σ c u g F) {a e : List Nat} {f k n sv : Nat} {x x2 : Int32} (ef : x = nI f) (hf : f < 400) (hk : k < 32) (hsv : sv < 256) (hP : RP F g a e) (hn : n ≤ 161) (hnn : 256 * F 194 (200 * f + 16) + F 194 (200 * f + (16 + 1)) - 20 = nI n) {x5 : Option Value} {x7 : Int32} {t : Nat} (ht : 1 ≤ t ∧ t ≤ 255) (hs1 : 1 ≤ sv) : ∀ (m i : Nat) (x8 : Int32), 1 ≤ i ∧ i ≤ 255 → (if i ≤ sv then sv - i else sv + 255 - i) = m → hG ra (d + 3) 121 σ [some (.ref 176), some (.int x), some (.int x2), some (.int (nI k)), some (.int (nI sv)), x5, some (.int (nI t)), some (.int x7), some (.int x8), some (.int (nI i))] [] 114 (pI (fun σ' v => ∃ F' w, v = nI w ∧ w < 12 ∧ RS b σ0 F0 σ' c u g F' ∧ RP F' g a e)) := by
  intro m
  induction m with
  | zero =>
    intro i x8 hi hm
    have hi2 : i = sv := by split at hm <;> omega
    subst hi2
    refine h_st rfl rfl ?_
    refine h_st rfl rfl ?_
    refine h_pc (if_neg (fun z9 => (show ¬ nI t ≤ 0 from nI_ge (show 0 < t by omega) (by omega)) (of_decide_eq_true z9))) ?_
    refine h_st rfl rfl ?_
    refine h_st rfl rfl ?_
    refine h_pc (if_neg (fun z9 => (show ¬ nI i ≤ 0 from nI_ge (show 0 < i by omega) (by omega)) (of_decide_eq_true z9))) ?_
    refine h_st rfl rfl ?_
    refine h_st rfl rfl ?_
    refine h_st rfl rfl ?_
    refine h_pc (if_pos (decide_eq_true (rfl))) ?_
    exact r_121c h ef hf hk hsv hP hn hnn
  | succ m ih =>
    intro i x8 hi hm
    have hne : i ≠ sv := fun z => by
      rw [if_pos (by omega)] at hm
      omega
    have er9 : nI i - nI i / 255 * 255 = nI (i % 255) := pk_rem (a := i) (d := 255) (by omega) (by decide) (by decide)
    have en : nI i - nI i / 255 * 255 + 1 = nI (i % 255 + 1) := by rw [er9, nI_1]
    have ih1 := fun x8 => ih (i % 255 + 1) x8 (by omega) (by
      by_cases e : i = 255
      · subst e
        rw [if_neg (by omega)] at hm
        rw [if_pos (by omega)]
        omega
      · have e2 : i % 255 = i := Nat.mod_eq_of_lt (by omega)
        rw [e2]
        by_cases e3 : i ≤ sv
        · rw [if_pos e3] at hm
          rw [if_pos (by omega)]
          omega
        · rw [if_neg e3] at hm
          rw [if_neg (by omega)]
          omega)
    simp only [← en] at ih1
    refine h_st rfl rfl ?_
    refine h_st rfl rfl ?_
    refine h_pc (if_neg (fun z9 => (show ¬ nI t ≤ 0 from nI_ge (show 0 < t by omega) (by omega)) (of_decide_eq_true z9))) ?_
    refine h_st rfl rfl ?_
    refine h_st rfl rfl ?_
    refine h_pc (if_neg (fun z9 => (show ¬ nI sv ≤ 0 from nI_ge (show 0 < sv by omega) (by omega)) (of_decide_eq_true z9))) ?_
    refine h_st rfl rfl ?_
    refine h_st rfl rfl ?_
    refine h_st rfl rfl ?_
    refine h_pc (if_neg (fun z9 => (fun z => hne (nI_inj (by omega) (by omega) z)) (of_decide_eq_true z9))) ?_
    refine h_st rfl rfl ?_
    refine h_st rfl rfl ?_
    refine h_ci1 rfl (Nat.le_of_ble_eq_true rfl) rfl rfl (r_nx _) (fun σ' y9 hq => ?_)
    obtain ⟨hss, rfl⟩ := hq
    replace hss := hss.symm
    subst hss
    refine h_st rfl rfl ?_
    refine h_st rfl rfl ?_
    exact ih1 _
theorem r_121b {b : Bool} {σ0 : ae_S} {F0 F : Nat → Nat → Int32} {c u g : Int32} (h : RS b σ0 F0 σ c u g F) {a e : List Nat} {f k n sv : Nat} {x x2 : Int32} (ef : x = nI f) (hf : f < 400) (hk : k < 32) (hsv : sv < 256) (hP : RP F g a e) (hn : n ≤ 161) (hnn : 256 * F 194 (200 * f + 16) + F 194 (200 * f + (16 + 1)) - 20 = nI n) {x5 x6 x7 x8 x9 : Option Value} : hG ra (d + 3) 121 σ [some (.ref 176), some (.int x), some (.int x2), some (.int (nI k)), some (.int (nI sv)), x5, x6, x7, x8, x9] [] 63 (pI (fun σ' v => ∃ F' w, v = nI w ∧ w < 12 ∧ RS b σ0 F0 σ' c u g F' ∧ RP F' g a e)) := by
  have ek8 : nI k - nI k / 8 * 8 = nI (k % 8) := pk_rem (a := k) (d := 8) (by omega) (by decide) (by decide)
  have hk8 : k % 8 < 8 := Nat.mod_lt _ (by decide)
  have hlp : ∀ (x7 : Int32) (x8 : Int32), hG ra (d + 3) 121 σ [some (.ref 176), some (.int x), some (.int x2), some (.int (nI k)), some (.int (nI sv)), x5, some (.int (F 204 k)), some (.int x7), some (.int x8), some (.int (F 204 k))] [] 114 (pI (fun σ' v => ∃ F' w, v = nI w ∧ w < 12 ∧ RS b σ0 F0 σ' c u g F' ∧ RP F' g a e)) := by
    intro x7 x8
    rcases hP.2.2.2.2.2.1.1 k hk with ht | ⟨t, ht, et⟩
    · rw [ht]
      refine h_st rfl rfl ?_
      refine h_st rfl rfl ?_
      refine h_pc (if_pos (by decide)) ?_
      exact r_121c h ef hf hk hsv hP hn hnn
    · rw [et]
      by_cases t0 : t = 0
      · subst t0
        refine h_st rfl rfl ?_
        refine h_st rfl rfl ?_
        refine h_pc (if_pos (by decide)) ?_
        exact r_121c h ef hf hk hsv hP hn hnn
      · by_cases s0 : sv = 0
        · subst s0
          refine h_st rfl rfl ?_
          refine h_st rfl rfl ?_
          refine h_pc (if_neg (fun z9 => (show ¬ nI t ≤ 0 from nI_ge (show 0 < t by omega) (by omega)) (of_decide_eq_true z9))) ?_
          refine h_st rfl rfl ?_
          refine h_st rfl rfl ?_
          refine h_pc (if_pos (by decide)) ?_
          exact r_121c h ef hf hk hsv hP hn hnn
        · exact r_121l h ef hf hk hsv hP hn hnn (by omega) (by omega) _ t x8 (by omega) rfl
  refine h_st rfl rfl ?_
  refine h_st rfl (e_get h.2.1 rfl) ?_
  refine h_st rfl rfl ?_
  refine h_st rfl (q_ia h.a204 (rfl) (hk) (by decide)) ?_
  refine h_st rfl rfl ?_
  refine h_st rfl rfl ?_
  refine h_st rfl rfl ?_
  refine h_st rfl rfl ?_
  refine h_br (fun q1 => ?_) (fun q1 => ?_)
  · refine h_st rfl rfl ?_
    refine h_st rfl rfl ?_
    refine h_st rfl rfl ?_
    refine h_st rfl rfl ?_
    refine h_st rfl rfl ?_
    refine h_st rfl rfl ?_
    refine h_st rfl rfl ?_
    exact hlp _ _
  · refine h_st rfl rfl ?_
    refine h_st rfl (e_get h.2.1 rfl) ?_
    refine h_st rfl rfl ?_
    refine h_st rfl (e_get h.2.1 rfl) ?_
    refine h_st rfl rfl ?_
    refine h_st rfl (q_ia h.a205 (rfl) (hk) (by decide)) ?_
    refine h_st rfl rfl ?_
    refine h_st rfl rfl ?_
    refine h_st rfl (e_get h.2.1 rfl) ?_
    refine h_st rfl rfl ?_
    refine h_st rfl rfl ?_
    refine h_st rfl (e_dv (by decide)) ?_
    refine h_st rfl (q_ia h.a184 (ek8) (hk8) (by decide)) ?_
    refine h_st rfl rfl ?_
    refine h_br (fun q2 => ?_) (fun q2 => ?_)
    · refine h_st rfl rfl ?_
      refine h_st rfl rfl ?_
      refine h_st rfl rfl ?_
      refine h_st rfl rfl ?_
      refine h_st rfl rfl ?_
      refine h_st rfl rfl ?_
      exact hlp _ _
    · refine h_st rfl rfl ?_
      refine h_st rfl rfl ?_
      refine h_st rfl rfl ?_
      refine h_st rfl rfl ?_
      refine h_st rfl rfl ?_
      refine h_st rfl rfl ?_
      refine h_st rfl rfl ?_
      exact hlp _ _
theorem r_121 {b : Bool} {σ0 : ae_S} {F0 F : Nat → Nat → Int32} {c u g : Int32} (h : RS b σ0 F0 σ c u g F) {a e : List Nat} (hP : RP F g a e) {f k n sv nt : Nat} {x x2 y z : Int32} (ef : x = nI f) (hf : f < 400) (e2 : x2 = nI nt) (hnt : nt < 2) (ek : y = nI k) (hk : k < 32) (es : z = nI sv) (hsv : sv < 256) (hn : n ≤ 161) (hnn : 256 * F 194 (200 * f + 16) + F 194 (200 * f + (16 + 1)) - 20 = nI n) : hE ra (d + 4) 121 [.ref 176, .int x, .int x2, .int y, .int z] σ (pI (fun σ' v => ∃ F' w, v = nI w ∧ w < 12 ∧ RS b σ0 F0 σ' c u g F' ∧ RP F' g a e)) := by
  subst ek
  subst es
  have ei : (32 : Int32) * x2 + nI k = nI (32 * nt + k) := by rw [e2, show (32 : Int32) = nI 32 from rfl, pk_mul, nI_add]
  refine h_in rfl rfl (Nat.le_of_ble_eq_true rfl) ?_
  refine h_st rfl rfl ?_
  refine h_st rfl (e_get h.2.1 rfl) ?_
  refine h_st rfl rfl ?_
  refine h_st rfl rfl ?_
  refine h_st rfl rfl ?_
  refine h_st rfl rfl ?_
  refine h_st rfl rfl ?_
  refine h_st rfl (q_ia h.a203 (ei) (by omega) (by decide)) ?_
  refine h_st rfl rfl ?_
  refine h_st rfl rfl ?_
  refine h_st rfl (e_get h.2.1 rfl) ?_
  refine h_st rfl rfl ?_
  refine h_st rfl rfl ?_
  refine h_st rfl rfl ?_
  refine h_st rfl rfl ?_
  refine h_st rfl rfl ?_
  refine h_st rfl rfl ?_
  refine r_ias rfl h m203 (fun _ => by decide) (by decide) (ei) (by omega) (rfl) (fun σ2 h2 => ?_)
  replace h := h2
  clear h2
  replace hP := RP.fo (p := 203) (f := upd (F 203) (32 * nt + k) (nI sv)) hP (by decide)
  refine h_st rfl rfl ?_
  refine h_st rfl rfl ?_
  refine h_st rfl rfl ?_
  refine h_br (fun q1 => ?_) (fun q1 => ?_)
  · exact r_121b h ef hf hk hsv hP hn hnn
  · refine h_st rfl rfl ?_
    refine h_st rfl rfl ?_
    refine h_br (fun q2 => ?_) (fun q2 => ?_)
    · exact r_121b h ef hf hk hsv hP hn hnn
    · refine h_st rfl rfl ?_
      refine h_st rfl rfl ?_
      refine h_ci1 rfl (Nat.le_of_ble_eq_true rfl) rfl rfl (r_nx _) (fun σ' y9 hq => ?_)
      obtain ⟨hss, rfl⟩ := hq
      replace hss := hss.symm
      subst hss
      refine h_st rfl rfl ?_
      refine h_br (fun q3 => ?_) (fun q3 => ?_)
      · exact r_121b h ef hf hk hsv hP hn hnn
      · refine h_st rfl rfl ?_
        refine h_st rfl rfl ?_
        refine h_ci1 rfl (Nat.le_of_ble_eq_true rfl) rfl rfl (r_nx _) (fun σ' y9 hq => ?_)
        obtain ⟨hss, rfl⟩ := hq
        replace hss := hss.symm
        subst hss
        refine h_ci1 rfl (Nat.le_of_ble_eq_true rfl) rfl rfl (r_nx _) (fun σ' y9 hq => ?_)
        obtain ⟨hss, rfl⟩ := hq
        replace hss := hss.symm
        subst hss
        refine h_st rfl rfl ?_
        refine h_br (fun q4 => ?_) (fun q4 => ?_)
        · exact r_121b h ef hf hk hsv hP hn hnn
        · refine h_st rfl rfl ?_
          exact h_rt rfl rfl (⟨_, _, rfl, _, 8, rfl, by decide, h, hP⟩)
end RF4
