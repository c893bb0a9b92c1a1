section SY18
variable {ra : ae_R} {d : Nat} {σ : ae_S}
section S18
variable {F F' Fx : Nat → Nat → Int32} {v v' : Nat → Nat} {l e i p nt ln f : Nat} {x : AF} {a : AN} {k : AK} {K : Nat → Option AK}
theorem snd_ps (a : AN) (l : Nat) : nP (snd a l) = nP a ∧ stK (nK (snd a l)) = stK (nK a) := by
  unfold snd
  cases hk : nK a l with
  | none => exact ⟨rfl, rfl⟩
  | some k =>
    show nP (match dfr k with | [] => a | x :: _ => if nT a < dop k then a else snd1 a l k x) = nP a ∧ stK (nK (match dfr k with | [] => a | x :: _ => if nT a < dop k then a else snd1 a l k x)) = stK (nK a)
    cases hd : dfr k with
    | nil => exact ⟨rfl, rfl⟩
    | cons x t =>
      show nP (if nT a < dop k then a else snd1 a l k x) = nP a ∧ stK (nK (if nT a < dop k then a else snd1 a l k x)) = stK (nK a)
      split
      · exact ⟨rfl, rfl⟩
      · refine ⟨rfl, ?_⟩
        show stK (updK (updK (nK a) l (nsq (pop k))) l (opn (nsq (pop k)) (nT a))) = _
        exact (stK_up (K := updK (nK a) l (nsq (pop k))) (k := opn (nsq (pop k)) (nT a)) (k0 := nsq (pop k)) updK_s rfl).trans (stK_up hk rfl)
def nac (K : Nat → Option AK) (g : Nat → Int32) (i : Nat) : Int32 := match K (i % 8) with
  | none => g i
  | some k => mn2 (nI (kmo k) * (kga k + 64)) (kac k (i / 8) + nI (kmo k) * 1)
theorem mn2_le {T A : Int32} (h : A ≤ T) : mn2 T A = A := by
  unfold mn2
  by_cases c : A < T
  · rw [if_pos c]
  · rw [if_neg c]
    exact Int32.le_antisymm (Int32.not_lt.mp c) h
theorem mn2_gt {T A : Int32} (h : ¬ A ≤ T) : mn2 T A = T := if_neg (fun z => h (Int32.le_of_lt z))
theorem Mlk.gro (h : Mlk Fx (nK a)) (e : ∀ q, q ≠ 188 → F q = Fx q) (e8 : ∀ i, i < 16 → F 188 i = nac (nK a) (Fx 188) i) : Mlk F (nK (grw a 1)) := fun l hl => by
  have eK : nK (grw a 1) l = (match nK a l with | none => none | some k => some (gwk k 1)) := rfl
  cases hk : nK a l with
  | none =>
    rw [hk] at eK
    refine ⟨fun _ => ?_, fun k' hk' => ?_⟩
    · rw [e 177 (by decide), e 185 (by decide), e 186 (by decide), e 187 (by decide), e 189 (by decide)]
      exact (h l hl).1 hk
    · have hk2 : nK (grw a 1) l = some k' := hk'
      rw [eK] at hk2
      cases hk2
  | some k =>
    rw [hk] at eK
    refine ⟨fun z => ?_, fun k' hk' => ?_⟩
    · have hk2 : nK (grw a 1) l = none := z
      rw [eK] at hk2
      cases hk2
    · have hk2 : nK (grw a 1) l = some k' := hk'
      rw [eK] at hk2
      cases hk2
      obtain ⟨h1, ⟨b1, b2, b3, b4, b5, b6⟩, h3⟩ := (h l hl).2 k hk
      unfold RK
      rw [e 177 (by decide), e 178 (by decide), e 179 (by decide), e 180 (by decide), e 181 (by decide), e 182 (by decide), e 183 (by decide), e 185 (by decide), e 186 (by decide), e 187 (by decide), e 189 (by decide), e 190 (by decide), e 191 (by decide), e 192 (by decide), e 193 (by decide), e8 l (by omega), e8 (8 + l) (by omega)]
      refine ⟨h1, ⟨b1, b2, b3, b4, ?_, ?_⟩, h3⟩
      · unfold nac
        rw [show l % 8 = l by omega, show l / 8 = 0 by omega, hk]
        rfl
      · unfold nac
        rw [show (8 + l) % 8 = l by omega, show (8 + l) / 8 = 1 by omega, hk]
        rfl
theorem st_grw (a : AN) (n : Int32) : stK (nK (grw a n)) = stK (nK a) := by
  funext l
  show Option.map (fun k => k.1) (match nK a l with | none => none | some k => some (gwk k n)) = Option.map (fun k => k.1) (nK a l)
  cases nK a l with
  | none => rfl
  | some k => rfl
theorem RR.gro {A : AN} (hR : RR Fx v A) (ag : ∀ q, q ≠ 188 → F q = Fx q) (e8 : ∀ i, i < 16 → F 188 i = nac (nK A) (Fx 188) i) : RR F v (grw A 1) := ⟨hR.1.o (fun q z1 z2 => ag q (by omega)), hR.2.1.gro ag e8, hR.2.2.ag (fun q hq => ag q (by omega)) (st_grw _ _)⟩
theorem tcn_s (a : AN) (k : Nat) : tcn a (k + 1) = grw (tka (mva (snda (tcn a k) 8) 24) 24) 1 := rfl
theorem grw_T (a : AN) (n : Int32) : nT (grw a n) = nT a + n := rfl
theorem tkf_T (a : AN) (i : Nat) : nT (tkf a i) = nT a := by
  unfold tkf
  split <;> rfl
end S18
theorem r_101aw {σ0 : ae_S} {F0 : Nat → Nat → Int32} {c g n k : Int32} {a : AN} {P : ae_S × ae_O → Prop} (hx : ∀ (σ : ae_S) F v x4, RS false σ0 F0 σ c (nT (snda a 8)) g F → RP F g [] [] → RR F v (snda a 8) → hG ra (d + 6) 101 σ [some (.ref 176), some (.int n), some (.int k), some (.int (nI 8)), x4] [] 38 P) : ∀ (m j : Nat) (σ : ae_S) (F : Nat → Nat → Int32) (v : Nat → Nat) (x4 : Option Value), j + m = 8 → RS false σ0 F0 σ c (nT (snda a j)) g F → RP F g [] [] → RR F v (snda a j) → hG ra (d + 6) 101 σ [some (.ref 176), some (.int n), some (.int k), some (.int (nI j)), x4] [] 21 P := by
  intro m
  induction m with
  | zero =>
    intro j σ F v x4 hj h hP hR
    have hj : j = 8 := by omega
    subst hj
    refine h_st rfl rfl ?_
    refine h_st rfl rfl ?_
    refine h_st rfl rfl ?_
    refine h_pc (if_pos (decide_eq_true (nI_le (Nat.le_refl 8) (by decide)))) ?_
    exact hx _ _ _ _ h hP hR
  | succ m ih =>
    intro j σ F v x4 hj h hP hR
    have ih1 := fun σ F v x4 => ih (j + 1) σ F v x4 (by omega)
    rw [show nT (snda a (j + 1)) = nT (snda a j) from snd_T _ _] at ih1
    simp only [← nI_1] at ih1
    refine h_st rfl rfl ?_
    refine h_st rfl rfl ?_
    refine h_st rfl rfl ?_
    refine h_pc (if_neg (fun z9 => (nI_ge (show j < 8 by omega) (by decide)) (of_decide_eq_true z9))) ?_
    refine h_st rfl rfl ?_
    refine h_st rfl rfl ?_
    refine h_cv2 rfl (Nat.le_of_ble_eq_true rfl) (e_rcv h.2.1) rfl (r_102w h hP hR.1 hR.2.1 (by decide) rfl (by omega)) (fun σ2 hq => ?_)
    obtain ⟨F2, v2, h2, hP2, hML2, hQ2, ag2⟩ := hq
    obtain ⟨p1, p2⟩ := snd_ps (snda a j) j
    have hM2 : Mpt F2 (nK (snd (snda a j) j)) (nP (snd (snda a j) j)) := by
      rw [p1]
      exact hR.2.2.ag (fun q hq => ag2 q (by omega)) p2
    refine h_st rfl rfl ?_
    refine h_st rfl rfl ?_
    exact ih1 _ F2 v2 _ h2 hP2 ⟨hML2, hQ2, hM2⟩
theorem r_101bw {σ0 : ae_S} {F0 : Nat → Nat → Int32} {c g n k : Int32} {a : AN} {P : ae_S × ae_O → Prop} (hx : ∀ (σ : ae_S) F v x4, RS false σ0 F0 σ c (nT (mva a 24)) g F → RP F g [] [] → RR F v (mva a 24) → hG ra (d + 6) 101 σ [some (.ref 176), some (.int n), some (.int k), some (.int (nI 24)), x4] [] 57 P) : ∀ (m j : Nat) (σ : ae_S) (F : Nat → Nat → Int32) (v : Nat → Nat) (x4 : Option Value), j + m = 24 → RS false σ0 F0 σ c (nT (mva a j)) g F → RP F g [] [] → RR F v (mva a j) → hG ra (d + 6) 101 σ [some (.ref 176), some (.int n), some (.int k), some (.int (nI j)), x4] [] 40 P := by
  intro m
  induction m with
  | zero =>
    intro j σ F v x4 hj h hP hR
    have hj : j = 24 := by omega
    subst hj
    refine h_st rfl rfl ?_
    refine h_st rfl rfl ?_
    refine h_st rfl rfl ?_
    refine h_pc (if_pos (decide_eq_true (nI_le (Nat.le_refl 24) (by decide)))) ?_
    exact hx _ _ _ _ h hP hR
  | succ m ih =>
    intro j σ F v x4 hj h hP hR
    have ih1 := fun σ F v x4 => ih (j + 1) σ F v x4 (by omega)
    rw [show nT (mva a (j + 1)) = nT (mva a j) from mv_T _ _] at ih1
    simp only [← nI_1] at ih1
    refine h_st rfl rfl ?_
    refine h_st rfl rfl ?_
    refine h_st rfl rfl ?_
    refine h_pc (if_neg (fun z9 => (nI_ge (show j < 24 by omega) (by decide)) (of_decide_eq_true z9))) ?_
    refine h_st rfl rfl ?_
    refine h_st rfl rfl ?_
    refine h_cv2 rfl (Nat.le_of_ble_eq_true rfl) (e_rcv h.2.1) rfl (r_114w h hP hR (by decide) rfl (by omega)) (fun σ2 hq => ?_)
    obtain ⟨F2, v2, h2, hP2, hR2⟩ := hq
    refine h_st rfl rfl ?_
    refine h_st rfl rfl ?_
    exact ih1 _ F2 v2 _ h2 hP2 hR2
theorem r_101cw {σ0 : ae_S} {F0 : Nat → Nat → Int32} {c g n k : Int32} {a : AN} {P : ae_S × ae_O → Prop} (hx : ∀ (σ : ae_S) F v x4, RS false σ0 F0 σ c (nT (tka a 24)) g F → RP F g [] [] → RR F v (tka a 24) → hG ra (d + 6) 101 σ [some (.ref 176), some (.int n), some (.int k), some (.int (nI 24)), x4] [] 76 P) : ∀ (m j : Nat) (σ : ae_S) (F : Nat → Nat → Int32) (v : Nat → Nat) (x4 : Option Value), j + m = 24 → RS false σ0 F0 σ c (nT (tka a j)) g F → RP F g [] [] → RR F v (tka a j) → hG ra (d + 6) 101 σ [some (.ref 176), some (.int n), some (.int k), some (.int (nI j)), x4] [] 59 P := by
  intro m
  induction m with
  | zero =>
    intro j σ F v x4 hj h hP hR
    have hj : j = 24 := by omega
    subst hj
    refine h_st rfl rfl ?_
    refine h_st rfl rfl ?_
    refine h_st rfl rfl ?_
    refine h_pc (if_pos (decide_eq_true (nI_le (Nat.le_refl 24) (by decide)))) ?_
    exact hx _ _ _ _ h hP hR
  | succ m ih =>
    intro j σ F v x4 hj h hP hR
    have ih1 := fun σ F v x4 => ih (j + 1) σ F v x4 (by omega)
    rw [show nT (tka a (j + 1)) = nT (tka a j) from tkf_T _ _] at ih1
    simp only [← nI_1] at ih1
    refine h_st rfl rfl ?_
    refine h_st rfl rfl ?_
    refine h_st rfl rfl ?_
    refine h_pc (if_neg (fun z9 => (nI_ge (show j < 24 by omega) (by decide)) (of_decide_eq_true z9))) ?_
    refine h_st rfl rfl ?_
    refine h_st rfl rfl ?_
    refine h_cv2 rfl (Nat.le_of_ble_eq_true rfl) (e_rcv h.2.1) rfl (pV_and (r_128t h hP rfl (by omega)) (r_128w h hR.1 rfl (by omega))) (fun σ2 hq => ?_)
    obtain ⟨⟨F1, h1, hP1⟩, F2, v2, h2, hML2, ag2⟩ := hq
    have hR2 : RR F2 v2 (tkf (tka a j) j) := by
      unfold tkf
      by_cases cc : (nL (tka a j) j).2.2.1.isNone = true
      · rw [if_pos cc] at hML2 ⊢
        exact ⟨hML2, hR.2.1.ag (fun q z1 z2 => ag2 q (by omega)), hR.2.2.ag (fun q hq => ag2 q (by omega)) rfl⟩
      · rw [if_neg cc] at hML2 ⊢
        exact ⟨hML2, hR.2.1.ag (fun q z1 z2 => ag2 q (by omega)), hR.2.2.ag (fun q hq => ag2 q (by omega)) rfl⟩
    refine h_st rfl rfl ?_
    refine h_st rfl rfl ?_
    exact ih1 _ F2 v2 _ h2 (hP1.tr h1 h2) hR2
theorem r_101dw {σ0 : ae_S} {F0 Fx : Nat → Nat → Int32} {c u g n k : Int32} {a : AN} (hQ : Mlk Fx (nK a)) {P : ae_S × ae_O → Prop} (hx : ∀ (σ : ae_S) F x4, RS false σ0 F0 σ c u g F → RP F g [] [] → (∀ q, q ≠ 188 → F q = Fx q) → (∀ i, i < 16 → F 188 i = if i < 16 then nac (nK a) (Fx 188) i else Fx 188 i) → hG ra (d + 6) 101 σ [some (.ref 176), some (.int n), some (.int k), some (.int (nI 16)), x4] [] 174 P) : ∀ (m j : Nat) (σ : ae_S) (F : Nat → Nat → Int32) (x4 : Option Value), j + m = 16 → RS false σ0 F0 σ c u g F → RP F g [] [] → (∀ q, q ≠ 188 → F q = Fx q) → (∀ i, i < 16 → F 188 i = if i < j then nac (nK a) (Fx 188) i else Fx 188 i) → hG ra (d + 6) 101 σ [some (.ref 176), some (.int n), some (.int k), some (.int (nI j)), x4] [] 78 P := by
  intro m
  induction m with
  | zero =>
    intro j σ F x4 hj h hP ag e8
    have hj : j = 16 := by omega
    subst hj
    refine h_st rfl rfl ?_
    refine h_st rfl rfl ?_
    refine h_st rfl rfl ?_
    refine h_pc (if_pos (decide_eq_true (nI_le (Nat.le_refl 16) (by decide)))) ?_
    exact hx _ _ _ h hP ag e8
  | succ m ih =>
    intro j σ F x4 hj h hP ag e8
    have ih1 := fun σ F x4 => ih (j + 1) σ F x4 (by omega)
    simp only [← nI_1] at ih1
    have ej : nI j - nI j / 8 * 8 = nI (j % 8) := pk_rem (a := j) (d := 8) (by omega) (by decide) (by decide)
    have hj8 : j % 8 < 8 := Nat.mod_lt _ (by decide)
    have hj16 : j < 16 := by omega
    have e8j : F 188 j = Fx 188 j := (e8 j hj16).trans (if_neg (Nat.lt_irrefl j))
    have hst : ∀ z, nac (nK a) (Fx 188) j = z → ∀ i, i < 16 → upd (F 188) j z i = if i < j + 1 then nac (nK a) (Fx 188) i else Fx 188 i := fun z hz i hi => by
      by_cases c : i = j
      · rw [c, pk_us, if_pos (by omega), hz]
      · rw [pk_un c, e8 i hi]
        by_cases c2 : i < j
        · rw [if_pos c2, if_pos (by omega)]
        · rw [if_neg c2, if_neg (by omega)]
    refine h_st rfl rfl ?_
    refine h_st rfl rfl ?_
    refine h_st rfl rfl ?_
    refine h_pc (if_neg (fun z9 => (nI_ge (show j < 16 by omega) (by decide)) (of_decide_eq_true z9))) ?_
    cases hk : nK a (j % 8) with
    | none =>
      have z1 : F 177 (j % 8) = 0 := by rw [ag 177 (by decide)]; exact ((hQ _ hj8).1 hk).1
      refine h_st rfl rfl ?_
      refine h_st rfl (e_get h.2.1 rfl) ?_
      refine h_st rfl rfl ?_
      refine h_st rfl rfl ?_
      refine h_st rfl (e_dv (by decide)) ?_
      refine h_st rfl (q_ia h.a182 (ej) (hj8) (by decide)) ?_
      refine h_st rfl rfl ?_
      refine h_st rfl (e_get h.2.1 rfl) ?_
      refine h_st rfl rfl ?_
      refine h_st rfl rfl ?_
      refine h_st rfl (e_dv (by decide)) ?_
      refine h_st rfl (q_ia h.a181 (ej) (hj8) (by decide)) ?_
      refine h_st rfl rfl ?_
      refine h_st rfl rfl ?_
      refine h_st rfl rfl ?_
      refine h_st rfl rfl ?_
      refine h_st rfl rfl ?_
      refine h_st rfl (e_get h.2.1 rfl) ?_
      refine h_st rfl rfl ?_
      refine h_st rfl rfl ?_
      refine h_st rfl (e_dv (by decide)) ?_
      refine h_st rfl (q_baE h.a177 (ej) (hj8) (by decide) (z1)) ?_
      refine h_st rfl rfl ?_
      refine h_pc (if_pos (by decide)) ?_
      refine h_st rfl rfl ?_
      refine h_st rfl rfl ?_
      refine ih1 _ F _ h hP ag (fun i hi => ?_)
      have hn : nac (nK a) (Fx 188) j = Fx 188 j := by unfold nac; rw [hk]
      have h9 := hst _ hn i hi
      rw [← e8j] at h9
      have e9 : upd (F 188) j (F 188 j) i = F 188 i := by
        by_cases c9 : i = j
        · rw [c9, pk_us]
        · rw [pk_un c9]
      exact e9.symm.trans h9
    | some kk =>
      have hK := (hQ _ hj8).2 kk hk
      have a1 : ¬ F 177 (j % 8) = 0 := by rw [ag 177 (by decide)]; exact hK.1.1
      have a3 : F 181 (j % 8) = kga kk := by rw [ag 181 (by decide)]; exact hK.1.2.2.1
      have a4 : F 182 (j % 8) = nI (kmo kk) := by rw [ag 182 (by decide)]; exact hK.1.2.2.2.1
      have eac : F 188 j = kac kk (j / 8) := by
        have h9 := hK.kac (nt := j / 8) (by omega)
        rw [show 8 * (j / 8) + j % 8 = j by omega] at h9
        exact e8j.trans h9
      have hn : nac (nK a) (Fx 188) j = mn2 (nI (kmo kk) * (kga kk + 64)) (kac kk (j / 8) + nI (kmo kk)) := by
        unfold nac
        rw [hk]
        show mn2 _ (_ + nI (kmo kk) * 1) = _
        rw [Int32.mul_one]
      refine h_st rfl rfl ?_
      refine h_st rfl (e_get h.2.1 rfl) ?_
      refine h_st rfl rfl ?_
      refine h_st rfl rfl ?_
      refine h_st rfl (e_dv (by decide)) ?_
      refine h_st rfl (q_iaE h.a182 (ej) (hj8) (by decide) (a4)) ?_
      refine h_st rfl rfl ?_
      refine h_st rfl (e_get h.2.1 rfl) ?_
      refine h_st rfl rfl ?_
      refine h_st rfl rfl ?_
      refine h_st rfl (e_dv (by decide)) ?_
      refine h_st rfl (q_iaE h.a181 (ej) (hj8) (by decide) (a3)) ?_
      refine h_st rfl rfl ?_
      refine h_st rfl rfl ?_
      refine h_st rfl rfl ?_
      refine h_st rfl rfl ?_
      refine h_st rfl rfl ?_
      refine h_st rfl (e_get h.2.1 rfl) ?_
      refine h_st rfl rfl ?_
      refine h_st rfl rfl ?_
      refine h_st rfl (e_dv (by decide)) ?_
      refine h_st rfl (q_ba h.a177 (ej) (hj8) (by decide)) ?_
      refine h_st rfl rfl ?_
      refine h_pc (if_neg (fun z9 => (a1) (of_decide_eq_true z9))) ?_
      refine h_st rfl rfl ?_
      refine h_st rfl (e_get h.2.1 rfl) ?_
      refine h_st rfl rfl ?_
      refine h_st rfl rfl ?_
      refine h_st rfl (e_get h.2.1 rfl) ?_
      refine h_st rfl rfl ?_
      refine h_st rfl (q_iaE h.a188 (rfl) (hj16) (by decide) (eac)) ?_
      refine h_st rfl rfl ?_
      refine h_st rfl (e_get h.2.1 rfl) ?_
      refine h_st rfl rfl ?_
      refine h_st rfl rfl ?_
      refine h_st rfl (e_dv (by decide)) ?_
      refine h_st rfl (q_iaE h.a182 (ej) (hj8) (by decide) (a4)) ?_
      refine h_st rfl rfl ?_
      refine h_st rfl rfl ?_
      refine h_st rfl rfl ?_
      refine h_br (fun q2 => ?_) (fun q2 => ?_)
      · refine h_st rfl rfl ?_
        refine h_st rfl (e_get h.2.1 rfl) ?_
        refine h_st rfl rfl ?_
        refine h_st rfl (q_iaE h.a188 (rfl) (hj16) (by decide) (eac)) ?_
        refine h_st rfl rfl ?_
        refine h_st rfl (e_get h.2.1 rfl) ?_
        refine h_st rfl rfl ?_
        refine h_st rfl rfl ?_
        refine h_st rfl (e_dv (by decide)) ?_
        refine h_st rfl (q_iaE h.a182 (ej) (hj8) (by decide) (a4)) ?_
        refine h_st rfl rfl ?_
        refine r_ias rfl h m188 (fun z => by cases z) (by decide) (rfl) (hj16) (rfl) (fun σ2 h2 => ?_)
        replace h := h2
        clear h2
        refine h_st rfl rfl ?_
        refine h_st rfl rfl ?_
        exact ih1 _ _ _ h (hP.fo (by decide)) (fun q hq => (fu_n hq).trans (ag q hq)) (hst _ (hn.trans (mn2_le q2)))
      · refine h_st rfl rfl ?_
        refine h_st rfl rfl ?_
        refine r_ias rfl h m188 (fun z => by cases z) (by decide) (rfl) (hj16) (rfl) (fun σ2 h2 => ?_)
        replace h := h2
        clear h2
        refine h_st rfl rfl ?_
        refine h_st rfl rfl ?_
        exact ih1 _ _ _ h (hP.fo (by decide)) (fun q hq => (fu_n hq).trans (ag q hq)) (hst _ (hn.trans (mn2_gt q2)))
theorem r_101lw {σ0 : ae_S} {F0 : Nat → Nat → Int32} {g : Int32} {a : AN} {N : Nat} (hN : N ≤ 2000) : ∀ (m k : Nat) (σ : ae_S) (F : Nat → Nat → Int32) (v : Nat → Nat) (x3 x4 : Option Value), k + m = N → RS false σ0 F0 σ 0 (nT (tcn a k)) g F → RP F g [] [] → RR F v (tcn a k) → hG ra (d + 6) 101 σ [some (.ref 176), some (.int (nI N)), some (.int (nI k)), x3, x4] [] 7 (pI (fun σ' y => y = nT (tcn a N) ∧ ∃ F' v', RS false σ0 F0 σ' 0 (nT (tcn a N)) g F' ∧ RP F' g [] [] ∧ RR F' v' (tcn a N))) := by
  intro m
  induction m with
  | zero =>
    intro k σ F v x3 x4 hk h hP hR
    have hk : k = N := by omega
    subst hk
    refine h_st rfl rfl ?_
    refine h_st rfl rfl ?_
    refine h_st rfl rfl ?_
    refine h_pc (if_pos (decide_eq_true (nI_le (Nat.le_refl _) (by omega)))) ?_
    refine h_st rfl rfl ?_
    refine h_st rfl (e_get h.2.1 rfl) ?_
    exact h_rt rfl rfl (⟨_, _, rfl, rfl, F, v, h, hP, hR⟩)
  | succ m ih =>
    intro k σ F v x3 x4 hk h hP hR
    have ih1 := fun σ F v x3 x4 => ih (k + 1) σ F v x3 x4 (by omega)
    simp only [← nI_1] at ih1
    refine h_st rfl rfl ?_
    refine h_st rfl rfl ?_
    refine h_st rfl rfl ?_
    refine h_pc (if_neg (fun z9 => (nI_ge (show k < N by omega) (by omega)) (of_decide_eq_true z9))) ?_
    refine h_st rfl rfl ?_
    refine h_st rfl rfl ?_
    refine h_st rfl rfl ?_
    refine h_pc (if_neg (fun z9 => (show ¬ (2000 : Int32) < nI N from Int32.not_lt.mpr (nI_le (b := 2000) hN (by decide))) (of_decide_eq_true z9))) ?_
    refine h_st rfl rfl ?_
    refine h_st rfl rfl ?_
    refine r_101aw (a := tcn a k) (F0 := F0) (fun σ F1 v1 x4 h hP hR => ?_) 8 0 _ F v _ rfl h hP hR
    refine h_st rfl rfl ?_
    refine h_st rfl rfl ?_
    refine r_101bw (a := snda (tcn a k) 8) (F0 := F0) (fun σ F2 v2 x4 h hP hR => ?_) 24 0 _ F1 v1 _ rfl h hP hR
    refine h_st rfl rfl ?_
    refine h_st rfl rfl ?_
    refine r_101cw (a := mva (snda (tcn a k) 8) 24) (F0 := F0) (fun σ F3 v3 x4 h hP hR => ?_) 24 0 _ F2 v2 _ rfl h hP hR
    refine h_st rfl rfl ?_
    refine h_st rfl rfl ?_
    refine r_101dw (a := tka (mva (snda (tcn a k) 8) 24) 24) (F0 := F0) (Fx := F3) hR.2.1 (fun σ F4 x4 h hP ag4 e84 => ?_) 16 0 _ F3 _ rfl h hP (fun _ _ => rfl) (fun i hi => (if_neg (Nat.not_lt_zero i)).symm)
    have hR4 : RR F4 v3 (tcn a (k + 1)) := by
      rw [tcn_s]
      exact hR.gro ag4 (fun i hi => (e84 i hi).trans (if_pos hi))
    have eT : nT (tcn a (k + 1)) = nT (tka (mva (snda (tcn a k) 8) 24) 24) + 1 := by rw [tcn_s, grw_T]
    rw [eT] at ih1
    refine h_st rfl rfl ?_
    refine h_st rfl rfl ?_
    refine h_st rfl (e_get h.2.1 rfl) ?_
    refine h_st rfl rfl ?_
    refine h_st rfl rfl ?_
    refine r_put rfl h rfl (Nat.le_of_ble_eq_true rfl) rfl (fun σ2 h2 => ?_)
    replace h := h2
    clear h2
    refine h_st rfl rfl ?_
    refine h_st rfl rfl ?_
    exact ih1 _ F4 v3 _ _ h hP hR4
theorem r_101w {b : Bool} {σ0 : ae_S} {F0 F : Nat → Nat → Int32} {c g : Int32} {a : AN} {v : Nat → Nat} (h : RS b σ0 F0 σ c (nT a) g F) (hP : RP F g [] []) (hR : RR F v a) (x : Int32) : hE ra (d + 7) 101 [.ref 176, .int x] σ (pI (fun σ' y => ∃ N, N = (if x < 0 ∨ 2000 < x then 0 else x.toNatClampNeg) ∧ y = nT (tcn a N) ∧ ∃ F' v', RS false σ0 F σ' 0 (nT (tcn a N)) g F' ∧ RP F' g [] [] ∧ RR F' v' (tcn a N))) := by
  have hfl : RS false σ0 F σ c (nT a) g F := h.fls
  replace h := hfl
  clear hfl
  refine h_in rfl rfl (Nat.le_of_ble_eq_true rfl) ?_
  refine h_st rfl rfl ?_
  refine h_st rfl rfl ?_
  refine r_put rfl h rfl (Nat.le_of_ble_eq_true rfl) rfl (fun σ2 h2 => ?_)
  replace h := h2
  clear h2
  refine h_st rfl rfl ?_
  refine h_st rfl rfl ?_
  by_cases hc : x < 0 ∨ 2000 < x
  · have hN0 : (0 : Nat) = (if x < 0 ∨ 2000 < x then 0 else x.toNatClampNeg) := (if_pos hc).symm
    rcases hc with hc | hc
    · refine h_st rfl rfl ?_
      refine h_st rfl rfl ?_
      refine h_st rfl rfl ?_
      refine h_pc (if_pos (decide_eq_true (show x ≤ 0 from Int32.le_of_lt hc))) ?_
      refine h_st rfl rfl ?_
      refine h_st rfl (e_get h.2.1 rfl) ?_
      exact h_rt rfl rfl (⟨_, _, rfl, 0, hN0, rfl, F, v, h, hP, hR⟩)
    · refine h_st rfl rfl ?_
      refine h_st rfl rfl ?_
      refine h_st rfl rfl ?_
      refine h_pc (if_neg (fun z9 => (show ¬ x ≤ 0 from Int32.not_le.mpr (Int32.lt_trans (by decide) hc)) (of_decide_eq_true z9))) ?_
      refine h_st rfl rfl ?_
      refine h_st rfl rfl ?_
      refine h_st rfl rfl ?_
      refine h_pc (if_pos (decide_eq_true (hc))) ?_
      refine h_st rfl rfl ?_
      refine h_st rfl (e_get h.2.1 rfl) ?_
      exact h_rt rfl rfl (⟨_, _, rfl, 0, hN0, rfl, F, v, h, hP, hR⟩)
  · obtain ⟨N, hN, rfl⟩ := nI_of2 (x := x) (M := 2000) (n := 2000) (by decide) (fun z => hc (Or.inl z)) (Int32.not_lt.mp (fun z => hc (Or.inr z)))
    have hNN : N = (if nI N < 0 ∨ 2000 < nI N then 0 else (nI N).toNatClampNeg) := by rw [if_neg hc, nI_clamp (by omega)]
    obtain ⟨r, g1, σ9, y, rfl, a1, a2⟩ := r_101lw (ra := ra) (d := d) (a := a) (F0 := F) hN N 0 _ _ v none none (Nat.zero_add _) h hP hR
    exact ⟨_, g1, σ9, y, rfl, N, hNN, a1, a2⟩
end SY18
