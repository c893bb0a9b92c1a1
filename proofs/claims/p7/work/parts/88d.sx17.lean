section SX17
variable {ra : ae_R} {d : Nat} {σ σ0 σ1 σ2 : ae_S} {w w0 w1 w2 : Nat → Nat} {C C' : Nat → Prop} {l i : Nat} {f : Nat → Option Nat} {a : AN} {k : AK} {x : AF}
def tkf (a : AN) (i : Nat) : AN := if (nL a i).2.2.1.isNone = true then setL a i (ld (nL a i)) else a
def tka (a : AN) : Nat → AN
  | 0 => a
  | j + 1 => tkf (tka a j) j
theorem c_58ln : ∀ (m j : Nat) (σ : ae_S) (w : Nat → Nat) (x4 : Option Value), j + m = 24 → CN σ w f (tka a j) → hG ra (d + 3) 58 σ [some (.ref 0), some (.ref 2), some (.int (nI 24)), some (.int (nI j)), x4] [] 10 (pV (fun σ' => ∃ w', CN σ' w' f (tka a 24))) := by
  intro m
  induction m with
  | zero =>
    intro j σ w x4 hj h
    have hj : j = 24 := by omega
    subst hj
    refine h_st rfl rfl ?_
    refine h_st rfl rfl ?_
    refine h_st rfl rfl ?_
    refine h_pc (if_pos (decide_eq_true (nI_le (Nat.le_refl 24) (by decide)))) ?_
    exact h_rv rfl (⟨_, rfl, w, h⟩)
  | succ m ih =>
    intro j σ w x4 hj h
    have hj24 : j < 24 := by omega
    have ih1 : ∀ σ w x4, CN σ w f (tka a (j + 1)) → hG ra (d + 3) 58 σ [some (.ref 0), some (.ref 2), some (.int (nI 24)), some (.int (nI j + 1)), x4] [] 10 (pV (fun σ' => ∃ w', CN σ' w' f (tka a 24))) := fun σ w x4 h => by rw [nI_1]; exact ih (j + 1) σ w x4 (by omega) h
    have htk : tka a (j + 1) = tkf (tka a j) j := rfl
    have h0 := h.1.1.1
    obtain ⟨fl, hfl, hfl2⟩ := h.1.2.1
    have hin : ¬ (nI j < 0 ∨ 24 ≤ (nI j).toNatClampNeg) := nI_in hj24 (by decide)
    have hv : va_rf (fl (nI j).toNatClampNeg) = .ref (8 + 7 * j) := by rw [nI_clamp (by omega), hfl2 _ hj24]; rfl
    have hA := h.2.2.2.1 j hj24
    have hA' := hA
    obtain ⟨fr0, b0, g0, e0, hp0, mk0, x0, hW, hon, -⟩ := hA'
    refine h_st rfl rfl ?_
    refine h_st rfl rfl ?_
    refine h_st rfl rfl ?_
    refine h_pc (if_neg (fun z9 => (nI_ge (b := 24) hj24 (by decide)) (of_decide_eq_true z9))) ?_
    refine h_st rfl rfl ?_
    refine h_st rfl rfl ?_
    refine h_st rfl ((e_aa hfl (by decide) hin).trans (by rw [hv])) ?_
    refine h_st rfl rfl ?_
    refine h_st rfl rfl ?_
    refine h_st rfl (e_get hW.2.1 rfl) ?_
    rcases hon with ⟨eo, eb⟩ | ⟨t, eo, eb, -⟩
    · subst eb
      have es : tka a (j + 1) = setL (tka a j) j (ld (nL (tka a j) j)) := by
        rw [htk]
        unfold tkf
        rw [eo]
        rfl
      refine h_st rfl rfl ?_
      refine h_pc (if_neg (by decide)) ?_
      refine h_st rfl rfl ?_
      refine h_ci1 rfl (Nat.le_of_ble_eq_true rfl) (hW.rcv) rfl (c_59x hA eo) (fun σ2 v2 hv2 => ?_)
      obtain ⟨w2, hA2, s2⟩ := hv2
      have h2 := h.ln s2 (fun c z => Or.inl z) hj24 hA2 (h.1.sa s2 (by unfold LC; omega) (by unfold LC; omega) (by unfold LC; omega)) (h.2.1.sa s2 (by unfold LC; omega) (by unfold LC; omega))
      obtain ⟨dc, hdc⟩ := h2.1.2.2.2.1
      refine h_st rfl rfl ?_
      refine h_br (fun q => ?_) (fun q => ?_)
      · refine h_st rfl rfl ?_
        refine h_st rfl rfl ?_
        exact ih1 _ w2 _ (by rw [es]; exact h2)
      · refine h_st rfl rfl ?_
        refine h_st rfl (e_get h2.1.1.1 rfl) ?_
        refine h_st rfl rfl ?_
        refine h_st rfl rfl ?_
        refine h_st rfl (e_ia hdc (nI_in (c := 0) (by decide) (by decide))) ?_
        refine h_st rfl rfl ?_
        refine h_st rfl rfl ?_
        refine h_st rfl (e_ias hdc (nI_in (c := 0) (by decide) (by decide))) ?_
        refine h_st rfl rfl ?_
        refine h_st rfl rfl ?_
        exact ih1 _ w2 _ (by rw [es]; exact h2.dc _)
    · subst eb
      have es : tka a (j + 1) = tka a j := by
        rw [htk]
        unfold tkf
        rw [eo]
        rfl
      refine h_st rfl rfl ?_
      refine h_pc (if_pos (by decide)) ?_
      refine h_st rfl rfl ?_
      refine h_st rfl rfl ?_
      exact ih1 _ w _ (by rw [es]; exact h)
theorem c_58n (h : CN σ w f a) : hE ra (d + 4) 58 [.ref 0] σ (pV (fun σ' => ∃ w', CN σ' w' f (tka a 24))) := by
  have h0 := h.1.1.1
  obtain ⟨fl, hfl, hfl2⟩ := h.1.2.1
  refine h_in rfl rfl (Nat.le_of_ble_eq_true rfl) ?_
  refine h_st rfl rfl ?_
  refine h_st rfl (e_get h0 rfl) ?_
  refine h_st rfl rfl ?_
  refine h_st rfl rfl ?_
  refine h_st rfl (e_len hfl (by decide)) ?_
  refine h_st rfl rfl ?_
  refine h_st rfl rfl ?_
  refine h_st rfl rfl ?_
  exact c_58ln 24 0 _ w _ rfl h
def mn2 (T A : Int32) : Int32 := if A < T then A else T
def gwk (k : AK) (n : Int32) : AK := (k.1, k.2.1, fun nt => mn2 (nI (kmo k) * (kga k + 64)) (kac k nt + nI (kmo k) * n))
def gwj (k : AK) (n : Int32) (j : Nat) : AK := (k.1, k.2.1, fun nt => if nt < j then mn2 (nI (kmo k) * (kga k + 64)) (kac k nt + nI (kmo k) * n) else kac k nt)
theorem LK.ac2 {q po ac wa fi : Nat} {se : Int32} {fa' : Nat → Int32} {k' : AK} (h : LK σ w l q k po ac wa fi se) (e1 : k'.1 = k.1) (e2 : k'.2.1 = k.2.1) (h0 : fa' 0 = kac k' 0) (h1' : fa' 1 = kac k' 1) : LK (σ.1, σ.2.set ac (.inl (0, 2, .inl fa'))) w l q k' po ac wa fi se ∧ Sa (fun c => c = lb l + 2) σ w (σ.1, σ.2.set ac (.inl (0, 2, .inl fa'))) w := by
  obtain ⟨⟨a1, a2, a3, a4⟩, h1, h2, h3, ⟨fa, h4, h5⟩, fw, h6, h7, h8⟩ := h
  have s := Sa.set (σ := σ) (w := w) (p := ac) (y := .inl (0, 2, .inl fa'))
  rw [a3] at s
  obtain ⟨k1, k2, k3⟩ := k
  obtain ⟨k1', k2', k3'⟩ := k'
  simp only at e1 e2
  subst e1
  subst e2
  refine ⟨⟨⟨a1, a2, a3, a4⟩, s.at h1 (by omega), h2, h3, ⟨_, st_get h4, h0, h1'⟩, fw, s.at h6 (by omega), fun j hj => ?_, fun j x hx => ?_⟩, s⟩
  · obtain ⟨q', v0, v1, v2, v3, v4, v5, e1, e2, e3⟩ := h7 j hj
    exact ⟨q', v0, v1, v2, v3, v4, v5, e1, e2, s.at e3 (by omega)⟩
  · obtain ⟨e0, q', e1, e2⟩ := h8 j x hx
    obtain ⟨q'', v0, v1, v2, v3, v4, v5, e3, e4, e5⟩ := h7 ((fi + j) % 8) (Nat.mod_lt _ (by decide))
    have e6 : q'' = q' := by
      rw [e1] at e3
      injection e3 with e3
      exact e3.symm
    subst e6
    exact ⟨e0, q'', e1, s.at e2 (by omega)⟩
theorem c_10lz {q po ac wa fi : Nat} {se n : Int32} : ∀ (m j : Nat) (σ : ae_S), j + m = 2 → LK σ w l q (gwj k n j) po ac wa fi se → Sa (fun c => c = lb l + 2) σ0 w σ w → hG ra d 10 σ [some (.ref q), some (.int n), some (.int (nI j))] [] 2 (pV (fun σ' => LK σ' w l q (gwj k n 2) po ac wa fi se ∧ Sa (fun c => c = lb l + 2) σ0 w σ' w)) := by
  intro m
  induction m with
  | zero =>
    intro j σ hj h s
    have hj : j = 2 := by omega
    subst hj
    refine h_st rfl rfl ?_
    refine h_st rfl rfl ?_
    refine h_st rfl rfl ?_
    refine h_pc (if_pos (decide_eq_true (nI_le (Nat.le_refl 2) (by decide)))) ?_
    exact h_rv rfl (⟨_, rfl, h, s⟩)
  | succ m ih =>
    intro j σ hj h s
    have hj2 : j < 2 := by omega
    have ih1 : ∀ σ, LK σ w l q (gwj k n (j + 1)) po ac wa fi se → Sa (fun c => c = lb l + 2) σ0 w σ w → hG ra d 10 σ [some (.ref q), some (.int n), some (.int (nI j + 1))] [] 2 (pV (fun σ' => LK σ' w l q (gwj k n 2) po ac wa fi se ∧ Sa (fun c => c = lb l + 2) σ0 w σ' w)) := fun σ h s => by rw [nI_1]; exact ih (j + 1) σ (by omega) h s
    obtain ⟨fa, h4, h5⟩ := h.fa hj2
    have h45 : ∀ nt, nt < 2 → fa nt = kac (gwj k n j) nt := fun nt hnt => by
      obtain ⟨fa2, h42, h52⟩ := h.fa hnt
      rw [h4] at h42
      injection h42 with z
      injection z with z
      injection z with z1 z
      injection z with z1 z
      injection z with z
      rw [z]
      exact h52
    have hin : ¬ (nI j < 0 ∨ 2 ≤ (nI j).toNatClampNeg) := nI_in hj2 (by decide)
    have en : (nI j).toNatClampNeg = j := nI_clamp (by omega)
    have ekj : kac (gwj k n j) j = kac k j := if_neg (Nat.lt_irrefl _)
    have efa : fa (nI j).toNatClampNeg = kac k j := by rw [en, h5, ekj]
    have hup : ∀ nt, nt < 2 → upd fa j (mn2 (nI (kmo k) * (kga k + 64)) (kac k j + nI (kmo k) * n)) nt = kac (gwj k n (j + 1)) nt := fun nt hnt => by
      by_cases e : nt = j
      · rw [e, pk_us]
        exact (if_pos (Nat.lt_succ_self _)).symm
      · rw [pk_un e, h45 nt hnt]
        show (if nt < j then _ else _) = (if nt < j + 1 then _ else _)
        by_cases c : nt < j
        · rw [if_pos c, if_pos (by omega)]
        · rw [if_neg c, if_neg (by omega)]
    obtain ⟨g2, s2⟩ := h.ac2 (k' := gwj k n (j + 1)) (fa' := upd fa j (mn2 (nI (kmo k) * (kga k + 64)) (kac k j + nI (kmo k) * n))) rfl rfl (hup 0 (by decide)) (hup 1 (by decide))
    refine h_st rfl rfl ?_
    refine h_st rfl rfl ?_
    refine h_st rfl rfl ?_
    refine h_pc (if_neg (fun z9 => (nI_ge (b := 2) hj2 (by decide)) (of_decide_eq_true z9))) ?_
    refine h_st rfl rfl ?_
    refine h_st rfl (e_get h.2.1 rfl) ?_
    refine h_st rfl rfl ?_
    refine h_st rfl rfl ?_
    refine h_st rfl (e_get h.2.1 rfl) ?_
    refine h_st rfl rfl ?_
    refine h_st rfl (e_get h.2.1 rfl) ?_
    refine h_st rfl rfl ?_
    refine h_st rfl rfl ?_
    refine h_st rfl rfl ?_
    refine h_st rfl rfl ?_
    refine h_st rfl (e_get h.2.1 rfl) ?_
    refine h_st rfl rfl ?_
    refine h_st rfl ((e_ia h4 hin).trans (by rw [efa])) ?_
    refine h_st rfl rfl ?_
    refine h_st rfl (e_get h.2.1 rfl) ?_
    refine h_st rfl rfl ?_
    refine h_st rfl rfl ?_
    refine h_st rfl rfl ?_
    refine h_st rfl rfl ?_
    refine h_st rfl ((e_ias h4 hin).trans (by rw [en])) ?_
    refine hG_eq (σ1 := (σ.1, σ.2.set ac (.inl (0, 2, .inl (upd fa j (mn2 (nI (kmo k) * (kga k + 64)) (kac k j + nI (kmo k) * n))))))) rfl ?_
    refine h_st rfl rfl ?_
    refine h_st rfl rfl ?_
    exact ih1 _ g2 (s.trans s2)
theorem gwj0 {n : Int32} : gwj k n 0 = k := by
  unfold gwj
  obtain ⟨k1, k2, k3⟩ := k
  rfl
theorem LK.ext {q po ac wa fi : Nat} {se : Int32} {k' : AK} (h : LK σ w l q k po ac wa fi se) (e1 : k'.1 = k.1) (e2 : k'.2.1 = k.2.1) (h0 : kac k' 0 = kac k 0) (h1' : kac k' 1 = kac k 1) : LK σ w l q k' po ac wa fi se := by
  obtain ⟨k1, k2, k3⟩ := k
  obtain ⟨k1', k2', k3'⟩ := k'
  simp only at e1 e2
  subst e1
  subst e2
  obtain ⟨b1, b2, b3, b4, ⟨fa, h4, h5, h6⟩, b5⟩ := h
  exact ⟨b1, b2, b3, b4, ⟨fa, h4, h5.trans h0.symm, h6.trans h1'.symm⟩, b5⟩
theorem c_10z {q po ac wa fi : Nat} {se n : Int32} (h : LK σ w l q k po ac wa fi se) : hE ra (d + 1) 10 [.ref q, .int n] σ (pV (fun σ' => LK σ' w l q (gwk k n) po ac wa fi se ∧ Sa (fun c => c = lb l + 2) σ w σ' w)) := by
  refine hE_mono (P := pV (fun σ' => LK σ' w l q (gwj k n 2) po ac wa fi se ∧ Sa (fun c => c = lb l + 2) σ w σ' w)) ?_ (fun r z => ?_)
  · refine h_in rfl rfl (Nat.le_of_ble_eq_true rfl) ?_
    refine h_st rfl rfl ?_
    refine h_st rfl rfl ?_
    exact c_10lz 2 0 _ rfl (by rw [gwj0]; exact h) Sa.refl
  · obtain ⟨σ', er, h1, h2⟩ := z
    exact ⟨σ', er, h1.ext rfl rfl rfl rfl, h2⟩
/-- time passes -/
def gwK (K : Nat → Option AK) (n : Int32) (j : Nat) : Nat → Option AK := fun l => if l < j then (match K l with | none => none | some k => some (gwk k n)) else K l
def grw (a : AN) (n : Int32) : AN := (nT a + n, (fun l => match nK a l with | none => none | some k => some (gwk k n)), nL a, nP a)
theorem c_9ln {n : Int32} {P : ae_S × ae_O → Prop} (hX : ∀ σ x5, CN σ w f (nT a, gwK (nK a) n 8, nL a, nP a) → hG ra (d + 1) 9 σ [some (.ref 0), some (.int n), some (.ref 1), some (.int (nI 8)), some (.int (nI 8)), x5] [] 40 P) : ∀ (m j : Nat) (σ : ae_S) (x5 : Option Value), j + m = 8 → CN σ w f (nT a, gwK (nK a) n j, nL a, nP a) → hG ra (d + 1) 9 σ [some (.ref 0), some (.int n), some (.ref 1), some (.int (nI 8)), some (.int (nI j)), x5] [] 11 P := by
  intro m
  induction m with
  | zero =>
    intro j σ x5 hj h
    have hj : j = 8 := by omega
    subst hj
    refine h_st rfl rfl ?_
    refine h_st rfl rfl ?_
    refine h_st rfl rfl ?_
    refine h_pc (if_pos (decide_eq_true (nI_le (Nat.le_refl 8) (by decide)))) ?_
    exact hX _ _ h
  | succ m ih =>
    intro j σ x5 hj h
    have hj8 : j < 8 := by omega
    have ih1 : ∀ σ x5, CN σ w f (nT a, gwK (nK a) n (j + 1), nL a, nP a) → hG ra (d + 1) 9 σ [some (.ref 0), some (.int n), some (.ref 1), some (.int (nI 8)), some (.int (nI j + 1)), x5] [] 11 P := fun σ x5 h => by rw [nI_1]; exact ih (j + 1) σ x5 (by omega) h
    have h' := h
    obtain ⟨hN, -, -, -, ⟨hA, -⟩, hC⟩ := h'
    have hin : ¬ (nI j < 0 ∨ 8 ≤ (nI j).toNatClampNeg) := nI_in hj8 (by decide)
    have ej : (nI j).toNatClampNeg = j := nI_clamp (by omega)
    have egj : gwK (nK a) n j j = nK a j := if_neg (Nat.lt_irrefl _)
    have hne : ∀ l, l ≠ j → gwK (nK a) n (j + 1) l = gwK (nK a) n j l := fun l hl => by
      unfold gwK
      by_cases c : l < j
      · rw [if_pos c, if_pos (by omega)]
      · rw [if_neg c, if_neg (by omega)]
    refine h_st rfl rfl ?_
    refine h_st rfl rfl ?_
    refine h_st rfl rfl ?_
    refine h_pc (if_neg (fun z9 => (nI_ge (b := 8) hj8 (by decide)) (of_decide_eq_true z9))) ?_
    refine h_st rfl rfl ?_
    refine h_st rfl rfl ?_
    refine h_st rfl ((e_aa hA (by decide) hin).trans (by rw [ej])) ?_
    cases hk : nK a j with
    | none =>
      have en : f j = none := (hC j hj8).1 (egj.trans hk)
      have ee : gwK (nK a) n (j + 1) = gwK (nK a) n j := by
        funext l
        by_cases c : l = j
        · rw [c, egj, hk]
          show (if j < j + 1 then _ else _) = none
          rw [if_pos (Nat.lt_succ_self _), hk]
        · exact hne l c
      rw [en]
      refine h_st rfl rfl ?_
      refine h_st rfl rfl ?_
      refine h_st rfl rfl ?_
      refine h_st rfl rfl ?_
      refine h_st rfl rfl ?_
      exact ih1 _ _ (by rw [ee]; exact h)
    | some k =>
      obtain ⟨q, po, ac, wa, fi, se, pf, e1, hL, hpf, hsq, hPT⟩ := (hC j hj8).2 k (egj.trans hk)
      have wpo := hL.1.2.1
      have ejk : gwK (nK a) n (j + 1) j = some (gwk k n) := by
        show (if j < j + 1 then _ else _) = _
        rw [if_pos (Nat.lt_succ_self _), hk]
      rw [e1]
      refine h_st rfl rfl ?_
      refine h_st rfl rfl ?_
      refine h_st rfl rfl ?_
      refine h_st rfl rfl ?_
      refine h_st rfl rfl ?_
      refine h_cv2 rfl (Nat.le_of_ble_eq_true rfl) (hL.rcv) rfl (c_10z (n := n) hL) (fun σ2 hq => ?_)
      obtain ⟨hL2, s2⟩ := hq
      refine h_st rfl rfl ?_
      refine h_st rfl rfl ?_
      refine ih1 _ _ (CN.lk (a := (nT a, gwK (nK a) n j, nL a, nP a)) (k := k) h s2 (fun c z => by omega) hj8 ⟨fun z => (by rw [ejk] at z; cases z), fun k2 hk2 => ?_⟩ hne (fun l hl => rfl))
      rw [ejk] at hk2
      cases hk2
      exact ⟨q, po, ac, wa, fi, se, pf, e1, hL2, s2.at hpf (by omega), hsq, fun e he => ⟨(hPT e he).1, fun p hp => by
        obtain ⟨r', h6, h7⟩ := (hPT e he).2 p hp
        exact ⟨r', h6, h7.sa s2 (fun c z => by unfold PC at z; omega)⟩⟩⟩
theorem CN.eqK {K : Nat → Option AK} (h : CN σ w f a) (hK : ∀ l, l < 8 → K l = nK a l) : CN σ w f (nT a, K, nL a, nP a) := by
  obtain ⟨h1, h2, h3, h4, h5, h7⟩ := h
  exact ⟨h1, h2, h3, h4, h5, fun l hl => (h7 l hl).eq (hK l hl) rfl⟩
theorem c_9n {n : Int32} (h : CN σ w f a) : hE ra (d + 2) 9 [.ref 0, .int n] σ (pV (fun σ' => CN σ' w f (grw a n))) := by
  have h0 := h.1.1.1
  have hA := h.2.2.2.2.1.1
  refine h_in rfl rfl (Nat.le_of_ble_eq_true rfl) ?_
  refine h_st rfl rfl ?_
  refine h_st rfl (e_get h0 rfl) ?_
  refine h_st rfl rfl ?_
  refine h_st rfl rfl ?_
  refine h_st rfl (e_len hA (by decide)) ?_
  refine h_st rfl rfl ?_
  refine h_st rfl rfl ?_
  refine h_st rfl rfl ?_
  refine c_9ln (a := a) (fun σ2 x5 h2 => ?_) 8 0 _ _ rfl (h.eqK (fun l hl => if_neg (Nat.not_lt_zero _)))
  obtain ⟨⟨⟨a1, a2⟩, ⟨fl, a3, a4⟩, a5, ⟨dc, a6⟩, a7⟩, b2, b3, b4, ⟨b5, b6⟩, b7⟩ := h2
  have s := Sa.set (σ := σ2) (w := w) (p := 0) (y := .inr (7, [.ref 1, .ref 2, .ref 3, .ref 4, .ref 6, .int (nT a + n)]))
  rw [a2] at s
  refine h_st rfl rfl ?_
  refine h_st rfl rfl ?_
  refine h_st rfl (e_get a1 rfl) ?_
  refine h_st rfl rfl ?_
  refine h_st rfl rfl ?_
  refine h_st rfl (e_put a1 rfl (Nat.le_of_ble_eq_true rfl)) ?_
  refine h_rv rfl ⟨_, rfl, ⟨⟨⟨st_get a1, a2⟩, ⟨fl, s.at a3 (by omega), a4⟩, a5, ⟨dc, s.at a6 (by omega)⟩, a7⟩, b2.sa s (by omega) (by omega), b3.sa s (by omega) (by omega), fun j hj => (b4 j hj).sa s (fun c z => by unfold LC at z; omega), ⟨s.at b5 (by omega), b6⟩, fun l hl => ((b7 l hl).sa s (fun c z1 z2 => by unfold lb at z1; omega)).eq ?_ rfl⟩⟩
  exact (if_pos hl).symm
end SX17
