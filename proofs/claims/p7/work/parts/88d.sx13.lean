section SX13
variable {ra : ae_R} {d : Nat} {σ σ0 σ1 σ2 : ae_S} {w w0 w1 w2 : Nat → Nat} {C C' : Nat → Prop}
/-- the abstract network: time, links, lines, ports -/
abbrev AN : Type := Int32 × (Nat → Option AK) × (Nat → ALn) × (Nat → Nat → Option AP)
abbrev nT (a : AN) : Int32 := a.1
abbrev nK (a : AN) : Nat → Option AK := a.2.1
abbrev nL (a : AN) : Nat → ALn := a.2.2.1
abbrev nP (a : AN) : Nat → Nat → Option AP := a.2.2.2
variable {l i : Nat} {f : Nat → Option Nat} {K K' : Nat → Option AK} {P P' : Nat → Nat → Option AP} {a : AN} {A : ALn} {x : AF}
def CLk (σ : ae_S) (w : Nat → Nat) (l : Nat) (f : Nat → Option Nat) (K : Nat → Option AK) (P : Nat → Nat → Option AP) : Prop := (K l = none → f l = none) ∧ ∀ k, K l = some k → ∃ q po ac wa fi se pf, f l = some q ∧ LK σ w l q k po ac wa fi se ∧ σ.2[po]? = some (.inl (7, rfs 4 pf)) ∧ rg (dsq k) 256 ∧ ∀ e, e < 4 → (P l e = none → pf e = none) ∧ ∀ p, P l e = some p → ∃ r, pf e = some r ∧ PT σ w (lb l + 20 + 40 * e) r p
theorem CLk.sa (h : CLk σ w l f K P) (hs : Sa C σ w σ1 w1) (hc : ∀ c, lb l ≤ c → c < lb l + 200 → ¬ C c) : CLk σ1 w1 l f K P := by
  refine ⟨h.1, fun k hk => ?_⟩
  obtain ⟨q, po, ac, wa, fi, se, pf, h1, h2, h3, h4, h5⟩ := h.2 k hk
  have cp : ¬ C (w po) := hc _ (by have := h2.1.2.1; omega) (by have := h2.1.2.1; omega)
  refine ⟨q, po, ac, wa, fi, se, pf, h1, h2.sa hs (fun c z1 z2 => hc c z1 (by omega)) (hs.wt h3 cp), hs.at h3 cp, h4, fun e he => ⟨(h5 e he).1, fun p hp => ?_⟩⟩
  obtain ⟨r, h6, h7⟩ := (h5 e he).2 p hp
  exact ⟨r, h6, h7.sa hs (fun c z => hc c (by unfold PC at z; omega) (by unfold PC at z; omega))⟩
theorem CLk.eq (h : CLk σ w l f K P) (e1 : K' l = K l) (e2 : P' l = P l) : CLk σ w l f K' P' := by
  unfold CLk at h ⊢
  rw [e1, e2]
  exact h
def Dr (σ : ae_S) (w : Nat → Nat) : Prop := (∃ n g, FX σ 4 5 n g) ∧ w 4 = 2400 ∧ w 5 = 2401
theorem Dr.sa (h : Dr σ w) (hs : Sa C σ w σ1 w1) (h1 : ¬ C 2400) (h2 : ¬ C 2401) : Dr σ1 w1 := by
  obtain ⟨⟨n, g, h3⟩, e1, e2⟩ := h
  have h3' := h3
  obtain ⟨k1, k2, g', k3, k4⟩ := h3'
  rw [← e1] at h1
  rw [← e2] at h2
  exact ⟨⟨n, g, h3.sa hs h1 h2⟩, (hs.wt k1 h1).trans e1, (hs.wt k3 h2).trans e2⟩
def Rd (σ : ae_S) (w : Nat → Nat) : Prop := (∃ n g, DX σ 6 7 n g) ∧ w 6 = 2402 ∧ w 7 = 2403
theorem Rd.sa (h : Rd σ w) (hs : Sa C σ w σ1 w1) (h1 : ¬ C 2402) (h2 : ¬ C 2403) : Rd σ1 w1 := by
  obtain ⟨⟨n, g, h3⟩, e1, e2⟩ := h
  have h3' := h3
  obtain ⟨k1, k2, g', k3, k4⟩ := h3'
  rw [← e1] at h1
  rw [← e2] at h2
  exact ⟨⟨n, g, h3.sa hs h1 h2⟩, (hs.wt k1 h1).trans e1, (hs.wt k3 h2).trans e2⟩
/-- the class keeps to the abstract network; f: where the links are -/
def CN (σ : ae_S) (w : Nat → Nat) (f : Nat → Option Nat) (a : AN) : Prop := NT σ w (nT a) ∧ Dr σ w ∧ Rd σ w ∧ (∀ i, i < 24 → LN σ w i (nL a i)) ∧ (σ.2[1]? = some (.inl (4, rfs 8 f)) ∧ w 1 = 2405) ∧ ∀ l, l < 8 → CLk σ w l f (nK a) (nP a)
def updL (L : Nat → ALn) (i : Nat) (A : ALn) : Nat → ALn := fun j => if j = i then A else L j
def updK (K : Nat → Option AK) (l : Nat) (k : AK) : Nat → Option AK := fun j => if j = l then some k else K j
def setL (a : AN) (i : Nat) (A : ALn) : AN := (nT a, nK a, updL (nL a) i A, nP a)
def setK (a : AN) (l : Nat) (k : AK) : AN := (nT a, updK (nK a) l k, nL a, nP a)
theorem setL_s : nL (setL a i A) i = A := if_pos rfl
theorem setL_n {j : Nat} (h : j ≠ i) : nL (setL a i A) j = nL a j := if_neg h
theorem CN.ln (h : CN σ w f a) (hs : Sa C σ w σ1 w1) (hc : ∀ c, C c → LC i c ∨ c = 2407 ∨ c = 2400 ∨ c = 2401) (hi : i < 24) (hA : LN σ1 w1 i A) (hN : NT σ1 w1 (nT a)) (hD : Dr σ1 w1) : CN σ1 w1 f (setL a i A) := by
  obtain ⟨h1, h2, h3, h4, ⟨h5, h6⟩, h7⟩ := h
  have c5 : ¬ C (w 1) := fun z => by have := hc _ z; unfold LC at this; omega
  refine ⟨hN, hD, h3.sa hs (fun z => by have := hc _ z; unfold LC at this; omega) (fun z => by have := hc _ z; unfold LC at this; omega), fun j hj => ?_, ⟨hs.at h5 c5, (hs.wt h5 c5).trans h6⟩, fun l hl => (h7 l hl).sa hs (fun c z1 z2 z => by have := hc _ z; unfold LC at this; unfold lb at z1; omega)⟩
  by_cases e : j = i
  · rw [e, setL_s]
    exact hA
  · rw [setL_n e]
    exact (h4 j hj).sa hs (fun c z1 z => by have := hc _ z; unfold LC at this z1; omega)
/-- nothing but the draft moves -/
theorem CN.dr (h : CN σ w f a) (hs : Sa C σ w σ1 w) (hc : ∀ c, C c → c = 2400 ∨ c = 2401) (hD : Dr σ1 w) : CN σ1 w f a := by
  obtain ⟨h1, h2, h3, h4, ⟨h5, h6⟩, h7⟩ := h
  have hn : ∀ c, c ≠ 2400 ∧ c ≠ 2401 → ¬ C c := fun c z1 z => by have := hc _ z; omega
  exact ⟨h1.sa hs (hn _ (by omega)) (hn _ (by omega)) (hn _ (by omega)), hD, h3.sa hs (hn _ (by omega)) (hn _ (by omega)), fun j hj => (h4 j hj).sa hs (fun c z1 => hn _ (by unfold LC at z1; omega)), ⟨hs.at h5 (hn _ (by omega)), h6⟩, fun l hl => (h7 l hl).sa hs (fun c z1 z2 => hn _ (by unfold lb at z1; omega))⟩
/-- a link moves -/
theorem CN.lk {k : AK} (h : CN σ w f a) (hs : Sa C σ w σ1 w1) (hc : ∀ c, C c → lb l ≤ c ∧ c < lb l + 200) (hl : l < 8) (hK : CLk σ1 w1 l f K' P') (h1' : ∀ j, j ≠ l → K' j = nK a j) (h2' : ∀ j, j ≠ l → P' j = nP a j) : CN σ1 w1 f (nT a, K', nL a, P') := by
  obtain ⟨h1, h2, h3, h4, ⟨h5, h6⟩, h7⟩ := h
  have hn : ∀ c, c < 3000 → ¬ C c := fun c z1 z => by have := hc _ z; unfold lb at this; omega
  refine ⟨h1.sa hs (hn _ (by omega)) (hn _ (by omega)) (hn _ (by omega)), h2.sa hs (hn _ (by omega)) (hn _ (by omega)), h3.sa hs (hn _ (by omega)) (hn _ (by omega)), fun j hj => (h4 j hj).sa hs (fun c z1 => hn _ (by unfold LC at z1; omega)), ⟨hs.at h5 (hn _ (by omega)), (hs.wt h5 (hn _ (by omega))).trans h6⟩, fun j hj => ?_⟩
  by_cases e : j = l
  · rw [e]
    exact hK
  · exact ((h7 j hj).sa hs (fun c z1 z2 z => by have := hc _ z; unfold lb at this z1 z2; omega)).eq (h1' j e) (h2' j e)
theorem c_25n {nt ln sp sb : Nat} {u c hi : Int32} (ea : u = nI nt) (ec : c = nI ln) (hn : nt < 2) (hl : ln < 12) (h : CN σ w f a) (hF : FX σ sp sb x.1 x.2) (hx : 64 ≤ x.1) : hE ra (d + 3) 25 [.ref 0, .int u, .int c, .int hi, .ref sp] σ (pI (fun σ' v => ∃ w', CN σ' w' f (setL a (12 * nt + ln) (enq (12 * nt + ln) hi x (nL a (12 * nt + ln)))) ∧ Sa (fun c => LQ (12 * nt + ln) c ∨ c = 2407) σ w σ' w' ∧ ((v = 1 ∧ rom (12 * nt + ln) hi (nL a (12 * nt + ln))) ∨ (v = 0 ∧ ¬ rom (12 * nt + ln) hi (nL a (12 * nt + ln)))))) := by
  refine hE_mono (c_25x ea ec hn hl h.1 (h.2.2.2.1 _ (by omega)) hi hF hx) (fun r z => ?_)
  obtain ⟨σ', v, er, w', h1, h2, h3, h4⟩ := z
  exact ⟨σ', v, er, w', h.ln h3 (fun c z => z.elim (fun z => Or.inl (by unfold LQ at z; unfold LC; omega)) (fun z => Or.inr (Or.inl z))) (by omega) h2 h1 (h.2.1.sa h3 (by unfold LQ; omega) (by unfold LQ; omega)), h3, h4⟩
def dgb (l : Nat) (x : AG) (k : Nat) : Int32 := if k = 0 then 3 else if k = 1 then 232 + nI l else if k = 2 then 7 else if k = 3 then 208 + nI l else if k = 4 then (8 + nI x.2.1) >>> ((8 : Int32) &&& 31) else if k = 5 then (8 + nI x.2.1) &&& 255 else if k = 6 then 0 else if k = 7 then 0 else (x.2.2.1 + 37 * (nI k - 8) + (nI k - 8) * (nI k - 8) / 8) &&& 255
theorem c_20x {q rm k : Nat} {x : AG} {i : Int32} (h : σ.2[q]? = some (FG rm x)) (ei : i = nI k) (hk : k < 2 ^ 31) : hE ra (d + 1) 20 [.ref q, .int (nI l), .int i] σ (pI (fun σ' y => σ' = σ ∧ y = dgb l x k)) := by
  subst ei
  by_cases h8 : 8 ≤ k
  · have esw : (if (nI k).toInt < 0 ∨ 7 < (nI k).toInt then 92 else [48, 50, 56, 59, 65, 76, 88, 90].getD ((nI k).toInt - 0).toNat 0) = 92 := if_pos (Or.inr (by rw [nI_toInt hk]; omega))
    refine h_in rfl rfl (Nat.le_of_ble_eq_true rfl) ?_
    refine h_st rfl rfl ?_
    refine h_st rfl rfl ?_
    refine h_pc (esw) ?_
    refine h_st rfl rfl ?_
    refine h_st rfl rfl ?_
    refine h_st rfl rfl ?_
    refine h_st rfl rfl ?_
    refine h_st rfl rfl ?_
    refine h_st rfl (e_get h rfl) ?_
    refine h_st rfl rfl ?_
    refine h_st rfl rfl ?_
    refine h_st rfl rfl ?_
    refine h_st rfl rfl ?_
    refine h_st rfl rfl ?_
    refine h_st rfl rfl ?_
    refine h_st rfl rfl ?_
    refine h_st rfl rfl ?_
    refine h_st rfl (e_dv (by decide)) ?_
    refine h_st rfl rfl ?_
    refine h_st rfl rfl ?_
    refine h_st rfl rfl ?_
    exact h_rt rfl rfl (⟨_, _, rfl, rfl, by unfold dgb; rw [if_neg (by omega), if_neg (by omega), if_neg (by omega), if_neg (by omega), if_neg (by omega), if_neg (by omega), if_neg (by omega), if_neg (by omega)]⟩)
  · rcases (show k = 0 ∨ k = 1 ∨ k = 2 ∨ k = 3 ∨ k = 4 ∨ k = 5 ∨ k = 6 ∨ k = 7 by omega) with e | e | e | e | e | e | e | e <;> subst e
    · refine h_in rfl rfl (Nat.le_of_ble_eq_true rfl) ?_
      refine h_st rfl rfl ?_
      refine h_st rfl rfl ?_
      refine h_pc ((by decide : (if (nI 0).toInt < 0 ∨ 7 < (nI 0).toInt then 92 else [48, 50, 56, 59, 65, 76, 88, 90].getD ((nI 0).toInt - 0).toNat 0) = 48)) ?_
      refine h_st rfl rfl ?_
      exact h_rt rfl rfl (⟨_, _, rfl, rfl, rfl⟩)
    · refine h_in rfl rfl (Nat.le_of_ble_eq_true rfl) ?_
      refine h_st rfl rfl ?_
      refine h_st rfl rfl ?_
      refine h_pc ((by decide : (if (nI 1).toInt < 0 ∨ 7 < (nI 1).toInt then 92 else [48, 50, 56, 59, 65, 76, 88, 90].getD ((nI 1).toInt - 0).toNat 0) = 50)) ?_
      refine h_st rfl rfl ?_
      refine h_st rfl rfl ?_
      refine h_st rfl rfl ?_
      exact h_rt rfl rfl (⟨_, _, rfl, rfl, rfl⟩)
    · refine h_in rfl rfl (Nat.le_of_ble_eq_true rfl) ?_
      refine h_st rfl rfl ?_
      refine h_st rfl rfl ?_
      refine h_pc ((by decide : (if (nI 2).toInt < 0 ∨ 7 < (nI 2).toInt then 92 else [48, 50, 56, 59, 65, 76, 88, 90].getD ((nI 2).toInt - 0).toNat 0) = 56)) ?_
      refine h_st rfl rfl ?_
      exact h_rt rfl rfl (⟨_, _, rfl, rfl, rfl⟩)
    · refine h_in rfl rfl (Nat.le_of_ble_eq_true rfl) ?_
      refine h_st rfl rfl ?_
      refine h_st rfl rfl ?_
      refine h_pc ((by decide : (if (nI 3).toInt < 0 ∨ 7 < (nI 3).toInt then 92 else [48, 50, 56, 59, 65, 76, 88, 90].getD ((nI 3).toInt - 0).toNat 0) = 59)) ?_
      refine h_st rfl rfl ?_
      refine h_st rfl rfl ?_
      refine h_st rfl rfl ?_
      exact h_rt rfl rfl (⟨_, _, rfl, rfl, rfl⟩)
    · refine h_in rfl rfl (Nat.le_of_ble_eq_true rfl) ?_
      refine h_st rfl rfl ?_
      refine h_st rfl rfl ?_
      refine h_pc ((by decide : (if (nI 4).toInt < 0 ∨ 7 < (nI 4).toInt then 92 else [48, 50, 56, 59, 65, 76, 88, 90].getD ((nI 4).toInt - 0).toNat 0) = 65)) ?_
      refine h_st rfl rfl ?_
      refine h_st rfl rfl ?_
      refine h_st rfl (e_get h rfl) ?_
      refine h_st rfl rfl ?_
      refine h_st rfl rfl ?_
      refine h_st rfl rfl ?_
      exact h_rt rfl rfl (⟨_, _, rfl, rfl, rfl⟩)
    · refine h_in rfl rfl (Nat.le_of_ble_eq_true rfl) ?_
      refine h_st rfl rfl ?_
      refine h_st rfl rfl ?_
      refine h_pc ((by decide : (if (nI 5).toInt < 0 ∨ 7 < (nI 5).toInt then 92 else [48, 50, 56, 59, 65, 76, 88, 90].getD ((nI 5).toInt - 0).toNat 0) = 76)) ?_
      refine h_st rfl rfl ?_
      refine h_st rfl rfl ?_
      refine h_st rfl (e_get h rfl) ?_
      refine h_st rfl rfl ?_
      refine h_st rfl rfl ?_
      refine h_st rfl rfl ?_
      exact h_rt rfl rfl (⟨_, _, rfl, rfl, rfl⟩)
    · refine h_in rfl rfl (Nat.le_of_ble_eq_true rfl) ?_
      refine h_st rfl rfl ?_
      refine h_st rfl rfl ?_
      refine h_pc ((by decide : (if (nI 6).toInt < 0 ∨ 7 < (nI 6).toInt then 92 else [48, 50, 56, 59, 65, 76, 88, 90].getD ((nI 6).toInt - 0).toNat 0) = 88)) ?_
      refine h_st rfl rfl ?_
      exact h_rt rfl rfl (⟨_, _, rfl, rfl, rfl⟩)
    · refine h_in rfl rfl (Nat.le_of_ble_eq_true rfl) ?_
      refine h_st rfl rfl ?_
      refine h_st rfl rfl ?_
      refine h_pc ((by decide : (if (nI 7).toInt < 0 ∨ 7 < (nI 7).toInt then 92 else [48, 50, 56, 59, 65, 76, 88, 90].getD ((nI 7).toInt - 0).toNat 0) = 90)) ?_
      refine h_st rfl rfl ?_
      exact h_rt rfl rfl (⟨_, _, rfl, rfl, rfl⟩)
end SX13
