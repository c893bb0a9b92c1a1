section SY9
variable {ra : ae_R} {d : Nat} {σ : ae_S}
theorem r_102iw {σ0 : ae_S} {F0 Fx Fb : Nat → Nat → Int32} {c u g : Int32} {a e : List Nat} {f l M : Nat} {x : AG} {gc : Nat → Int32} {x5 : Option Value} (hf : f < 400) (hl : l < 8) (hM : M ≤ 89) (h91 : Fx 191 (8 * l) = x.2.2.1) (hx4 : x.2.1 ≤ 400 ∧ x.2.2.2 < 8 + x.2.1) {P : ae_S × ae_O → Prop} (hx : ∀ σ F x7, RS false σ0 F0 σ c u g F → RP F g a e → (∀ q, q < 194 → F q = Fx q) → Wr Fb f (py gc (fun i => dgb l x (x.2.2.2 + i)) M) F → hG ra (d + 4) 102 σ [some (.ref 176), some (.int (nI l)), some (.int (nI x.2.1)), some (.int (nI x.2.2.2)), some (.int (nI M)), x5, some (.int (nI f)), x7] [] 179 P) : ∀ (m k : Nat) (σ : ae_S) (F : Nat → Nat → Int32), k + m = M → RS false σ0 F0 σ c u g F → RP F g a e → (∀ q, q < 194 → F q = Fx q) → Wr Fb f (py gc (fun i => dgb l x (x.2.2.2 + i)) k) F → hG ra (d + 4) 102 σ [some (.ref 176), some (.int (nI l)), some (.int (nI x.2.1)), some (.int (nI x.2.2.2)), some (.int (nI M)), x5, some (.int (nI f)), some (.int (nI k))] [] 137 P := by
  intro m
  induction m with
  | zero =>
    intro k σ F hk h hP hag hW
    have hk : k = M := by omega
    subst hk
    refine h_st rfl rfl ?_
    refine h_st rfl rfl ?_
    refine h_st rfl rfl ?_
    refine h_pc (if_pos (decide_eq_true (nI_le (Nat.le_refl _) (by omega)))) ?_
    exact hx _ _ _ h hP hag hW
  | succ m ih =>
    intro k σ F hk h hP hag hW
    have ih1 := fun σ F => ih (k + 1) σ F (by omega)
    simp only [← nI_1] at ih1
    have e34 : (34 : Int32) + nI k = nI (34 + k) := by rw [show (34 : Int32) = nI 34 from rfl, nI_add]
    have e91 : F 191 (8 * l) = x.2.2.1 := by rw [hag 191 (by decide)]; exact h91
    refine h_st rfl rfl ?_
    refine h_st rfl rfl ?_
    refine h_st rfl rfl ?_
    refine h_pc (if_neg (fun z9 => (nI_ge (show k < M by omega) (by omega)) (of_decide_eq_true z9))) ?_
    refine h_st rfl rfl ?_
    refine h_st rfl rfl ?_
    refine h_st rfl rfl ?_
    refine h_st rfl rfl ?_
    refine h_st rfl rfl ?_
    refine h_st rfl rfl ?_
    refine h_st rfl rfl ?_
    refine h_st rfl rfl ?_
    refine h_st rfl (e_get h.2.1 rfl) ?_
    refine h_st rfl rfl ?_
    refine h_st rfl rfl ?_
    refine h_st rfl rfl ?_
    refine h_st rfl (q_iaE h.a191 (ix8 l) (by omega) (by decide) (e91)) ?_
    refine h_st rfl rfl ?_
    refine h_st rfl rfl ?_
    refine h_st rfl rfl ?_
    refine h_ci4 rfl (Nat.le_of_ble_eq_true rfl) rfl rfl (r_109w (k := x.2.2.2 + k) rfl rfl (nI_add _ _) hl hx4.1 (by omega)) (fun σ' y9 hq => ?_)
    obtain ⟨hss, ey⟩ := hq
    replace hss := hss.symm
    subst hss
    refine h_cv4 rfl (Nat.le_of_ble_eq_true rfl) (e_rcv h.2.1) rfl (pV_and (r_105 h hP.2.2.1 rfl hf e34 (by omega)) (r_105w h hW hf rfl e34 (by omega))) (fun σ2 hq => ?_)
    obtain ⟨⟨F2, h2, hB2, ag2⟩, F3, h3, hW3⟩ := hq
    rw [ub_cg ey] at hW3
    refine h_st rfl rfl ?_
    refine h_st rfl rfl ?_
    exact ih1 _ F3 h3 ((hP.bg hB2 ag2).tr h2 h3) (fun q hq => (hW3.1 q (by omega)).trans ((hW.1 q (by omega)).symm.trans (hag q hq))) hW3
/-- what shape needs of the link while it sends -/
def SHk (F : Nat → Nat → Int32) (l : Nat) (k : AK) (x : AG) : Prop := F 180 l = nI (kso k) ∧ F 187 l = dsq k ∧ F 191 (8 * l) = x.2.2.1 ∧ F 192 (8 * l) = x.1
theorem r_102nw {σ0 : ae_S} {F0 F : Nat → Nat → Int32} {c u g : Int32} {a e : List Nat} {v : Nat → Nat} {L : Nat → ALn} {l nt M : Nat} {k : AK} {x : AG} {x6 x7 : Option Value} (h : RS false σ0 F0 σ c u g F) (hP : RP F g a e) (hML : ML F v L) (he : e.length ≤ 90) (hl : l < 8) (hnt : nt < 2) (hk : SHk F l k x) (hso : kso k < 4) (hM : fln (rmm (kmo k) (kqu k)) x = M) (hM2 : M ≤ 89) (hx4 : x.2.1 ≤ 400 ∧ x.2.2.2 < 8 + x.2.1) (hnu : rg x.1 65536) {P : ae_S × ae_O → Prop} (hX : ∀ σ F' v' x6 x7, RS false σ0 F0 σ c u g F' → RP F' g a e → ML F' v' (updL L (12 * nt + kso k) (enq (12 * nt + kso k) 0 (mkf l k (dsq k) nt x) (L (12 * nt + kso k)))) → (∀ q, q < 194 ∨ (198 < q ∧ q ≠ 213) → F' q = F q) → hG ra (d + 4) 102 σ [some (.ref 176), some (.int (nI l)), some (.int (nI x.2.1)), some (.int (nI x.2.2.2)), some (.int (nI M)), some (.int (nI (nt + 1))), x6, x7] [] 85 P) : hG ra (d + 4) 102 σ [some (.ref 176), some (.int (nI l)), some (.int (nI x.2.1)), some (.int (nI x.2.2.2)), some (.int (nI M)), some (.int (nI nt)), x6, x7] [] 85 P := by
  obtain ⟨k1, k2, k3, k4⟩ := hk
  obtain ⟨q, hq, enu⟩ := hnu
  have hfree := hP.2.2.2.1.some (by omega)
  have hfl2 := fsz_le (show M ≤ 161 by omega)
  have hfg := fsz_ge M
  have e12 : (12 : Int32) * nI nt + nI (kso k) = nI (12 * nt + kso k) := by rw [show (12 : Int32) = nI 12 from rfl, pk_mul, nI_add]
  have emo : ∀ (y : Int32), (¬ nI x.2.1 + 8 ≤ nI x.2.2.2 + nI M → y = 1) → (nI x.2.1 + 8 ≤ nI x.2.2.2 + nI M → y = 0) → y = fmo (rmm (kmo k) (kqu k)) x := fun y z1 z2 => by
    unfold fmo
    rw [hM]
    have e1 : nI x.2.1 + 8 = nI (x.2.1 + 8) := nI_add x.2.1 8
    have e2 : nI x.2.2.2 + nI M = nI (x.2.2.2 + M) := nI_add _ _
    rw [e1, e2] at z1 z2
    by_cases cc : x.2.2.2 + M < 8 + x.2.1
    · rw [if_pos cc]
      exact z1 (nI_ge (by omega) (by omega))
    · rw [if_neg cc]
      exact z2 (nI_le (by omega) (by omega))
  refine h_st rfl rfl ?_
  refine h_st rfl rfl ?_
  refine h_st rfl rfl ?_
  refine h_pc (if_neg (fun z9 => (nI_ge (show nt < 2 by omega) (by decide)) (of_decide_eq_true z9))) ?_
  refine h_st rfl rfl ?_
  refine h_st rfl rfl ?_
  refine h_st rfl rfl ?_
  refine h_st rfl (e_get h.2.1 rfl) ?_
  refine h_st rfl rfl ?_
  refine h_st rfl (q_iaE h.a180 (rfl) (hl) (by decide) (k1)) ?_
  refine h_st rfl rfl ?_
  refine h_st rfl rfl ?_
  refine h_st rfl rfl ?_
  refine h_st rfl (e_get h.2.1 rfl) ?_
  refine h_st rfl rfl ?_
  refine h_st rfl rfl ?_
  refine h_st rfl rfl ?_
  refine h_st rfl (q_iaE h.a192 (ix8 l) (by omega) (by decide) (k4.trans enu)) ?_
  refine h_st rfl rfl ?_
  refine h_st rfl rfl ?_
  refine h_st rfl rfl ?_
  refine h_st rfl rfl ?_
  refine h_st rfl rfl ?_
  refine h_st rfl rfl ?_
  refine h_st rfl rfl ?_
  refine h_st rfl rfl ?_
  refine h_br (fun q1 => ?_) (fun q1 => ?_)
  · refine h_st rfl rfl ?_
    refine h_ci8 rfl (Nat.le_of_ble_eq_true rfl) (e_rcv h.2.1) rfl (pI_and (r_103 h hP (by omega) (fsz_i (show M ≤ 161 by omega)) ⟨hfg.1, hfl2⟩) (r_103w h hfree (fsz_i (show M ≤ 161 by omega)))) (fun σ1 v1 hq => ?_)
    obtain ⟨⟨f, F1, ev1, hf, h1, hP1, ag1⟩, f', F2, ev2, hf', huf, h2, hW⟩ := hq
    have eff : f' = f := nI_inj (by omega) (by omega) (ev2.symm.trans ev1)
    subst eff
    subst ev1
    replace hP1 := hP1.tr h1 h2
    replace hW : Wr (fu (fu F 196 (upd (F 196) f' 1)) 195 (upd (F 195) f' (nI (fsz M)))) f' (frc (nI nt) (nI (kso k)) (nI l) (nI M) (nI q) (nI x.2.2.2) (fmo (rmm (kmo k) (kqu k)) x)) F2 := by rw [← show (0 : Int32) = fmo (rmm (kmo k) (kqu k)) x from emo 0 (fun z => absurd q1 z) (fun z => rfl)]; exact hW
    have ag2 : ∀ q, q < 194 → F2 q = F q := fun q hq => (hW.1 q (by omega)).trans ((fu_n (by omega)).trans (fu_n (by omega)))
    refine h_st rfl rfl ?_
    refine h_st rfl rfl ?_
    refine h_st rfl rfl ?_
    refine r_102iw (Fx := F) (M := M) (gc := frc (nI nt) (nI (kso k)) (nI l) (nI M) (nI q) (nI x.2.2.2) (fmo (rmm (kmo k) (kqu k)) x)) hf hl hM2 k3 hx4 (fun σ3 F3 x7 h3 hP3 ag3 hW3 => ?_) M 0 _ F2 (Nat.zero_add _) h2 hP1 ag2 hW
    have e95 : (fu (fu F 196 (upd (F 196) f' 1)) 195 (upd (F 195) f' (nI (fsz M)))) 195 f' = nI (fsz M) := by rw [fu_s, pk_us]
    have hby : byt (ub (py (frc (nI nt) (nI (kso k)) (nI l) (nI M) (nI q) (nI x.2.2.2) (fmo (rmm (kmo k) (kqu k)) x)) (fun i => dgb l x (x.2.2.2 + i)) M) (fsz M - 5) (dsq k)) 200 := byt_ub (byt_py (byt_ub (byt_ub byt_hdr)) M)
    have esel : cks (fsz M) (chk (fsz M) (ub (py (frc (nI nt) (nI (kso k)) (nI l) (nI M) (nI q) (nI x.2.2.2) (fmo (rmm (kmo k) (kqu k)) x)) (fun i => dgb l x (x.2.2.2 + i)) M) (fsz M - 5) (dsq k))) (ub (py (frc (nI nt) (nI (kso k)) (nI l) (nI M) (nI q) (nI x.2.2.2) (fmo (rmm (kmo k) (kqu k)) x)) (fun i => dgb l x (x.2.2.2 + i)) M) (fsz M - 5) (dsq k)) 4 = (mkf l k (dsq k) nt x).2 := by
      unfold mkf hed sel
      rw [hM, enu, sel_eq (show M ≤ 161 by omega) hq (Nat.le_refl _)]
    have e1 : (mkf l k (dsq k) nt x).1 = fsz M := by unfold mkf; rw [hM]
    have e87 : F3 187 l = dsq k := by rw [ag3 187 (by decide)]; exact k2
    refine h_st rfl rfl ?_
    refine h_st rfl rfl ?_
    refine h_st rfl rfl ?_
    refine h_st rfl (e_get h3.2.1 rfl) ?_
    refine h_st rfl rfl ?_
    refine h_st rfl (q_iaE h3.a187 (rfl) (hl) (by decide) (e87)) ?_
    refine h_cv3 rfl (Nat.le_of_ble_eq_true rfl) (e_rcv h3.2.1) rfl (pV_and (r_110 h3 hP3 rfl hf List.mem_cons_self (dsq k)) (r_110w h3 hW3 hf rfl e95 ⟨hfg.1, hfl2⟩ (dsq k) hby)) (fun σ4 hq => ?_)
    obtain ⟨⟨F4, h4, hP4, ag4⟩, F5, h5, hW5⟩ := hq
    replace hP4 := hP4.tr h4 h5
    rw [esel] at hW5
    obtain ⟨hML5, hX5⟩ := hML.mk hf huf hW5 ⟨hfg.1, hfl2⟩ (by rw [← esel]; exact byt_cks hby 4) (fun j _ => rfl)
    have ag5 : ∀ q, q < 194 → F5 q = F q := fun q hq => (hW5.1 q (by omega)).trans ((fu_n (by omega)).trans (fu_n (by omega)))
    have e80 : F5 180 l = nI (kso k) := by rw [ag5 180 (by decide)]; exact k1
    rw [show ((fsz M, (mkf l k (dsq k) nt x).2) : AF) = mkf l k (dsq k) nt x from Prod.ext e1.symm rfl] at hX5
    refine h_st rfl rfl ?_
    refine h_st rfl rfl ?_
    refine h_st rfl rfl ?_
    refine h_st rfl rfl ?_
    refine h_st rfl rfl ?_
    refine h_st rfl (e_get h5.2.1 rfl) ?_
    refine h_st rfl rfl ?_
    refine h_st rfl (q_iaE h5.a180 (rfl) (hl) (by decide) (e80)) ?_
    refine h_st rfl rfl ?_
    refine h_st rfl rfl ?_
    refine h_st rfl rfl ?_
    refine h_cv4 rfl (Nat.le_of_ble_eq_true rfl) (e_rcv h5.2.1) rfl (r_112m h5 hML5 hX5 (Nat.le_refl _) rfl hP4 e12 (by omega) 0) (fun σ6 hq => ?_)
    obtain ⟨F6, v6, h6, hP6, hML6, ag6, -⟩ := hq
    refine h_st rfl rfl ?_
    refine h_st rfl rfl ?_
    rw [show nI nt + 1 = nI (nt + 1) from nI_1 nt]
    exact hX _ F6 v6 _ _ h6 hP6 hML6 (fun q hq => (ag6 q (by omega)).trans ((hW5.1 q (by omega)).trans ((fu_n (by omega)).trans (fu_n (by omega)))))
  · refine h_st rfl rfl ?_
    refine h_st rfl rfl ?_
    refine h_ci8 rfl (Nat.le_of_ble_eq_true rfl) (e_rcv h.2.1) rfl (pI_and (r_103 h hP (by omega) (fsz_i (show M ≤ 161 by omega)) ⟨hfg.1, hfl2⟩) (r_103w h hfree (fsz_i (show M ≤ 161 by omega)))) (fun σ1 v1 hq => ?_)
    obtain ⟨⟨f, F1, ev1, hf, h1, hP1, ag1⟩, f', F2, ev2, hf', huf, h2, hW⟩ := hq
    have eff : f' = f := nI_inj (by omega) (by omega) (ev2.symm.trans ev1)
    subst eff
    subst ev1
    replace hP1 := hP1.tr h1 h2
    replace hW : Wr (fu (fu F 196 (upd (F 196) f' 1)) 195 (upd (F 195) f' (nI (fsz M)))) f' (frc (nI nt) (nI (kso k)) (nI l) (nI M) (nI q) (nI x.2.2.2) (fmo (rmm (kmo k) (kqu k)) x)) F2 := by rw [← show (1 : Int32) = fmo (rmm (kmo k) (kqu k)) x from emo 1 (fun z => rfl) (fun z => absurd z q1)]; exact hW
    have ag2 : ∀ q, q < 194 → F2 q = F q := fun q hq => (hW.1 q (by omega)).trans ((fu_n (by omega)).trans (fu_n (by omega)))
    refine h_st rfl rfl ?_
    refine h_st rfl rfl ?_
    refine h_st rfl rfl ?_
    refine r_102iw (Fx := F) (M := M) (gc := frc (nI nt) (nI (kso k)) (nI l) (nI M) (nI q) (nI x.2.2.2) (fmo (rmm (kmo k) (kqu k)) x)) hf hl hM2 k3 hx4 (fun σ3 F3 x7 h3 hP3 ag3 hW3 => ?_) M 0 _ F2 (Nat.zero_add _) h2 hP1 ag2 hW
    have e95 : (fu (fu F 196 (upd (F 196) f' 1)) 195 (upd (F 195) f' (nI (fsz M)))) 195 f' = nI (fsz M) := by rw [fu_s, pk_us]
    have hby : byt (ub (py (frc (nI nt) (nI (kso k)) (nI l) (nI M) (nI q) (nI x.2.2.2) (fmo (rmm (kmo k) (kqu k)) x)) (fun i => dgb l x (x.2.2.2 + i)) M) (fsz M - 5) (dsq k)) 200 := byt_ub (byt_py (byt_ub (byt_ub byt_hdr)) M)
    have esel : cks (fsz M) (chk (fsz M) (ub (py (frc (nI nt) (nI (kso k)) (nI l) (nI M) (nI q) (nI x.2.2.2) (fmo (rmm (kmo k) (kqu k)) x)) (fun i => dgb l x (x.2.2.2 + i)) M) (fsz M - 5) (dsq k))) (ub (py (frc (nI nt) (nI (kso k)) (nI l) (nI M) (nI q) (nI x.2.2.2) (fmo (rmm (kmo k) (kqu k)) x)) (fun i => dgb l x (x.2.2.2 + i)) M) (fsz M - 5) (dsq k)) 4 = (mkf l k (dsq k) nt x).2 := by
      unfold mkf hed sel
      rw [hM, enu, sel_eq (show M ≤ 161 by omega) hq (Nat.le_refl _)]
    have e1 : (mkf l k (dsq k) nt x).1 = fsz M := by unfold mkf; rw [hM]
    have e87 : F3 187 l = dsq k := by rw [ag3 187 (by decide)]; exact k2
    refine h_st rfl rfl ?_
    refine h_st rfl rfl ?_
    refine h_st rfl rfl ?_
    refine h_st rfl (e_get h3.2.1 rfl) ?_
    refine h_st rfl rfl ?_
    refine h_st rfl (q_iaE h3.a187 (rfl) (hl) (by decide) (e87)) ?_
    refine h_cv3 rfl (Nat.le_of_ble_eq_true rfl) (e_rcv h3.2.1) rfl (pV_and (r_110 h3 hP3 rfl hf List.mem_cons_self (dsq k)) (r_110w h3 hW3 hf rfl e95 ⟨hfg.1, hfl2⟩ (dsq k) hby)) (fun σ4 hq => ?_)
    obtain ⟨⟨F4, h4, hP4, ag4⟩, F5, h5, hW5⟩ := hq
    replace hP4 := hP4.tr h4 h5
    rw [esel] at hW5
    obtain ⟨hML5, hX5⟩ := hML.mk hf huf hW5 ⟨hfg.1, hfl2⟩ (by rw [← esel]; exact byt_cks hby 4) (fun j _ => rfl)
    have ag5 : ∀ q, q < 194 → F5 q = F q := fun q hq => (hW5.1 q (by omega)).trans ((fu_n (by omega)).trans (fu_n (by omega)))
    have e80 : F5 180 l = nI (kso k) := by rw [ag5 180 (by decide)]; exact k1
    rw [show ((fsz M, (mkf l k (dsq k) nt x).2) : AF) = mkf l k (dsq k) nt x from Prod.ext e1.symm rfl] at hX5
    refine h_st rfl rfl ?_
    refine h_st rfl rfl ?_
    refine h_st rfl rfl ?_
    refine h_st rfl rfl ?_
    refine h_st rfl rfl ?_
    refine h_st rfl (e_get h5.2.1 rfl) ?_
    refine h_st rfl rfl ?_
    refine h_st rfl (q_iaE h5.a180 (rfl) (hl) (by decide) (e80)) ?_
    refine h_st rfl rfl ?_
    refine h_st rfl rfl ?_
    refine h_st rfl rfl ?_
    refine h_cv4 rfl (Nat.le_of_ble_eq_true rfl) (e_rcv h5.2.1) rfl (r_112m h5 hML5 hX5 (Nat.le_refl _) rfl hP4 e12 (by omega) 0) (fun σ6 hq => ?_)
    obtain ⟨F6, v6, h6, hP6, hML6, ag6, -⟩ := hq
    refine h_st rfl rfl ?_
    refine h_st rfl rfl ?_
    rw [show nI nt + 1 = nI (nt + 1) from nI_1 nt]
    exact hX _ F6 v6 _ _ h6 hP6 hML6 (fun q hq => (ag6 q (by omega)).trans ((hW5.1 q (by omega)).trans ((fu_n (by omega)).trans (fu_n (by omega)))))
def shf (f : Nat → Int32) (a k : Nat) : Nat → Int32 := fun i => if a ≤ i ∧ i < k then f (i + 1) else f i
theorem shf_0 (f : Nat → Int32) (a : Nat) : shf f a a = f := by
  funext i
  unfold shf
  rw [if_neg (by omega)]
theorem shf_s {f : Nat → Int32} {a k : Nat} (h : a ≤ k) : upd (shf f a k) k (shf f a k (k + 1)) = shf f a (k + 1) := by
  funext i
  have e : shf f a k (k + 1) = f (k + 1) := by
    unfold shf
    rw [if_neg (by omega)]
  rw [e]
  by_cases c : i = k
  · rw [c, pk_us]
    unfold shf
    rw [if_pos (by omega)]
  · rw [pk_un c]
    unfold shf
    by_cases c2 : a ≤ i ∧ i < k
    · rw [if_pos c2, if_pos (by omega)]
    · rw [if_neg c2, if_neg (by omega)]
def SHF (Fx : Nat → Nat → Int32) (a k : Nat) (F : Nat → Nat → Int32) : Prop := (∀ q, q ≠ 190 → q ≠ 191 → q ≠ 192 → q ≠ 193 → F q = Fx q) ∧ F 190 = shf (Fx 190) a k ∧ F 191 = shf (Fx 191) a k ∧ F 192 = shf (Fx 192) a k ∧ F 193 = shf (Fx 193) a k
theorem r_102sw {σ0 : ae_S} {F0 Fx : Nat → Nat → Int32} {c u g : Int32} {a e : List Nat} {l wn : Nat} {x2 x3 x4 x6 x7 : Option Value} (hl : l < 8) (hw : wn ≤ 7) {P : ae_S × ae_O → Prop} (hx : ∀ σ F, RS false σ0 F0 σ c u g F → RP F g a e → SHF Fx (8 * l) (8 * l + wn) F → P (σ, .inl none)) (h9 : Fx 189 l = nI wn) : ∀ (m k : Nat) (σ : ae_S) (F : Nat → Nat → Int32), k + m = 8 * l + wn → 8 * l ≤ k → RS false σ0 F0 σ c u g F → RP F g a e → SHF Fx (8 * l) k F → hG ra (d + 4) 102 σ [some (.ref 176), some (.int (nI l)), x2, x3, x4, some (.int (nI k)), x6, x7] [] 267 P := by
  have ea : (8 : Int32) * nI l + nI wn = nI (8 * l + wn) := by rw [ix8, nI_add]
  intro m
  induction m with
  | zero =>
    intro k σ F hk hk8 h hP hS
    have hk : k = 8 * l + wn := by omega
    subst hk
    have e9 : F 189 l = nI wn := by rw [hS.1 189 (by decide) (by decide) (by decide) (by decide)]; exact h9
    refine h_st rfl rfl ?_
    refine h_st rfl rfl ?_
    refine h_st rfl rfl ?_
    refine h_st rfl rfl ?_
    refine h_st rfl rfl ?_
    refine h_st rfl (e_get h.2.1 rfl) ?_
    refine h_st rfl rfl ?_
    refine h_st rfl (q_iaE h.a189 (rfl) (hl) (by decide) (e9)) ?_
    refine h_st rfl rfl ?_
    refine h_st rfl rfl ?_
    refine h_pc (if_pos (decide_eq_true (show (8 : Int32) * nI l + nI wn ≤ nI (8 * l + wn) from by rw [ea]; exact nI_le (Nat.le_refl _) (by omega)))) ?_
    exact h_rv rfl (hx _ _ h hP hS)
  | succ m ih =>
    intro k σ F hk hk8 h hP hS
    have ih1 := fun σ F => ih (k + 1) σ F (by omega) (by omega)
    simp only [← nI_1] at ih1
    have e9 : F 189 l = nI wn := by rw [hS.1 189 (by decide) (by decide) (by decide) (by decide)]; exact h9
    obtain ⟨s1, s2, s3, s4, s5⟩ := hS
    refine h_st rfl rfl ?_
    refine h_st rfl rfl ?_
    refine h_st rfl rfl ?_
    refine h_st rfl rfl ?_
    refine h_st rfl rfl ?_
    refine h_st rfl (e_get h.2.1 rfl) ?_
    refine h_st rfl rfl ?_
    refine h_st rfl (q_iaE h.a189 (rfl) (hl) (by decide) (e9)) ?_
    refine h_st rfl rfl ?_
    refine h_st rfl rfl ?_
    refine h_pc (if_neg (fun z9 => (show ¬ (8 : Int32) * nI l + nI wn ≤ nI k from by rw [ea]; exact nI_ge (show k < 8 * l + wn by omega) (by omega)) (of_decide_eq_true z9))) ?_
    refine h_st rfl rfl ?_
    refine h_st rfl (e_get h.2.1 rfl) ?_
    refine h_st rfl rfl ?_
    refine h_st rfl rfl ?_
    refine h_st rfl (e_get h.2.1 rfl) ?_
    refine h_st rfl rfl ?_
    refine h_st rfl rfl ?_
    refine h_st rfl rfl ?_
    refine h_st rfl (q_ia h.a190 (nI_1 k) (by omega) (by decide)) ?_
    refine r_ias rfl h m190 (fun z => by cases z) (by decide) (rfl) (by omega) (rfl) (fun σ2 h2 => ?_)
    replace h := h2
    clear h2
    refine h_st rfl rfl ?_
    refine h_st rfl (e_get h.2.1 rfl) ?_
    refine h_st rfl rfl ?_
    refine h_st rfl rfl ?_
    refine h_st rfl (e_get h.2.1 rfl) ?_
    refine h_st rfl rfl ?_
    refine h_st rfl rfl ?_
    refine h_st rfl rfl ?_
    refine h_st rfl (q_ia h.a191 (nI_1 k) (by omega) (by decide)) ?_
    refine r_ias rfl h m191 (fun z => by cases z) (by decide) (rfl) (by omega) (rfl) (fun σ2 h2 => ?_)
    replace h := h2
    clear h2
    refine h_st rfl rfl ?_
    refine h_st rfl (e_get h.2.1 rfl) ?_
    refine h_st rfl rfl ?_
    refine h_st rfl rfl ?_
    refine h_st rfl (e_get h.2.1 rfl) ?_
    refine h_st rfl rfl ?_
    refine h_st rfl rfl ?_
    refine h_st rfl rfl ?_
    refine h_st rfl (q_ia h.a192 (nI_1 k) (by omega) (by decide)) ?_
    refine r_ias rfl h m192 (fun z => by cases z) (by decide) (rfl) (by omega) (rfl) (fun σ2 h2 => ?_)
    replace h := h2
    clear h2
    refine h_st rfl rfl ?_
    refine h_st rfl (e_get h.2.1 rfl) ?_
    refine h_st rfl rfl ?_
    refine h_st rfl rfl ?_
    refine h_st rfl (e_get h.2.1 rfl) ?_
    refine h_st rfl rfl ?_
    refine h_st rfl rfl ?_
    refine h_st rfl rfl ?_
    refine h_st rfl (q_ia h.a193 (nI_1 k) (by omega) (by decide)) ?_
    refine r_ias rfl h m193 (fun z => by cases z) (by decide) (rfl) (by omega) (rfl) (fun σ2 h2 => ?_)
    replace h := h2
    clear h2
    refine h_st rfl rfl ?_
    refine h_st rfl rfl ?_
    refine ih1 _ _ h ((((hP.fo (by decide)).fo (by decide)).fo (by decide)).fo (by decide)) ⟨fun q z1 z2 z3 z4 => ?_, ?_, ?_, ?_, ?_⟩
    · rw [fu_n z4, fu_n z3, fu_n z2, fu_n z1]
      exact s1 q z1 z2 z3 z4
    · rw [fu_n (by decide), fu_n (by decide), fu_n (by decide), fu_s, s2]
      exact shf_s hk8
    · rw [fu_n (by decide), fu_n (by decide), fu_s, fu_n (by decide), s3]
      exact shf_s hk8
    · rw [fu_n (by decide), fu_s, fu_n (by decide), fu_n (by decide), s4]
      exact shf_s hk8
    · rw [fu_s, fu_n (by decide), fu_n (by decide), fu_n (by decide), s5]
      exact shf_s hk8
end SY9
