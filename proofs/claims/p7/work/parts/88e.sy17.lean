section SY17
variable {ra : ae_R} {d : Nat} {σ : ae_S}
section S17
variable {F F' Fz : Nat → Nat → Int32} {v v' : Nat → Nat} {L : Nat → ALn} {l e i p nt ln f : Nat} {P : AP} {x : AF} {z : Int32} {a : AN} {k : AK}
/-- both sides of the reference: lines, links, ports -/
def RR (F : Nat → Nat → Int32) (v : Nat → Nat) (a : AN) : Prop := ML F v (nL a) ∧ Mlk F (nK a) ∧ Mpt F (nK a) (nP a)
theorem ML.won {o' : Option (AF × Nat)} (h : ML F v L) (hi : i < 24) (ag : ∀ q, 194 ≤ q → q ≤ 202 → q ≠ 199 → q ≠ 200 → F' q = F q) (e9 : ∀ j, j ≠ i → F' 199 j = F 199 j ∧ F' 200 j = F 200 j) (hv : ∀ f, v' f = v f ∨ v f = 1000 + i) (ho : Ron F' v' i o') : ML F' v' (updL L i (won (L i) o')) := by
  have fp : ∀ f, v f ≠ 1000 + i → fpr F v F' v' f := fun f z => ⟨by rw [ag 196 (by decide) (by decide) (by decide) (by decide)], by rw [ag 195 (by decide) (by decide) (by decide) (by decide)], fun k _ => by rw [ag 194 (by decide) (by decide) (by decide) (by decide)], (hv f).resolve_right z⟩
  have hr : ∀ r l, r < 48 → RRow F v r l → RRow F' v' r l := fun r l hr' h => h.ag (by rw [ag 198 (by decide) (by decide) (by decide) (by decide)]) (fun j _ => by rw [ag 197 (by decide) (by decide) (by decide) (by decide)]) (fun f _ _ z => fp f (by omega))
  have hh : ∀ j o, Rhm F j o → Rhm F' j o := fun j o h => h.ag (by rw [ag 201 (by decide) (by decide) (by decide) (by decide)]) (by rw [ag 202 (by decide) (by decide) (by decide) (by decide)])
  refine h.up ?_ (fun j hj hne => ?_)
  · obtain ⟨⟨h1, h2⟩, ⟨h3, h4⟩, h5, h6⟩ := h i hi
    exact ⟨⟨hr _ _ (by omega) h1, h2⟩, ⟨hr _ _ (by omega) h3, h4⟩, ho, hh _ _ h6⟩
  · obtain ⟨⟨h1, h2⟩, ⟨h3, h4⟩, h5, h6⟩ := h j hj
    exact ⟨⟨hr _ _ (by omega) h1, h2⟩, ⟨hr _ _ (by omega) h3, h4⟩, h5.ag (e9 j hne).1 (e9 j hne).2 (fun f _ _ z => fp f (by omega)), hh _ _ h6⟩
theorem fwd_P : ∀ j, nP (fwd a nt ln k x j) = nP a
  | 0 => rfl
  | j + 1 => by
    unfold fwd
    split
    · exact fwd_P j
    · exact fwd_P j
theorem psw_ps (a : AN) (nt ln : Nat) (x : AF) : nP (psw a nt ln x) = nP a ∧ stK (nK (psw a nt ln x)) = stK (nK a) := by
  unfold psw
  split
  · cases hk : kat a (lnk x.2) with
    | none => exact ⟨rfl, rfl⟩
    | some r =>
      obtain ⟨l, k⟩ := r
      have hkk := kat_some hk
      show nP (if bit (kpa k) (nI ln) then (if x.1 ≤ kmo k then (if ln < 4 then (if nI x.1 * kga k ≤ kac k nt then fwd (setK a l (pyk k nt (nI x.1 * kga k))) nt ln (pyk k nt (nI x.1 * kga k)) x 8 else a) else fwd a nt ln k x 8) else a) else a) = nP a ∧ stK (nK (if bit (kpa k) (nI ln) then (if x.1 ≤ kmo k then (if ln < 4 then (if nI x.1 * kga k ≤ kac k nt then fwd (setK a l (pyk k nt (nI x.1 * kga k))) nt ln (pyk k nt (nI x.1 * kga k)) x 8 else a) else fwd a nt ln k x 8) else a) else a)) = stK (nK a)
      split
      · split
        · split
          · split
            · rw [fwd_P, fwd_K]
              exact ⟨rfl, stK_up hkk rfl⟩
            · exact ⟨rfl, rfl⟩
          · rw [fwd_P, fwd_K]
            exact ⟨rfl, rfl⟩
        · exact ⟨rfl, rfl⟩
      · exact ⟨rfl, rfl⟩
  · exact ⟨rfl, rfl⟩
theorem ens_L (a : AN) (nt e : Nat) (x : AF) : nL (ens a nt e x) = nL a := by
  unfold ens
  split
  · split
    · rfl
    · split
      · rfl
      · split <;> rfl
  · rfl
end S17
theorem r_114w {b : Bool} {σ0 : ae_S} {F0 F : Nat → Nat → Int32} {c g : Int32} {a : AN} (h : RS b σ0 F0 σ c (nT a) g F) {aa ee : List Nat} {v : Nat → Nat} (hP : RP F g aa ee) (hRR : RR F v a) (he : ee.length ≤ 90) {l : Nat} {x1 : Int32} (el : x1 = nI l) (hl : l < 24) : hE ra (d + 6) 114 [.ref 176, .int x1] σ (pV (fun σ' => ∃ F' v', RS b σ0 F0 σ' c (nT a) g F' ∧ RP F' g aa ee ∧ RR F' v' (mv a l))) := by
  subst el
  obtain ⟨hML, hQ, hM⟩ := hRR
  have ed : nI l / 12 = nI (l / 12) := pk_div (a := l) (d := 12) (by omega) (by decide) (by decide)
  have er : nI l - nI l / 12 * 12 = nI (l % 12) := pk_rem (a := l) (d := 12) (by omega) (by decide) (by decide)
  have hl12 : l % 12 < 12 := Nat.mod_lt _ (by decide)
  rcases (hML l hl).2.2.1 with ⟨ho1, ho⟩ | ⟨x, t, f, ho1, ho, hX, ht, h8⟩
  · have em : mv a l = a := by unfold mv; rw [ho1]
    rw [em]
    refine h_in rfl rfl (Nat.le_of_ble_eq_true rfl) ?_
    refine h_st rfl rfl ?_
    refine h_st rfl (e_get h.2.1 rfl) ?_
    refine h_st rfl rfl ?_
    refine h_st rfl (q_iaE h.a199 (rfl) (hl) (by decide) (ho)) ?_
    refine h_st rfl rfl ?_
    refine h_st rfl rfl ?_
    refine h_pc (if_neg (by decide)) ?_
    exact h_rv rfl (⟨_, rfl, F, v, h, hP, hML, hQ, hM⟩)
  · have em : mv a l = (if 8 * (t + 1) < x.1 then setL a l (won (nL a l) (some (x, t + 1))) else if ent (l % 12) = -1 then ens (setL a l (won (nL a l) none)) (l / 12) (l % 12 - 4) x else psw (setL a l (won (nL a l) none)) (l / 12) (l % 12) x) := by unfold mv; rw [ho1]
    have hX' := hX
    obtain ⟨hf, hvf, huf, hz, hz1, gf, hgf, hbf, hxf⟩ := hX'
    have e8 : (8 : Int32) * nI (t + 1) = nI (8 * (t + 1)) := by rw [show (8 : Int32) = nI 8 from rfl, pk_mul]
    have eto : ent (l % 12) = toI (nI l - nI l / 12 * 12) := by rw [er]; exact ent_i _ hl12
    have hRRa : 8 * (t + 1) < x.1 → RR (fu F 200 (upd (F 200) l (nI (t + 1)))) v (setL a l (won (nL a l) (some (x, t + 1)))) := fun z => by
      refine ⟨hML.won hl (fun q z1 z2 z3 z4 => fu_n z4) (fun j hj => ⟨rfl, by rw [fu_s, pk_un hj]⟩) (fun f => Or.inl rfl) (Or.inr ⟨x, t + 1, f, rfl, ho, hX.o (fun q z1 z2 => fu_n (by omega)), by rw [fu_s, pk_us], z⟩), hQ.ag (fun q z1 z2 => fu_n (by omega)), hM.ag (fun q hq => fu_n (by omega)) rfl⟩
    refine h_in rfl rfl (Nat.le_of_ble_eq_true rfl) ?_
    refine h_st rfl rfl ?_
    refine h_st rfl (e_get h.2.1 rfl) ?_
    refine h_st rfl rfl ?_
    refine h_st rfl (q_iaE h.a199 (rfl) (hl) (by decide) (ho)) ?_
    refine h_st rfl rfl ?_
    refine h_st rfl rfl ?_
    refine h_pc (if_pos (decide_eq_true (nI_nm1 (by omega)))) ?_
    refine h_st rfl rfl ?_
    refine h_st rfl (e_get h.2.1 rfl) ?_
    refine h_st rfl rfl ?_
    refine h_st rfl rfl ?_
    refine h_st rfl (q_iaE h.a200 (rfl) (hl) (by decide) (ht)) ?_
    refine h_st rfl rfl ?_
    refine h_st rfl rfl ?_
    refine r_ias rfl h m200 (fun _ => by decide) (by decide) (rfl) (hl) (nI_1 t) (fun σ2 h2 => ?_)
    replace h := h2
    clear h2
    replace hP := RP.fo (p := 200) (f := upd (F 200) l (nI (t + 1))) hP (by decide)
    refine h_st rfl rfl ?_
    refine h_st rfl (e_get h.2.1 rfl) ?_
    refine h_st rfl rfl ?_
    refine h_st rfl (q_iaE h.a199 (rfl) (hl) (by decide) (ho)) ?_
    refine h_st rfl rfl ?_
    refine h_st rfl rfl ?_
    refine h_st rfl rfl ?_
    refine h_st rfl (e_get h.2.1 rfl) ?_
    refine h_st rfl rfl ?_
    refine h_st rfl (q_iaE h.a200 (rfl) (hl) (by decide) (pk_us)) ?_
    refine h_st rfl rfl ?_
    refine h_st rfl rfl ?_
    refine h_st rfl (e_get h.2.1 rfl) ?_
    refine h_st rfl rfl ?_
    refine h_st rfl (q_iaE h.a195 (rfl) (hf) (by decide) (hz)) ?_
    refine h_st rfl rfl ?_
    refine h_br (fun q1 => ?_) (fun q1 => ?_)
    · refine h_st rfl rfl ?_
      refine h_st rfl (e_get h.2.1 rfl) ?_
      refine h_st rfl rfl ?_
      refine h_st rfl rfl ?_
      refine r_ias rfl h m199 (fun _ => by decide) (by decide) (rfl) (hl) (rfl) (fun σ2 h2 => ?_)
      replace h := h2
      clear h2
      replace hP := hP.n9 (hP.2.2.2.1.offF hf hl ho)
      have hX2 : RX (fu (fu F 200 (upd (F 200) l (nI (t + 1)))) 199 (upd (F 199) l (-1))) (fun q => if q = f then 2000 else v q) f 2000 x := ⟨hf, if_pos rfl, huf, hz, hz1, gf, hgf, hbf, hxf⟩
      have hML2 : ML (fu (fu F 200 (upd (F 200) l (nI (t + 1)))) 199 (upd (F 199) l (-1))) (fun q => if q = f then 2000 else v q) (nL (setL a l (won (nL a l) none))) := hML.won hl (fun q z1 z2 z3 z4 => (fu_n z3).trans (fu_n z4)) (fun j hj => ⟨by rw [fu_s, pk_un hj], by rw [fu_n (by decide), fu_s, pk_un hj]⟩) (fun f' => by
        by_cases cf : f' = f
        · exact Or.inr (by rw [cf]; exact hvf)
        · exact Or.inl (if_neg cf)) (Or.inl ⟨rfl, by rw [fu_s, pk_us]⟩)
      have hQ2 : Mlk (fu (fu F 200 (upd (F 200) l (nI (t + 1)))) 199 (upd (F 199) l (-1))) (nK a) := hQ.ag (fun q z1 z2 => (fu_n (by omega)).trans (fu_n (by omega)))
      have hM2 : Mpt (fu (fu F 200 (upd (F 200) l (nI (t + 1)))) 199 (upd (F 199) l (-1))) (nK a) (nP a) := hM.ag (fun q hq => (fu_n (by omega)).trans (fu_n (by omega))) rfl
      rw [if_neg (show ¬ 8 * (t + 1) < x.1 from fun z => (nI_ge z (by omega)) (show nI x.1 ≤ nI (8 * (t + 1)) from by rw [← e8]; exact q1))] at em
      refine h_st rfl rfl ?_
      refine h_st rfl rfl ?_
      refine h_st rfl (e_dv (by decide)) ?_
      refine h_ci1 rfl (Nat.le_of_ble_eq_true rfl) rfl rfl (r_115x _) (fun σ' y9 hq => ?_)
      obtain ⟨hss, rfl⟩ := hq
      replace hss := hss.symm
      subst hss
      refine h_st rfl rfl ?_
      refine h_st rfl rfl ?_
      refine h_br (fun q2 => ?_) (fun q2 => ?_)
      · refine h_st rfl rfl ?_
        refine h_st rfl rfl ?_
        refine h_st rfl rfl ?_
        refine h_st rfl rfl ?_
        refine h_st rfl (e_dv (by decide)) ?_
        refine h_st rfl rfl ?_
        refine h_st rfl rfl ?_
        refine h_st rfl (e_dv (by decide)) ?_
        refine h_cv4 rfl (Nat.le_of_ble_eq_true rfl) (e_rcv h.2.1) rfl (r_124w (a := setL a l (won (nL a l) none)) h hP hML2 hQ2 hX2 (by omega) hl12 he rfl ed er) (fun σ5 hq => ?_)
        obtain ⟨F5, v5, h5, hP5, hML5, hQ5, ag5⟩ := hq
        have hRR5 : RR F5 v5 (mv a l) := by
          rw [em, if_neg (fun z => q2 (eto.symm.trans z))]
          obtain ⟨p1, p2⟩ := psw_ps (setL a l (won (nL a l) none)) (l / 12) (l % 12) x
          refine ⟨hML5, hQ5, ?_⟩
          rw [p1]
          exact hM2.ag (fun q hq => ag5 q (by omega)) p2
        exact h_rv rfl (⟨_, rfl, F5, v5, h5, hP5, hRR5⟩)
      · have h48 := ent_e (l % 12) hl12 (eto.trans (Decidable.of_not_not q2))
        have e4 : nI l - nI l / 12 * 12 - 4 = nI (l % 12 - 4) := by rw [er, show (4 : Int32) = nI 4 from rfl, pk_sub h48.1]
        refine h_st rfl rfl ?_
        refine h_st rfl rfl ?_
        refine h_st rfl rfl ?_
        refine h_st rfl rfl ?_
        refine h_st rfl (e_dv (by decide)) ?_
        refine h_st rfl rfl ?_
        refine h_st rfl rfl ?_
        refine h_st rfl (e_dv (by decide)) ?_
        refine h_st rfl rfl ?_
        refine h_st rfl rfl ?_
        refine h_cv4 rfl (Nat.le_of_ble_eq_true rfl) (e_rcv h.2.1) rfl (r_116w (a := setL a l (won (nL a l) none)) h hP hQ2 hM2 hX2 (by omega) (by omega) rfl ed e4) (fun σ5 hq => ?_)
        obtain ⟨F5, h5, hP5, hM5, e65, ag5⟩ := hq
        have hRR5 : RR F5 (fun q => if q = f then 2000 else v q) (mv a l) := by
          rw [em, if_pos (eto.trans (Decidable.of_not_not q2))]
          refine ⟨?_, ?_, ?_⟩
          · rw [ens_L]
            exact hML2.ag (fun q z1 z2 => ag5 q (by omega) (by omega)) (fun f' a1 a2 a3 => ⟨by rw [e65, pk_un (fun z => absurd (Nat.lt_of_le_of_lt (Nat.le_of_eq hX2.2.1.symm) (z ▸ a3)) (by decide))]; rfl, by rw [ag5 195 (by decide) (by decide)]; rfl, fun k _ => by rw [ag5 194 (by decide) (by decide)]; rfl, rfl⟩)
          · rw [ens_K]
            exact hQ2.ag (fun q z1 z2 => ag5 q (by omega) (by omega))
          · rw [ens_K]
            exact hM5
        refine h_st rfl rfl ?_
        exact h_rv rfl (⟨_, rfl, F5, _, h5, hP5, hRR5⟩)
    · exact h_rv rfl (⟨_, rfl, _, v, h, hP, by rw [em, if_pos (Nat.lt_of_not_le (fun z => q1 (show nI x.1 ≤ 8 * nI (t + 1) from by rw [e8]; exact nI_le z (by omega))))]; exact hRRa (Nat.lt_of_not_le (fun z => q1 (show nI x.1 ≤ 8 * nI (t + 1) from by rw [e8]; exact nI_le z (by omega))))⟩)
end SY17
