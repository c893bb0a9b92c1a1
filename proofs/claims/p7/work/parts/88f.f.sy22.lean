section SY22
variable {ra : ae_R} {d : Nat} {σ : ae_S}
theorem r_130my {b : Bool} {σ0 : ae_S} {F0 Fx : Nat → Nat → Int32} {u g : Int32} {k m : Nat} {x1 x2 : Int32} (hk : k < 32) (hm : m ≤ 3) : ∀ (m' i : Nat) (σ : ae_S) (F : Nat → Nat → Int32) (x5 : Option Value), i + m' = m → RS b σ0 F0 σ 0 u g F → RP F g [] [] → F 209 k = nI m → (∀ q, q ≠ 210 → q ≠ 211 → F q = Fx q) → F 210 = shf (Fx 210) (4 * k) (4 * k + i) → hG ra (d + 2) 130 σ [some (.ref 176), some (.int x1), some (.int x2), some (.int (nI k)), some (.int (nI i)), x5] [] 127 (pI (fun σ' y => y = g ∧ ∃ F', RS b σ0 F0 σ' 0 u g F' ∧ RP F' g [] [] ∧ (∀ q, q ≠ 210 → q ≠ 211 → F' q = Fx q) ∧ F' 210 = shf (Fx 210) (4 * k) (4 * k + m))) := by
  intro m'
  induction m' with
  | zero =>
    intro i σ F x5 hi h hP h9 hag h10
    have hi : i = m := by omega
    subst hi
    refine h_st rfl rfl ?_
    refine h_st rfl rfl ?_
    refine h_st rfl (e_get h.2.1 rfl) ?_
    refine h_st rfl rfl ?_
    refine h_st rfl (q_iaE h.a209 (rfl) (hk) (by decide) (h9)) ?_
    refine h_st rfl rfl ?_
    refine h_pc (if_pos (decide_eq_true (nI_le (Nat.le_refl _) (by omega)))) ?_
    refine h_st rfl rfl ?_
    refine h_st rfl (e_get h.2.1 rfl) ?_
    exact h_rt rfl rfl (⟨_, _, rfl, rfl, F, h, hP, hag, h10⟩)
  | succ m' ih =>
    intro i σ F x5 hi h hP h9 hag h10
    have ih1 := fun σ F x5 => ih (i + 1) σ F x5 (by omega)
    simp only [← nI_1] at ih1
    have e1 : (4 : Int32) * nI k + nI i = nI (4 * k + i) := by rw [show (4 : Int32) = nI 4 from rfl, pk_mul, nI_add]
    have e2 : (4 : Int32) * nI k + nI i + 1 = nI (4 * k + i + 1) := by rw [e1, nI_1]
    have es : upd (F 210) (4 * k + i) (F 210 (4 * k + i + 1)) = shf (Fx 210) (4 * k) (4 * k + (i + 1)) := by
      rw [h10]
      exact shf_s (by omega)
    refine h_st rfl rfl ?_
    refine h_st rfl rfl ?_
    refine h_st rfl (e_get h.2.1 rfl) ?_
    refine h_st rfl rfl ?_
    refine h_st rfl (q_iaE h.a209 (rfl) (hk) (by decide) (h9)) ?_
    refine h_st rfl rfl ?_
    refine h_pc (if_neg (fun z9 => (nI_ge (show i < m by omega) (by omega)) (of_decide_eq_true z9))) ?_
    refine h_st rfl rfl ?_
    refine h_st rfl (e_get h.2.1 rfl) ?_
    refine h_st rfl rfl ?_
    refine h_st rfl rfl ?_
    refine h_st rfl rfl ?_
    refine h_st rfl rfl ?_
    refine h_st rfl rfl ?_
    refine h_st rfl rfl ?_
    refine h_st rfl (e_get h.2.1 rfl) ?_
    refine h_st rfl rfl ?_
    refine h_st rfl rfl ?_
    refine h_st rfl rfl ?_
    refine h_st rfl rfl ?_
    refine h_st rfl rfl ?_
    refine h_st rfl rfl ?_
    refine h_st rfl rfl ?_
    refine h_st rfl (q_ia h.a210 (e2) (by omega) (by decide)) ?_
    refine r_ias rfl h m210 (fun _ => by decide) (by decide) (e1) (by omega) (rfl) (fun σ2 h2 => ?_)
    replace h := h2
    clear h2
    replace hP := hP.u10 (k := 4 * k + i) (hP.2.2.2.2.2.1.2.2.2 (4 * k + i + 1) (by omega))
    rw [← fu_self (fu F 210 (upd (F 210) (4 * k + i) (F 210 (4 * k + i + 1)))) 211] at h
    refine h_st rfl rfl ?_
    refine h_st rfl rfl ?_
    refine r_130i (m := m) hk hm (by omega) (fun σ9 fb h => ?_) 1000 0 _ _ rfl h
    refine h_st rfl rfl ?_
    refine h_st rfl rfl ?_
    exact ih1 _ _ _ h (hP.fo (by decide)) h9 (fun q z1 z2 => (fu_n z2).trans ((fu_n z1).trans (hag q z1 z2))) es
theorem r_130gy {b : Bool} {σ0 : ae_S} {F0 F : Nat → Nat → Int32} {u : Int32} {k l gs : Nat} {x1 x2 : Int32} (hk : k < 32) (el : x2 = nI l) (hl : l < 8) (hgs : gs ≤ 992) (hP : RP F (nI gs) [] []) (hm0 : F 209 k ≠ 0) : ∀ (m' i : Nat) (σ : ae_S) (fb : Nat → Int32) (x5 : Option Value), i + m' = gs → RS b σ0 F0 σ 0 u (nI gs) (fu F 214 fb) → hG ra (d + 2) 130 σ [some (.ref 176), some (.int x1), some (.int x2), some (.int (nI k)), some (.int (nI i)), x5] [] 65 (pI (fun σ' y => y = nI gs ∧ ∃ F', RS b σ0 F0 σ' 0 u (nI gs) F' ∧ RP F' (nI gs) [] [] ∧ ((F 179 l = 0 ∧ ∀ q, q ≠ 214 → F' q = F q) ∨ (F 179 l ≠ 0 ∧ ∃ m9, F 209 k = nI m9 + 1 ∧ m9 ≤ 3 ∧ F' 209 = upd (F 209) k (nI m9) ∧ F' 210 = shf (F 210) (4 * k) (4 * k + m9) ∧ ∀ q, q ≠ 209 → q ≠ 210 → q ≠ 211 → q ≠ 214 → F' q = F q)))) := by
  intro m'
  induction m' with
  | zero =>
    intro i σ fb x5 hi h
    have hi : i = gs := by omega
    subst hi
    obtain ⟨mq, hmq, emq⟩ := hP.2.2.2.2.2.1.2.2.1 k hk
    obtain ⟨m9, rfl⟩ : ∃ m9, mq = m9 + 1 := ⟨mq - 1, by cases mq with | zero => exact absurd emq hm0 | succ m => rfl⟩
    have hP2 := RP.fo (p := 214) (f := fb) hP (by decide)
    refine h_st rfl rfl ?_
    refine h_st rfl rfl ?_
    refine h_st rfl (e_get h.2.1 rfl) ?_
    refine h_st rfl rfl ?_
    refine h_pc (if_pos (decide_eq_true (nI_le (Nat.le_refl _) (by omega)))) ?_
    refine h_st rfl rfl ?_
    refine h_st rfl (e_get h.2.1 rfl) ?_
    refine h_st rfl rfl ?_
    refine h_st rfl (q_ba h.a179 (el) (hl) (by decide)) ?_
    refine h_st rfl rfl ?_
    refine h_br (fun q1 => ?_) (fun q1 => ?_)
    · refine h_st rfl rfl ?_
      refine h_st rfl (e_get h.2.1 rfl) ?_
      refine h_st rfl rfl ?_
      refine h_st rfl rfl ?_
      refine h_st rfl (q_ia h.a209 (rfl) (hk) (by decide)) ?_
      refine h_st rfl rfl ?_
      refine h_st rfl rfl ?_
      refine r_ias rfl h m209 (fun _ => by decide) (by decide) (rfl) (hk) (show F 209 k - 1 = nI m9 from by rw [emq]; exact nI_pred m9) (fun σ2 h2 => ?_)
      replace h := h2
      clear h2
      replace hP2 := hP2.u9 (k := k) (x := nI m9) ⟨m9, by omega, rfl⟩
      refine h_st rfl rfl ?_
      refine h_st rfl rfl ?_
      obtain ⟨r, g1, σ9, v9, rfl, rfl, F9, h9, hP9, ag9, e9⟩ := r_130my (ra := ra) (d := d) (x1 := x1) (x2 := x2) (Fx := fu (fu F 214 fb) 209 (upd (F 209) k (nI m9))) hk (show m9 ≤ 3 by omega) m9 0 _ _ x5 (Nat.zero_add _) h hP2 pk_us (fun _ _ _ => rfl) (shf_0 _ _).symm
      exact ⟨_, g1, σ9, _, rfl, rfl, F9, h9, hP9, Or.inr ⟨q1, m9, emq.trans (nI_1 m9).symm, by omega, ag9 209 (by decide) (by decide), e9, fun q z1 z2 z3 z4 => (ag9 q z2 z3).trans ((fu_n z1).trans (fu_n z4))⟩⟩
    · refine h_st rfl rfl ?_
      refine h_st rfl (e_get h.2.1 rfl) ?_
      exact h_rt rfl rfl (⟨_, _, rfl, rfl, _, h, hP2, Or.inl ⟨Decidable.of_not_not q1, fun q hq => fu_n hq⟩⟩)
  | succ m' ih =>
    intro i σ fb x5 hi h
    have ih1 := fun σ fb x5 => ih (i + 1) σ fb x5 (by omega)
    simp only [← nI_1] at ih1
    have e1 : (4000 : Int32) * nI k + nI i = nI (4000 * k + i) := by rw [show (4000 : Int32) = nI 4000 from rfl, pk_mul, nI_add]
    refine h_st rfl rfl ?_
    refine h_st rfl rfl ?_
    refine h_st rfl (e_get h.2.1 rfl) ?_
    refine h_st rfl rfl ?_
    refine h_pc (if_neg (fun z9 => (nI_ge (show i < gs by omega) (by omega)) (of_decide_eq_true z9))) ?_
    refine h_st rfl rfl ?_
    refine h_st rfl (e_get h.2.1 rfl) ?_
    refine h_st rfl rfl ?_
    refine h_st rfl rfl ?_
    refine h_st rfl (e_get h.2.1 rfl) ?_
    refine h_st rfl rfl ?_
    refine h_st rfl rfl ?_
    refine h_st rfl rfl ?_
    refine h_st rfl rfl ?_
    refine h_st rfl rfl ?_
    refine h_st rfl (q_ia h.a211 (e1) (by omega) (by decide)) ?_
    refine r_ias rfl h m214 (fun _ => by decide) (by decide) (rfl) (by omega) (rfl) (fun σ2 h2 => ?_)
    replace h := h2
    clear h2
    rw [fu_fu] at h
    refine h_st rfl rfl ?_
    refine h_st rfl rfl ?_
    exact ih1 _ _ _ h
theorem r_130by {b : Bool} {σ0 : ae_S} {F0 F : Nat → Nat → Int32} {u g : Int32} (h : RS b σ0 F0 σ 0 u g F) (hP : RP F g [] []) {k l : Nat} {x1 x2 x3 : Int32} {x4 x5 : Option Value} (e3 : x3 = nI k) (hk : k < 32) (el : x2 = nI l) (hl : l < 8) : hG ra (d + 2) 130 σ [some (.ref 176), some (.int x1), some (.int x2), some (.int x3), x4, x5] [] 34 (pI (fun σ' y => ∃ g' F', RS b σ0 F0 σ' 0 u g' F' ∧ RP F' g' [] [] ∧ ((F 209 k = 0 ∧ y = 0 ∧ F' = F) ∨ (F 209 k ≠ 0 ∧ y = F 210 (4 * k) ∧ ((F 179 l = 0 ∧ ∀ q, q ≠ 214 → F' q = F q) ∨ (F 179 l ≠ 0 ∧ ∃ m9, F 209 k = nI m9 + 1 ∧ m9 ≤ 3 ∧ F' 209 = upd (F 209) k (nI m9) ∧ F' 210 = shf (F 210) (4 * k) (4 * k + m9) ∧ ∀ q, q ≠ 209 → q ≠ 210 → q ≠ 211 → q ≠ 214 → F' q = F q)))))) := by
  subst e3
  obtain ⟨gs, hgs, egs⟩ := hP.2.2.2.2.2.1.2.2.2 (4 * k) (by omega)
  have e4 : (4 : Int32) * nI k = nI (4 * k) := by rw [show (4 : Int32) = nI 4 from rfl, pk_mul]
  refine h_st rfl rfl ?_
  refine h_st rfl rfl ?_
  refine r_put rfl h rfl (Nat.le_of_ble_eq_true rfl) rfl (fun σ2 h2 => ?_)
  replace h := h2
  clear h2
  replace hP := hP.g (g' := 0) ⟨0, by decide, rfl⟩
  refine h_st rfl rfl ?_
  refine h_st rfl (e_get h.2.1 rfl) ?_
  refine h_st rfl rfl ?_
  refine h_st rfl (q_ia h.a209 (rfl) (hk) (by decide)) ?_
  refine h_st rfl rfl ?_
  refine h_br (fun q1 => ?_) (fun q1 => ?_)
  · refine h_st rfl rfl ?_
    refine h_st rfl rfl ?_
    refine h_st rfl (e_get h.2.1 rfl) ?_
    refine h_st rfl rfl ?_
    refine h_st rfl rfl ?_
    refine h_st rfl rfl ?_
    refine h_st rfl (q_iaE h.a210 (e4) (by omega) (by decide) (egs)) ?_
    refine r_put rfl h rfl (Nat.le_of_ble_eq_true rfl) rfl (fun σ2 h2 => ?_)
    replace h := h2
    clear h2
    replace hP := hP.g (g' := nI gs) ⟨gs, hgs, rfl⟩
    rw [← fu_self F 214] at h
    refine h_st rfl rfl ?_
    refine h_st rfl rfl ?_
    obtain ⟨r, g1, σ9, v9, rfl, rfl, F9, h9, hP9, e9⟩ := r_130gy (ra := ra) (d := d) (x1 := x1) hk el hl (by omega) hP q1 gs 0 _ _ x5 (Nat.zero_add _) h
    exact ⟨_, g1, σ9, _, rfl, _, F9, h9, hP9, Or.inr ⟨q1, egs.symm, e9⟩⟩
  · refine h_st rfl rfl ?_
    exact h_rt rfl rfl (⟨_, _, rfl, 0, F, h, hP, Or.inl ⟨Decidable.of_not_not q1, rfl, rfl⟩⟩)
section S22
variable {F F' : Nat → Nat → Int32} {v : Nat → Nat} {a : AN} {l e : Nat} {p : AP} {k : AK} {y : Int32}
/-- what a read answers, and its code -/
def rdY (a : AN) (e v c y : Int32) : Prop := (c = 1 ∧ pat a e v = none) ∨ (c = 0 ∧ ∃ l en p, pat a e v = some (l, en, p) ∧ y = rdV p)
theorem RR.o4 (hR : RR F v a) (ag : ∀ q, q ≠ 214 → F' q = F q) : RR F' v a := ⟨hR.1.o (fun q z1 z2 => ag q (by omega)), hR.2.1.ag (fun q z1 z2 => ag q (by omega)), hR.2.2.ag (fun q hq => ag q (by omega)) rfl⟩
theorem RR.rd (hR : RR F v a) (hl : l < 8) (he : e < 4) (hpat : pat a (nI e) (nI l) = some (l, e, p)) (hnp : nP a l e = some p) (hpt : Rpt F l e p) (hk : nK a l = some k) (hm : ((F 209 (8 * e + l) = 0 ∧ y = 0 ∧ F' = F) ∨ (F 209 (8 * e + l) ≠ 0 ∧ y = F 210 (4 * (8 * e + l)) ∧ ((F 179 l = 0 ∧ ∀ q, q ≠ 214 → F' q = F q) ∨ (F 179 l ≠ 0 ∧ ∃ m9, F 209 (8 * e + l) = nI m9 + 1 ∧ m9 ≤ 3 ∧ F' 209 = upd (F 209) (8 * e + l) (nI m9) ∧ F' 210 = shf (F 210) (4 * (8 * e + l)) (4 * (8 * e + l) + m9) ∧ ∀ q, q ≠ 209 → q ≠ 210 → q ≠ 211 → q ≠ 214 → F' q = F q))))) : RR F' v (rdA a (nI e) (nI l)) ∧ y = rdV p := by
  obtain ⟨⟨p1, p2⟩, p3, p4, p5, ⟨p6, p7, p8⟩, p9⟩ := hpt
  rcases hm with ⟨h0, rfl, rfl⟩ | ⟨h0, rfl, hm⟩
  · have hnil : pks p = [] := List.length_eq_zero_iff.mp (nI_inj (c := 0) (by omega) (by decide) (p6.symm.trans h0))
    rw [rd_em hpat hnil]
    exact ⟨hR, by unfold rdV; rw [hnil]⟩
  · cases hks : pks p with
    | nil => exact absurd (p6.trans (by rw [hks]; rfl)) h0
    | cons s t =>
      obtain ⟨⟨hs8, hs1⟩, es⟩ := p8 0 s (by rw [hks]; rfl)
      have ey : F 210 (4 * (8 * e + l)) = rdV p := by
        unfold rdV
        rw [hks]
        show _ = nI s - 8
        rw [show nI s - 8 = nI (s - 8) from pk_sub (b := 8) hs8]
        exact es
      refine ⟨?_, ey⟩
      rw [rd_ok hpat hks]
      rcases hm with ⟨hq, ag⟩ | ⟨hq, m9, em9, hm9, e9, e10, ag⟩
      · have er : rdp p = p := if_pos (p1.mp hq)
        have ea : setP a l e (rdp p) = a := by
          rw [er]
          show (nT a, nK a, nL a, fun l' e' => if l' = l ∧ e' = e then some p else nP a l' e') = a
          have : (fun l' e' => if l' = l ∧ e' = e then some p else nP a l' e') = nP a := by
            funext l' e'
            by_cases c : l' = l ∧ e' = e
            · rw [if_pos c, c.1, c.2, hnp]
            · rw [if_neg c]
          rw [this]
        rw [ea]
        exact hR.o4 ag
      · rw [nI_1] at em9
        have hq' : ¬ pqu p = 0 := fun z => hq (p1.mpr z)
        have er : rdp p = (p.1, p.2.1, p.2.2.1, p.2.2.2.1, t, pca p) := by
          unfold rdp
          rw [if_neg hq', hks]
          rfl
        have hlen : m9 = t.length := by
          have e1 := p6.symm.trans em9
          rw [hks] at e1 p7
          have e2 := nI_inj (by omega) (by omega) e1
          have e3 : (s :: t).length = t.length + 1 := rfl
          omega
        have hF'' : Mpt (fu F' 214 (F 214)) (nK a) (fun l' e' => if l' = l ∧ e' = e then some (rdp p) else nP a l' e') := by
          refine hR.2.2.set hl he hk hnp ⟨fun q hq => ?_, fun q i z1 z2 => ?_⟩ ?_
          · by_cases c : q = 214
            · rw [c, fu_s]
            · rw [fu_n c]
              exact ag q (by omega) (by omega) (by omega) c
          · by_cases c : q = 214
            · rw [c, fu_s]
            · rw [fu_n c]
              by_cases c9 : q = 209
              · subst c9
                rw [e9, pk_un (fun z => z2 (by rw [z]; exact own_k (by decide)))]
              · by_cases c10 : q = 210
                · subst c10
                  rw [e10]
                  unfold shf
                  rw [if_neg (fun z => z2 (Or.inr (Or.inl ⟨rfl, z.1, by omega⟩)))]
                · rw [ag q c9 c10 z1 c]
          · have g3 : fu F' 214 (F 214) 203 = F 203 := (fu_n (by decide)).trans (ag _ (by decide) (by decide) (by decide) (by decide))
            have g4 : fu F' 214 (F 214) 204 = F 204 := (fu_n (by decide)).trans (ag _ (by decide) (by decide) (by decide) (by decide))
            have g5 : fu F' 214 (F 214) 205 = F 205 := (fu_n (by decide)).trans (ag _ (by decide) (by decide) (by decide) (by decide))
            have g6 : fu F' 214 (F 214) 206 = F 206 := (fu_n (by decide)).trans (ag _ (by decide) (by decide) (by decide) (by decide))
            have g7 : fu F' 214 (F 214) 207 = F 207 := (fu_n (by decide)).trans (ag _ (by decide) (by decide) (by decide) (by decide))
            have g8 : fu F' 214 (F 214) 208 = F 208 := (fu_n (by decide)).trans (ag _ (by decide) (by decide) (by decide) (by decide))
            have g12 : fu F' 214 (F 214) 212 = F 212 := (fu_n (by decide)).trans (ag _ (by decide) (by decide) (by decide) (by decide))
            have g79 : fu F' 214 (F 214) 179 = F 179 := (fu_n (by decide)).trans (ag _ (by decide) (by decide) (by decide) (by decide))
            have g84 : fu F' 214 (F 214) 184 = F 184 := (fu_n (by decide)).trans (ag _ (by decide) (by decide) (by decide) (by decide))
            have g9 : fu F' 214 (F 214) 209 = upd (F 209) (8 * e + l) (nI m9) := (fu_n (by decide)).trans e9
            have g10 : fu F' 214 (F 214) 210 = shf (F 210) (4 * (8 * e + l)) (4 * (8 * e + l) + m9) := (fu_n (by decide)).trans e10
            rw [er]
            refine ⟨⟨by rw [g79]; exact p1, by rw [g84]; exact p2⟩, by rw [g3]; exact p3, by rw [g4, g5]; exact p4, p5.cg (by rw [g6]) (by rw [g7]) (fun j _ => by rw [g8]), ⟨?_, ?_, fun j s' hs' => ?_⟩, by rw [g12]; exact p9⟩
            · rw [g9, pk_us, hlen]
            · show t.length ≤ 4
              omega
            · have hj : j < m9 := by
                rw [hlen]
                exact (List.getElem?_eq_some_iff.mp (show t[j]? = some s' from hs')).1
              obtain ⟨b1, b2⟩ := p8 (j + 1) s' (by rw [hks]; exact hs')
              refine ⟨b1, ?_⟩
              rw [g10]
              unfold shf
              rw [if_pos ⟨by omega, by omega⟩]
              exact b2
        exact ⟨hR.1.o (fun q z1 z2 => ag q (by omega) (by omega) (by omega) (by omega)), hR.2.1.ag (fun q z1 z2 => ag q (by omega) (by omega) (by omega) (by omega)), hF''.ag (fun q hq => (fu_n (by omega)).symm) rfl⟩
end S22
theorem r_130w {b : Bool} {σ0 : ae_S} {F0 F : Nat → Nat → Int32} {c g : Int32} {a : AN} {v : Nat → Nat} (h : RS b σ0 F0 σ c (nT a) g F) (hR : RR F v a) (hP : RP F g [] []) (x1 x2 : Int32) : hE ra (d + 3) 130 [.ref 176, .int x1, .int x2] σ (pI (fun σ' y => ∃ c' g' F', RS b σ0 F0 σ' c' (nT a) g' F' ∧ RP F' g' [] [] ∧ RR F' v (rdA a x1 x2) ∧ rdY a x1 x2 c' y)) := by
  refine h_in rfl rfl (Nat.le_of_ble_eq_true rfl) ?_
  refine h_st rfl rfl ?_
  refine h_st rfl rfl ?_
  refine h_st rfl rfl ?_
  refine h_st rfl rfl ?_
  refine h_ci3 rfl (Nat.le_of_ble_eq_true rfl) (e_rcv h.2.1) rfl (r_119x h x1 x2) (fun σ' y7 hq => ?_)
  obtain ⟨hss, hv⟩ := hq
  replace hss := hss.symm
  subst hss
  rcases hv with ⟨rfl, hv⟩ | ⟨rfl, l, e, hl, he, rfl, rfl, hi, hb⟩
  · refine h_st rfl rfl ?_
    refine h_pc (if_pos (by decide)) ?_
    refine h_st rfl rfl ?_
    refine r_put rfl h rfl (Nat.le_of_ble_eq_true rfl) rfl (fun σ2 h2 => ?_)
    replace h := h2
    clear h2
    refine h_st rfl rfl ?_
    refine h_st rfl (e_get h.2.1 rfl) ?_
    refine h_st rfl rfl ?_
    refine h_pc (if_neg (by decide)) ?_
    refine h_st rfl rfl ?_
    exact h_rt rfl rfl (⟨_, _, rfl, 1, g, F, h, hP, by rw [rd_no (pat_no hR.2.1 hR.2.2 hv)]; exact hR, Or.inl ⟨rfl, pat_no hR.2.1 hR.2.2 hv⟩⟩)
  · refine h_st rfl rfl ?_
    refine h_pc (if_neg (by decide)) ?_
    refine h_st rfl rfl ?_
    refine h_st rfl rfl ?_
    refine r_put rfl h rfl (Nat.le_of_ble_eq_true rfl) rfl (fun σ2 h2 => ?_)
    replace h := h2
    clear h2
    refine h_st rfl rfl ?_
    refine h_st rfl (e_get h.2.1 rfl) ?_
    refine h_st rfl rfl ?_
    refine h_pc (if_pos (by decide)) ?_
    refine h_st rfl rfl ?_
    refine h_st rfl rfl ?_
    refine h_st rfl rfl ?_
    refine h_st rfl rfl ?_
    refine h_st rfl rfl ?_
    refine h_st rfl rfl ?_
    obtain ⟨p, k, hp1, hp2, hp3, hk1, hk2⟩ := pat_yes hR.2.1 hR.2.2 hl he hi hb
    have ek : (8 : Int32) * nI e + nI l = nI (8 * e + l) := by rw [show (8 : Int32) = nI 8 from rfl, pk_mul, nI_add]
    obtain ⟨r, g1, σ9, y9, rfl, g9, F9, h9, hP9, e9⟩ := r_130by (ra := ra) (d := d) (x1 := nI e) (x4 := none) (x5 := none) h hP ek (by omega) rfl hl
    obtain ⟨hR9, ey⟩ := hR.rd hl he hp1 hp2 hp3 hk1 e9
    exact ⟨_, g1, σ9, y9, rfl, 0, g9, F9, h9, hP9, hR9, Or.inr ⟨rfl, l, e, p, hp1, ey⟩⟩
end SY22
