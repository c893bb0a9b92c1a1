section RF8
variable {ra : ae_R} {d : Nat} {σ : ae_S}
theorem RP.g {F : Nat → Nat → Int32} {g g' : Int32} {a e : List Nat} (h : RP F g a e) (hg : rg g' 993) : RP F g' a e := ⟨h.1, h.2.1, h.2.2.1, h.2.2.2.1, h.2.2.2.2.1, h.2.2.2.2.2.1, hg⟩
theorem GA.up {i s m : Nat → Int32} {j so mo : Nat} (h : GA i s m) (hs : so < 4) (hm : 64 ≤ mo ∧ mo ≤ 128) (x : Int32) : GA (upd i j x) (upd s j (nI so)) (upd m j (nI mo)) := by
  refine ⟨fun l hl => ?_, fun l hl hi => ?_⟩
  · by_cases e : l = j
    · rw [e, pk_us]
      exact ⟨so, hs, rfl⟩
    · rw [pk_un e]
      exact h.1 l hl
  · by_cases e : l = j
    · rw [e, pk_us]
      exact ⟨mo, hm.1, hm.2, rfl⟩
    · rw [pk_un e] at hi ⊢
      exact h.2 l hl hi
theorem r_97xt {σ0 : ae_S} {F : Nat → Nat → Int32} {c u g : Int32} (h : RS false σ0 F σ c u g F) (hP : RP F g [] []) {l s ga m t f : Int32} {x8 x9 : Option Value} (hn : ¬ okL l s ga m t f) : hG ra d 97 σ [some (.ref 176), some (.int l), some (.int s), some (.int ga), some (.int m), some (.int t), some (.int f), some (.int (f >>> ((2 : Int32) &&& 31))), x8, x9] [] 91 (pV (fun σ' => ∃ c' F', RS false σ0 F σ' c' u g F' ∧ RP F' g [] [] ∧ ((¬ okL l s ga m t f ∧ c' = 1 ∧ F' = F) ∨ (okL l s ga m t f ∧ ∃ j, j < 8 ∧ l = nI j ∧ ((F 177 j ≠ 0 ∧ c' = 2 ∧ F' = F) ∨ (F 177 j = 0 ∧ c' = 0 ∧ F' 177 = upd (F 177) j 1 ∧ F' 180 = upd (F 180) j s ∧ F' 182 = upd (F 182) j m ∧ F' 183 = upd (F 183) j t ∧ (∃ gn, ga = nI gn ∧ gn < 10 ∧ F' 181 = upd (F 181) j (nI (2 ^ gn))) ∧ F' 179 = upd (F 179) j (if f / 2 - f / 2 / 2 * 2 = 0 then 0 else 1) ∧ ∀ q, 185 ≤ q → q ≠ 188 → F' q = F q)))))) := by
  refine h_st rfl rfl ?_
  refine h_st rfl rfl ?_
  refine h_st rfl rfl ?_
  refine h_st rfl rfl ?_
  refine h_st rfl rfl ?_
  refine h_pc (if_neg (by decide)) ?_
  refine h_st rfl rfl ?_
  refine h_st rfl rfl ?_
  refine r_put rfl h rfl (Nat.le_of_ble_eq_true rfl) rfl (fun σ2 h2 => ?_)
  replace h := h2
  clear h2
  refine h_st rfl rfl ?_
  refine h_st rfl (e_get h.2.1 rfl) ?_
  refine h_st rfl rfl ?_
  refine h_pc (if_neg (by decide)) ?_
  exact h_rv rfl (⟨_, rfl, 1, F, h, hP, Or.inl ⟨hn, rfl, rfl⟩⟩)
theorem r_97lt {σ0 : ae_S} {F0 F1 : Nat → Nat → Int32} {c u g : Int32} {gn li : Nat} (hg : gn < 10) (hli : li < 8) {s m t f : Int32} {x8 : Option Value} {fo : Nat → Int32} {P : ae_S × ae_O → Prop} (hx : ∀ σ, RS false σ0 F0 σ c u g (fu F1 181 (upd fo li (nI (2 ^ gn)))) → hG ra d 97 σ [some (.ref 176), some (.int (nI li)), some (.int s), some (.int (nI gn)), some (.int m), some (.int t), some (.int f), some (.int (f >>> ((2 : Int32) &&& 31))), x8, some (.int (nI gn))] [] 175 P) : ∀ (m' j : Nat) (σ : ae_S), j + m' = gn → RS false σ0 F0 σ c u g (fu F1 181 (upd fo li (nI (2 ^ j)))) → hG ra d 97 σ [some (.ref 176), some (.int (nI li)), some (.int s), some (.int (nI gn)), some (.int m), some (.int t), some (.int f), some (.int (f >>> ((2 : Int32) &&& 31))), x8, some (.int (nI j))] [] 153 P := by
  intro m'
  induction m' with
  | zero =>
    intro j σ hj h
    have hj : j = gn := by omega
    subst hj
    refine h_st rfl rfl ?_
    refine h_st rfl rfl ?_
    refine h_st rfl rfl ?_
    refine h_pc (if_pos (decide_eq_true (nI_le (Nat.le_refl _) (by omega)))) ?_
    exact hx _ h
  | succ m' ih =>
    intro j σ hj h
    have ih1 := fun σ => ih (j + 1) σ (by omega)
    simp only [← nI_1] at ih1
    have ev : fu F1 181 (upd fo li (nI (2 ^ j))) 181 li = nI (2 ^ j) := pk_us
    have e2 : nI (2 ^ j) * 2 = nI (2 ^ (j + 1)) := by rw [show (2 : Int32) = nI 2 from rfl, pk_mul, Nat.pow_succ]
    have euu : ∀ a c : Int32, upd (upd fo li a) li c = upd fo li c := fun a c => by
      funext q
      by_cases e : q = li
      · rw [e, pk_us, pk_us]
      · rw [pk_un e, pk_un e, pk_un e]
    refine h_st rfl rfl ?_
    refine h_st rfl rfl ?_
    refine h_st rfl rfl ?_
    refine h_pc (if_neg (fun z9 => (nI_ge (show j < gn by omega) (by omega)) (of_decide_eq_true z9))) ?_
    refine h_st rfl rfl ?_
    refine h_st rfl (e_get h.2.1 rfl) ?_
    refine h_st rfl rfl ?_
    refine h_st rfl rfl ?_
    refine h_st rfl (q_iaE h.a181 (rfl) (hli) (by decide) (ev)) ?_
    refine h_st rfl rfl ?_
    refine h_st rfl rfl ?_
    refine r_ias rfl h m181 (fun z => by cases z) (by decide) (rfl) (hli) (e2) (fun σ2 h2 => ?_)
    replace h := h2
    clear h2
    rw [fu_fu] at h
    replace h : RS false σ0 F0 σ2 c u g (fu F1 181 (upd fo li (nI (2 ^ (j + 1))))) := by rw [← euu (nI (2 ^ j)) (nI (2 ^ (j + 1)))]; exact h
    refine h_st rfl rfl ?_
    refine h_st rfl rfl ?_
    exact ih1 _ h
theorem r_97t {b : Bool} {σ0 : ae_S} {F0 F : Nat → Nat → Int32} {c u g : Int32} (h : RS b σ0 F0 σ c u g F) (hP : RP F g [] []) (l s ga m t f : Int32) : hE ra (d + 1) 97 [.ref 176, .int l, .int s, .int ga, .int m, .int t, .int f] σ (pV (fun σ' => ∃ c' F', RS false σ0 F σ' c' u g F' ∧ RP F' g [] [] ∧ ((¬ okL l s ga m t f ∧ c' = 1 ∧ F' = F) ∨ (okL l s ga m t f ∧ ∃ j, j < 8 ∧ l = nI j ∧ ((F 177 j ≠ 0 ∧ c' = 2 ∧ F' = F) ∨ (F 177 j = 0 ∧ c' = 0 ∧ F' 177 = upd (F 177) j 1 ∧ F' 180 = upd (F 180) j s ∧ F' 182 = upd (F 182) j m ∧ F' 183 = upd (F 183) j t ∧ (∃ gn, ga = nI gn ∧ gn < 10 ∧ F' 181 = upd (F 181) j (nI (2 ^ gn))) ∧ F' 179 = upd (F 179) j (if f / 2 - f / 2 / 2 * 2 = 0 then 0 else 1) ∧ ∀ q, 185 ≤ q → q ≠ 188 → F' q = F q)))))) := by
  have hfl : RS false σ0 F σ c u g F := h.fls
  replace h := hfl
  clear hfl
  by_cases hy : okL l s ga m t f
  · have hy0 := hy
    obtain ⟨y1, y2, y3, y4, y5, y6, y7, y8, ⟨y9, y10, y11⟩, y12, y13⟩ := hy
    obtain ⟨li, hli, rfl⟩ := i_ix (n := 8) (by decide) y1 y2
    obtain ⟨so, hso, rfl⟩ := i_ix (n := 4) (by decide) y3 y4
    obtain ⟨gn, hgn, rfl⟩ := i_ix (x := ga) (n := 10) (by decide) (fun z => y5 (Int32.lt_of_lt_of_le z (by decide))) (fun z => y6 (Int32.lt_of_lt_of_le (by decide) z))
    obtain ⟨mo, hmo, rfl⟩ := nI_of2 (x := m) (M := 128) (n := 128) (by decide) (fun z => y7 (Int32.lt_trans z (by decide))) (Int32.not_lt.mp y8)
    have hm2 : 64 ≤ mo := Nat.le_of_not_lt (fun z => y7 ((nI_ltI (by omega) (by decide)).mpr z))
    have hin8 : (8 : Int32) + nI li = nI (8 + li) := by rw [show (8 : Int32) = nI 8 from rfl, nI_add]
    have h16 : li < 16 := by omega
    have h168 : 8 + li < 16 := by omega
    by_cases hz : F 177 li = 0
    · refine h_in rfl rfl (Nat.le_of_ble_eq_true rfl) ?_
      refine h_st rfl rfl ?_
      refine h_st rfl rfl ?_
      refine h_st rfl rfl ?_
      refine h_st rfl rfl ?_
      refine h_st rfl rfl ?_
      refine h_st rfl rfl ?_
      refine h_pc (if_neg (fun z9 => (y1) (of_decide_eq_true z9))) ?_
      refine h_st rfl rfl ?_
      refine h_st rfl rfl ?_
      refine h_st rfl rfl ?_
      refine h_pc (if_neg (fun z9 => (y2) (of_decide_eq_true z9))) ?_
      refine h_st rfl rfl ?_
      refine h_st rfl rfl ?_
      refine h_pc (if_neg (fun z9 => (y3) (of_decide_eq_true z9))) ?_
      refine h_st rfl rfl ?_
      refine h_st rfl rfl ?_
      refine h_st rfl rfl ?_
      refine h_pc (if_neg (fun z9 => (y4) (of_decide_eq_true z9))) ?_
      refine h_st rfl rfl ?_
      refine h_st rfl rfl ?_
      refine h_st rfl rfl ?_
      refine h_pc (if_neg (fun z9 => (y5) (of_decide_eq_true z9))) ?_
      refine h_st rfl rfl ?_
      refine h_st rfl rfl ?_
      refine h_st rfl rfl ?_
      refine h_pc (if_neg (fun z9 => (y6) (of_decide_eq_true z9))) ?_
      refine h_st rfl rfl ?_
      refine h_st rfl rfl ?_
      refine h_st rfl rfl ?_
      refine h_pc (if_neg (fun z9 => (y7) (of_decide_eq_true z9))) ?_
      refine h_st rfl rfl ?_
      refine h_st rfl rfl ?_
      refine h_st rfl rfl ?_
      refine h_pc (if_neg (fun z9 => (y8) (of_decide_eq_true z9))) ?_
      refine h_st rfl rfl ?_
      refine h_st rfl rfl ?_
      refine h_st rfl rfl ?_
      refine h_pc (if_neg (fun z9 => (fun z => y9 (i_01.mp z)) (of_decide_eq_true z9))) ?_
      refine h_st rfl rfl ?_
      refine h_st rfl rfl ?_
      refine h_st rfl rfl ?_
      refine h_pc (if_neg (fun z9 => (fun z => y10 (i_15.mp z)) (of_decide_eq_true z9))) ?_
      refine h_st rfl rfl ?_
      refine h_st rfl rfl ?_
      refine h_st rfl rfl ?_
      refine h_st rfl rfl ?_
      refine h_st rfl rfl ?_
      refine h_st rfl rfl ?_
      refine h_pc (if_neg (fun z9 => (y11) (of_decide_eq_true z9))) ?_
      refine h_st rfl rfl ?_
      refine h_st rfl rfl ?_
      refine h_st rfl rfl ?_
      refine h_pc (if_neg (fun z9 => (y12) (of_decide_eq_true z9))) ?_
      refine h_st rfl rfl ?_
      refine h_st rfl rfl ?_
      refine h_st rfl rfl ?_
      refine h_pc (if_neg (fun z9 => (y13) (of_decide_eq_true z9))) ?_
      refine h_st rfl rfl ?_
      refine h_st rfl rfl ?_
      refine h_st rfl rfl ?_
      refine h_st rfl rfl ?_
      refine h_st rfl rfl ?_
      refine h_st rfl rfl ?_
      refine h_pc (if_pos (by decide)) ?_
      refine h_st rfl rfl ?_
      refine h_st rfl (e_get h.2.1 rfl) ?_
      refine h_st rfl rfl ?_
      refine h_st rfl (q_ba h.a177 (rfl) (hli) (by decide)) ?_
      refine h_st rfl rfl ?_
      refine h_pc (if_pos (decide_eq_true (hz))) ?_
      refine h_st rfl rfl ?_
      refine r_put rfl h rfl (Nat.le_of_ble_eq_true rfl) rfl (fun σ2 h2 => ?_)
      replace h := h2
      clear h2
      refine h_st rfl rfl ?_
      refine h_st rfl (e_get h.2.1 rfl) ?_
      refine h_st rfl rfl ?_
      refine h_pc (if_pos (by decide)) ?_
      refine h_st rfl rfl ?_
      refine h_st rfl (e_get h.2.1 rfl) ?_
      refine h_st rfl rfl ?_
      refine h_st rfl rfl ?_
      refine r_bas rfl h m177 (fun z => by cases z) (by decide) (rfl) (hli) ((rfl : vp_nar .boolean 1 = 1)) (fun σ2 h2 => ?_)
      replace h := h2
      clear h2
      refine h_st rfl rfl ?_
      refine h_st rfl (e_get h.2.1 rfl) ?_
      refine h_st rfl rfl ?_
      refine h_st rfl rfl ?_
      refine r_ias rfl h m180 (fun z => by cases z) (by decide) (rfl) (hli) (rfl) (fun σ2 h2 => ?_)
      replace h := h2
      clear h2
      refine h_st rfl rfl ?_
      refine h_st rfl (e_get h.2.1 rfl) ?_
      refine h_st rfl rfl ?_
      refine h_st rfl rfl ?_
      refine r_ias rfl h m181 (fun z => by cases z) (by decide) (rfl) (hli) (rfl) (fun σ2 h2 => ?_)
      replace h := h2
      clear h2
      refine h_st rfl rfl ?_
      refine h_st rfl rfl ?_
      refine r_97lt hgn hli (fun σ9 h => ?_) gn 0 _ (Nat.zero_add _) h
      refine h_st rfl rfl ?_
      refine h_st rfl (e_get h.2.1 rfl) ?_
      refine h_st rfl rfl ?_
      refine h_st rfl rfl ?_
      refine r_ias rfl h m182 (fun z => by cases z) (by decide) (rfl) (hli) (rfl) (fun σ2 h2 => ?_)
      replace h := h2
      clear h2
      refine h_st rfl rfl ?_
      refine h_st rfl (e_get h.2.1 rfl) ?_
      refine h_st rfl rfl ?_
      refine h_st rfl rfl ?_
      refine r_ias rfl h m183 (fun z => by cases z) (by decide) (rfl) (hli) (rfl) (fun σ2 h2 => ?_)
      replace h := h2
      clear h2
      refine h_st rfl rfl ?_
      refine h_st rfl (e_get h.2.1 rfl) ?_
      refine h_st rfl rfl ?_
      refine h_st rfl rfl ?_
      refine r_ias rfl h m184 (fun z => by cases z) (by decide) (rfl) (hli) (rfl) (fun σ2 h2 => ?_)
      replace h := h2
      clear h2
      refine h_st rfl rfl ?_
      refine h_st rfl (e_get h.2.1 rfl) ?_
      refine h_st rfl rfl ?_
      refine h_st rfl rfl ?_
      refine h_st rfl rfl ?_
      refine h_st rfl (e_dv (by decide)) ?_
      refine h_st rfl rfl ?_
      refine h_br (fun z1 => ?_) (fun z1 => ?_)
      · refine h_st rfl rfl ?_
        refine r_bas rfl h m178 (fun z => by cases z) (by decide) (rfl) (hli) ((rfl : vp_nar .boolean 0 = 0)) (fun σ2 h2 => ?_)
        replace h := h2
        clear h2
        refine h_st rfl rfl ?_
        refine h_st rfl (e_get h.2.1 rfl) ?_
        refine h_st rfl rfl ?_
        refine h_st rfl rfl ?_
        refine h_st rfl rfl ?_
        refine h_st rfl (e_dv (by decide)) ?_
        refine h_st rfl rfl ?_
        refine h_st rfl (e_dv (by decide)) ?_
        refine h_st rfl rfl ?_
        refine h_br (fun z2 => ?_) (fun z2 => ?_)
        · refine h_st rfl rfl ?_
          refine r_bas rfl h m179 (fun z => by cases z) (by decide) (rfl) (hli) ((rfl : vp_nar .boolean 0 = 0)) (fun σ2 h2 => ?_)
          replace h := h2
          clear h2
          refine h_st rfl rfl ?_
          refine h_st rfl (e_get h.2.1 rfl) ?_
          refine h_st rfl rfl ?_
          refine h_st rfl rfl ?_
          refine h_st rfl (e_get h.2.1 rfl) ?_
          refine h_st rfl rfl ?_
          refine h_st rfl (q_ia h.a182 (rfl) (hli) (by decide)) ?_
          refine h_st rfl rfl ?_
          refine h_st rfl (e_get h.2.1 rfl) ?_
          refine h_st rfl rfl ?_
          refine h_st rfl (q_ia h.a181 (rfl) (hli) (by decide)) ?_
          refine h_st rfl rfl ?_
          refine h_st rfl rfl ?_
          refine h_st rfl rfl ?_
          refine r_ias rfl h m188 (fun z => by cases z) (by decide) (rfl) (h16) (rfl) (fun σ2 h2 => ?_)
          replace h := h2
          clear h2
          refine h_st rfl rfl ?_
          refine h_st rfl (e_get h.2.1 rfl) ?_
          refine h_st rfl rfl ?_
          refine h_st rfl rfl ?_
          refine h_st rfl rfl ?_
          refine h_st rfl rfl ?_
          refine h_st rfl (e_get h.2.1 rfl) ?_
          refine h_st rfl rfl ?_
          refine h_st rfl (q_ia h.a188 (rfl) (h16) (by decide)) ?_
          refine r_ias rfl h m188 (fun z => by cases z) (by decide) (hin8) (h168) (rfl) (fun σ2 h2 => ?_)
          replace h := h2
          clear h2
          refine h_rv rfl ⟨_, rfl, 0, _, h, ⟨hP.1.up hso ⟨hm2, hmo⟩ 1, hP.2⟩, Or.inr ⟨hy0, li, hli, rfl, Or.inr ⟨hz, rfl, rfl, rfl, rfl, rfl, ⟨gn, rfl, hgn, rfl⟩, by rw [if_pos z2]; rfl, fun q z1 z2 => ?_⟩⟩⟩
          exact (fu_n (by omega)).trans ((fu_n (by omega)).trans ((fu_n (by omega)).trans ((fu_n (by omega)).trans ((fu_n (by omega)).trans ((fu_n (by omega)).trans ((fu_n (by omega)).trans ((fu_n (by omega)).trans ((fu_n (by omega)).trans (fu_n (by omega))))))))))
        · refine h_st rfl rfl ?_
          refine h_st rfl rfl ?_
          refine r_bas rfl h m179 (fun z => by cases z) (by decide) (rfl) (hli) ((rfl : vp_nar .boolean 1 = 1)) (fun σ2 h2 => ?_)
          replace h := h2
          clear h2
          refine h_st rfl rfl ?_
          refine h_st rfl (e_get h.2.1 rfl) ?_
          refine h_st rfl rfl ?_
          refine h_st rfl rfl ?_
          refine h_st rfl (e_get h.2.1 rfl) ?_
          refine h_st rfl rfl ?_
          refine h_st rfl (q_ia h.a182 (rfl) (hli) (by decide)) ?_
          refine h_st rfl rfl ?_
          refine h_st rfl (e_get h.2.1 rfl) ?_
          refine h_st rfl rfl ?_
          refine h_st rfl (q_ia h.a181 (rfl) (hli) (by decide)) ?_
          refine h_st rfl rfl ?_
          refine h_st rfl rfl ?_
          refine h_st rfl rfl ?_
          refine r_ias rfl h m188 (fun z => by cases z) (by decide) (rfl) (h16) (rfl) (fun σ2 h2 => ?_)
          replace h := h2
          clear h2
          refine h_st rfl rfl ?_
          refine h_st rfl (e_get h.2.1 rfl) ?_
          refine h_st rfl rfl ?_
          refine h_st rfl rfl ?_
          refine h_st rfl rfl ?_
          refine h_st rfl rfl ?_
          refine h_st rfl (e_get h.2.1 rfl) ?_
          refine h_st rfl rfl ?_
          refine h_st rfl (q_ia h.a188 (rfl) (h16) (by decide)) ?_
          refine r_ias rfl h m188 (fun z => by cases z) (by decide) (hin8) (h168) (rfl) (fun σ2 h2 => ?_)
          replace h := h2
          clear h2
          refine h_rv rfl ⟨_, rfl, 0, _, h, ⟨hP.1.up hso ⟨hm2, hmo⟩ 1, hP.2⟩, Or.inr ⟨hy0, li, hli, rfl, Or.inr ⟨hz, rfl, rfl, rfl, rfl, rfl, ⟨gn, rfl, hgn, rfl⟩, by rw [if_neg z2]; rfl, fun q z1 z2 => ?_⟩⟩⟩
          exact (fu_n (by omega)).trans ((fu_n (by omega)).trans ((fu_n (by omega)).trans ((fu_n (by omega)).trans ((fu_n (by omega)).trans ((fu_n (by omega)).trans ((fu_n (by omega)).trans ((fu_n (by omega)).trans ((fu_n (by omega)).trans (fu_n (by omega))))))))))
      · refine h_st rfl rfl ?_
        refine h_st rfl rfl ?_
        refine r_bas rfl h m178 (fun z => by cases z) (by decide) (rfl) (hli) ((rfl : vp_nar .boolean 1 = 1)) (fun σ2 h2 => ?_)
        replace h := h2
        clear h2
        refine h_st rfl rfl ?_
        refine h_st rfl (e_get h.2.1 rfl) ?_
        refine h_st rfl rfl ?_
        refine h_st rfl rfl ?_
        refine h_st rfl rfl ?_
        refine h_st rfl (e_dv (by decide)) ?_
        refine h_st rfl rfl ?_
        refine h_st rfl (e_dv (by decide)) ?_
        refine h_st rfl rfl ?_
        refine h_br (fun z2 => ?_) (fun z2 => ?_)
        · refine h_st rfl rfl ?_
          refine r_bas rfl h m179 (fun z => by cases z) (by decide) (rfl) (hli) ((rfl : vp_nar .boolean 0 = 0)) (fun σ2 h2 => ?_)
          replace h := h2
          clear h2
          refine h_st rfl rfl ?_
          refine h_st rfl (e_get h.2.1 rfl) ?_
          refine h_st rfl rfl ?_
          refine h_st rfl rfl ?_
          refine h_st rfl (e_get h.2.1 rfl) ?_
          refine h_st rfl rfl ?_
          refine h_st rfl (q_ia h.a182 (rfl) (hli) (by decide)) ?_
          refine h_st rfl rfl ?_
          refine h_st rfl (e_get h.2.1 rfl) ?_
          refine h_st rfl rfl ?_
          refine h_st rfl (q_ia h.a181 (rfl) (hli) (by decide)) ?_
          refine h_st rfl rfl ?_
          refine h_st rfl rfl ?_
          refine h_st rfl rfl ?_
          refine r_ias rfl h m188 (fun z => by cases z) (by decide) (rfl) (h16) (rfl) (fun σ2 h2 => ?_)
          replace h := h2
          clear h2
          refine h_st rfl rfl ?_
          refine h_st rfl (e_get h.2.1 rfl) ?_
          refine h_st rfl rfl ?_
          refine h_st rfl rfl ?_
          refine h_st rfl rfl ?_
          refine h_st rfl rfl ?_
          refine h_st rfl (e_get h.2.1 rfl) ?_
          refine h_st rfl rfl ?_
          refine h_st rfl (q_ia h.a188 (rfl) (h16) (by decide)) ?_
          refine r_ias rfl h m188 (fun z => by cases z) (by decide) (hin8) (h168) (rfl) (fun σ2 h2 => ?_)
          replace h := h2
          clear h2
          refine h_rv rfl ⟨_, rfl, 0, _, h, ⟨hP.1.up hso ⟨hm2, hmo⟩ 1, hP.2⟩, Or.inr ⟨hy0, li, hli, rfl, Or.inr ⟨hz, rfl, rfl, rfl, rfl, rfl, ⟨gn, rfl, hgn, rfl⟩, by rw [if_pos z2]; rfl, fun q z1 z2 => ?_⟩⟩⟩
          exact (fu_n (by omega)).trans ((fu_n (by omega)).trans ((fu_n (by omega)).trans ((fu_n (by omega)).trans ((fu_n (by omega)).trans ((fu_n (by omega)).trans ((fu_n (by omega)).trans ((fu_n (by omega)).trans ((fu_n (by omega)).trans (fu_n (by omega))))))))))
        · refine h_st rfl rfl ?_
          refine h_st rfl rfl ?_
          refine r_bas rfl h m179 (fun z => by cases z) (by decide) (rfl) (hli) ((rfl : vp_nar .boolean 1 = 1)) (fun σ2 h2 => ?_)
          replace h := h2
          clear h2
          refine h_st rfl rfl ?_
          refine h_st rfl (e_get h.2.1 rfl) ?_
          refine h_st rfl rfl ?_
          refine h_st rfl rfl ?_
          refine h_st rfl (e_get h.2.1 rfl) ?_
          refine h_st rfl rfl ?_
          refine h_st rfl (q_ia h.a182 (rfl) (hli) (by decide)) ?_
          refine h_st rfl rfl ?_
          refine h_st rfl (e_get h.2.1 rfl) ?_
          refine h_st rfl rfl ?_
          refine h_st rfl (q_ia h.a181 (rfl) (hli) (by decide)) ?_
          refine h_st rfl rfl ?_
          refine h_st rfl rfl ?_
          refine h_st rfl rfl ?_
          refine r_ias rfl h m188 (fun z => by cases z) (by decide) (rfl) (h16) (rfl) (fun σ2 h2 => ?_)
          replace h := h2
          clear h2
          refine h_st rfl rfl ?_
          refine h_st rfl (e_get h.2.1 rfl) ?_
          refine h_st rfl rfl ?_
          refine h_st rfl rfl ?_
          refine h_st rfl rfl ?_
          refine h_st rfl rfl ?_
          refine h_st rfl (e_get h.2.1 rfl) ?_
          refine h_st rfl rfl ?_
          refine h_st rfl (q_ia h.a188 (rfl) (h16) (by decide)) ?_
          refine r_ias rfl h m188 (fun z => by cases z) (by decide) (hin8) (h168) (rfl) (fun σ2 h2 => ?_)
          replace h := h2
          clear h2
          refine h_rv rfl ⟨_, rfl, 0, _, h, ⟨hP.1.up hso ⟨hm2, hmo⟩ 1, hP.2⟩, Or.inr ⟨hy0, li, hli, rfl, Or.inr ⟨hz, rfl, rfl, rfl, rfl, rfl, ⟨gn, rfl, hgn, rfl⟩, by rw [if_neg z2]; rfl, fun q z1 z2 => ?_⟩⟩⟩
          exact (fu_n (by omega)).trans ((fu_n (by omega)).trans ((fu_n (by omega)).trans ((fu_n (by omega)).trans ((fu_n (by omega)).trans ((fu_n (by omega)).trans ((fu_n (by omega)).trans ((fu_n (by omega)).trans ((fu_n (by omega)).trans (fu_n (by omega))))))))))
    · refine h_in rfl rfl (Nat.le_of_ble_eq_true rfl) ?_
      refine h_st rfl rfl ?_
      refine h_st rfl rfl ?_
      refine h_st rfl rfl ?_
      refine h_st rfl rfl ?_
      refine h_st rfl rfl ?_
      refine h_st rfl rfl ?_
      refine h_pc (if_neg (fun z9 => (y1) (of_decide_eq_true z9))) ?_
      refine h_st rfl rfl ?_
      refine h_st rfl rfl ?_
      refine h_st rfl rfl ?_
      refine h_pc (if_neg (fun z9 => (y2) (of_decide_eq_true z9))) ?_
      refine h_st rfl rfl ?_
      refine h_st rfl rfl ?_
      refine h_pc (if_neg (fun z9 => (y3) (of_decide_eq_true z9))) ?_
      refine h_st rfl rfl ?_
      refine h_st rfl rfl ?_
      refine h_st rfl rfl ?_
      refine h_pc (if_neg (fun z9 => (y4) (of_decide_eq_true z9))) ?_
      refine h_st rfl rfl ?_
      refine h_st rfl rfl ?_
      refine h_st rfl rfl ?_
      refine h_pc (if_neg (fun z9 => (y5) (of_decide_eq_true z9))) ?_
      refine h_st rfl rfl ?_
      refine h_st rfl rfl ?_
      refine h_st rfl rfl ?_
      refine h_pc (if_neg (fun z9 => (y6) (of_decide_eq_true z9))) ?_
      refine h_st rfl rfl ?_
      refine h_st rfl rfl ?_
      refine h_st rfl rfl ?_
      refine h_pc (if_neg (fun z9 => (y7) (of_decide_eq_true z9))) ?_
      refine h_st rfl rfl ?_
      refine h_st rfl rfl ?_
      refine h_st rfl rfl ?_
      refine h_pc (if_neg (fun z9 => (y8) (of_decide_eq_true z9))) ?_
      refine h_st rfl rfl ?_
      refine h_st rfl rfl ?_
      refine h_st rfl rfl ?_
      refine h_pc (if_neg (fun z9 => (fun z => y9 (i_01.mp z)) (of_decide_eq_true z9))) ?_
      refine h_st rfl rfl ?_
      refine h_st rfl rfl ?_
      refine h_st rfl rfl ?_
      refine h_pc (if_neg (fun z9 => (fun z => y10 (i_15.mp z)) (of_decide_eq_true z9))) ?_
      refine h_st rfl rfl ?_
      refine h_st rfl rfl ?_
      refine h_st rfl rfl ?_
      refine h_st rfl rfl ?_
      refine h_st rfl rfl ?_
      refine h_st rfl rfl ?_
      refine h_pc (if_neg (fun z9 => (y11) (of_decide_eq_true z9))) ?_
      refine h_st rfl rfl ?_
      refine h_st rfl rfl ?_
      refine h_st rfl rfl ?_
      refine h_pc (if_neg (fun z9 => (y12) (of_decide_eq_true z9))) ?_
      refine h_st rfl rfl ?_
      refine h_st rfl rfl ?_
      refine h_st rfl rfl ?_
      refine h_pc (if_neg (fun z9 => (y13) (of_decide_eq_true z9))) ?_
      refine h_st rfl rfl ?_
      refine h_st rfl rfl ?_
      refine h_st rfl rfl ?_
      refine h_st rfl rfl ?_
      refine h_st rfl rfl ?_
      refine h_st rfl rfl ?_
      refine h_pc (if_pos (by decide)) ?_
      refine h_st rfl rfl ?_
      refine h_st rfl (e_get h.2.1 rfl) ?_
      refine h_st rfl rfl ?_
      refine h_st rfl (q_ba h.a177 (rfl) (hli) (by decide)) ?_
      refine h_st rfl rfl ?_
      refine h_pc (if_neg (fun z9 => (hz) (of_decide_eq_true z9))) ?_
      refine h_st rfl rfl ?_
      refine h_st rfl rfl ?_
      refine r_put rfl h rfl (Nat.le_of_ble_eq_true rfl) rfl (fun σ2 h2 => ?_)
      replace h := h2
      clear h2
      refine h_st rfl rfl ?_
      refine h_st rfl (e_get h.2.1 rfl) ?_
      refine h_st rfl rfl ?_
      refine h_pc (if_neg (by decide)) ?_
      exact h_rv rfl (⟨_, rfl, 2, F, h, hP, Or.inr ⟨hy0, li, hli, rfl, Or.inl ⟨hz, rfl, rfl⟩⟩⟩)
  · refine h_in rfl rfl (Nat.le_of_ble_eq_true rfl) ?_
    refine h_st rfl rfl ?_
    refine h_st rfl rfl ?_
    refine h_st rfl rfl ?_
    refine h_st rfl rfl ?_
    refine h_st rfl rfl ?_
    refine h_st rfl rfl ?_
    refine h_br (fun q1 => ?_) (fun q1 => ?_)
    · exact r_97xt h hP hy
    · refine h_st rfl rfl ?_
      refine h_st rfl rfl ?_
      refine h_st rfl rfl ?_
      refine h_br (fun q2 => ?_) (fun q2 => ?_)
      · exact r_97xt h hP hy
      · refine h_st rfl rfl ?_
        refine h_st rfl rfl ?_
        refine h_br (fun q3 => ?_) (fun q3 => ?_)
        · exact r_97xt h hP hy
        · refine h_st rfl rfl ?_
          refine h_st rfl rfl ?_
          refine h_st rfl rfl ?_
          refine h_br (fun q4 => ?_) (fun q4 => ?_)
          · exact r_97xt h hP hy
          · refine h_st rfl rfl ?_
            refine h_st rfl rfl ?_
            refine h_st rfl rfl ?_
            refine h_br (fun q5 => ?_) (fun q5 => ?_)
            · exact r_97xt h hP hy
            · refine h_st rfl rfl ?_
              refine h_st rfl rfl ?_
              refine h_st rfl rfl ?_
              refine h_br (fun q6 => ?_) (fun q6 => ?_)
              · exact r_97xt h hP hy
              · refine h_st rfl rfl ?_
                refine h_st rfl rfl ?_
                refine h_st rfl rfl ?_
                refine h_br (fun q7 => ?_) (fun q7 => ?_)
                · exact r_97xt h hP hy
                · refine h_st rfl rfl ?_
                  refine h_st rfl rfl ?_
                  refine h_st rfl rfl ?_
                  refine h_br (fun q8 => ?_) (fun q8 => ?_)
                  · exact r_97xt h hP hy
                  · refine h_st rfl rfl ?_
                    refine h_st rfl rfl ?_
                    refine h_st rfl rfl ?_
                    refine h_br (fun q9 => ?_) (fun q9 => ?_)
                    · exact r_97xt h hP hy
                    · refine h_st rfl rfl ?_
                      refine h_st rfl rfl ?_
                      refine h_st rfl rfl ?_
                      refine h_br (fun q10 => ?_) (fun q10 => ?_)
                      · exact r_97xt h hP hy
                      · refine h_st rfl rfl ?_
                        refine h_st rfl rfl ?_
                        refine h_st rfl rfl ?_
                        refine h_st rfl rfl ?_
                        refine h_st rfl rfl ?_
                        refine h_st rfl rfl ?_
                        refine h_br (fun q11 => ?_) (fun q11 => ?_)
                        · exact r_97xt h hP hy
                        · refine h_st rfl rfl ?_
                          refine h_st rfl rfl ?_
                          refine h_st rfl rfl ?_
                          refine h_br (fun q12 => ?_) (fun q12 => ?_)
                          · exact r_97xt h hP hy
                          · refine h_st rfl rfl ?_
                            refine h_st rfl rfl ?_
                            refine h_st rfl rfl ?_
                            refine h_pc (if_pos (decide_eq_true (Classical.byContradiction (fun z => hy ⟨q1, q2, q3, q4, q5, q6, q7, q8, ⟨fun z => q9 (i_01.mpr z), fun z => q10 (i_15.mpr z), q11⟩, q12, z⟩)))) ?_
                            exact r_97xt h hP hy
theorem r_98x {σ0 : ae_S} {F : Nat → Nat → Int32} {c u g : Int32} (h : RS false σ0 F σ c u g F) (hP : RP F g [] []) {x1 x2 x3 : Int32} {x6 x7 : Option Value} : hG ra (d + 1) 98 σ [some (.ref 176), some (.int x1), some (.int x2), some (.int x3), some (.int 0), some (.int 0), x6, x7] [] 33 (pI (fun σ' v => ∃ c' F', RS false σ0 F σ' c' u g F' ∧ RP F' g [] [] ∧ ∀ q, q < 186 → F' q = F q)) := by
  refine h_st rfl rfl ?_
  refine h_st rfl rfl ?_
  refine h_pc (if_pos (by decide)) ?_
  refine h_st rfl rfl ?_
  refine h_st rfl rfl ?_
  refine h_st rfl rfl ?_
  refine h_pc (if_pos (by decide)) ?_
  refine h_st rfl rfl ?_
  refine h_st rfl rfl ?_
  refine r_put rfl h rfl (Nat.le_of_ble_eq_true rfl) rfl (fun σ2 h2 => ?_)
  replace h := h2
  clear h2
  refine h_st rfl rfl ?_
  refine h_st rfl (e_get h.2.1 rfl) ?_
  refine h_st rfl rfl ?_
  refine h_pc (if_neg (by decide)) ?_
  refine h_st rfl rfl ?_
  exact h_rt rfl rfl (⟨_, _, rfl, 1, F, h, hP, fun _ _ => rfl⟩)
theorem r_98n {σ0 : ae_S} {Fx : Nat → Nat → Int32} {c u g : Int32} {l k sz n wn : Nat} {x3 : Int32} (hl : l < 8) (hi : Fx 177 l ≠ 0) (hk : Fx 182 l = nI k) (hk1 : 64 ≤ k ∧ k ≤ 128) (hw : wn + n ≤ 8) : ∀ (m j : Nat) (σ : ae_S) (F : Nat → Nat → Int32) (x7 : Option Value), j + m = n → RS false σ0 Fx σ c u g F → RP F g [] [] → (∀ q, q < 186 → F q = Fx q) → F 189 l = nI (wn + j) → hG ra (d + 1) 98 σ [some (.ref 176), some (.int (nI l)), some (.int (nI sz)), some (.int x3), some (.int 1), some (.int (nI n)), some (.int (nI j)), x7] [] 127 (pI (fun σ' v => ∃ c' F', RS false σ0 Fx σ' c' u g F' ∧ RP F' g [] [] ∧ ∀ q, q < 186 → F' q = Fx q)) := by
  intro m
  induction m with
  | zero =>
    intro j σ F x7 hj h hP hag h9
    have hj : j = n := by omega
    subst hj
    refine h_st rfl rfl ?_
    refine h_st rfl rfl ?_
    refine h_st rfl rfl ?_
    refine h_pc (if_pos (decide_eq_true (nI_le (Nat.le_refl _) (by omega)))) ?_
    refine h_st rfl rfl ?_
    refine h_st rfl (e_get h.2.1 rfl) ?_
    refine h_st rfl rfl ?_
    refine h_st rfl rfl ?_
    refine h_st rfl (e_get h.2.1 rfl) ?_
    refine h_st rfl rfl ?_
    refine h_st rfl (q_ia h.a186 (rfl) (hl) (by decide)) ?_
    refine h_st rfl rfl ?_
    refine h_st rfl rfl ?_
    refine h_st rfl rfl ?_
    refine h_st rfl (e_dv (by decide)) ?_
    refine r_ias rfl h m186 (fun z => by cases z) (by decide) (rfl) (hl) (rfl) (fun σ2 h2 => ?_)
    replace h := h2
    clear h2
    refine h_st rfl rfl ?_
    exact h_rt rfl rfl (⟨_, _, rfl, c, _, h, hP.fo (by decide), fun q hq => (fu_n (by omega)).trans (hag q hq)⟩)
  | succ m ih =>
    intro j σ F x7 hj h hP hag h9
    have ih1 := fun σ F x7 => ih (j + 1) σ F x7 (by omega)
    simp only [← nI_1] at ih1
    have ea : (8 : Int32) * nI l + nI (wn + j) = nI (8 * l + (wn + j)) := by rw [ix8, nI_add]
    have hin : 8 * l + (wn + j) < 64 := by omega
    have hk' : F 182 l = nI k := (congrFun (hag 182 (by decide)) l).trans hk
    refine h_st rfl rfl ?_
    refine h_st rfl rfl ?_
    refine h_st rfl rfl ?_
    refine h_pc (if_neg (fun z9 => (nI_ge (show j < n by omega) (by omega)) (of_decide_eq_true z9))) ?_
    refine h_st rfl rfl ?_
    refine h_st rfl rfl ?_
    refine h_st rfl rfl ?_
    refine h_st rfl rfl ?_
    refine h_st rfl (e_get h.2.1 rfl) ?_
    refine h_st rfl rfl ?_
    refine h_st rfl (q_iaE h.a189 (rfl) (hl) (by decide) (h9)) ?_
    refine h_st rfl rfl ?_
    refine h_st rfl rfl ?_
    refine h_st rfl rfl ?_
    refine h_st rfl (e_get h.2.1 rfl) ?_
    refine h_st rfl rfl ?_
    refine h_st rfl rfl ?_
    refine r_ias rfl h m190 (fun z => by cases z) (by decide) (ea) (hin) (rfl) (fun σ2 h2 => ?_)
    replace h := h2
    clear h2
    refine h_st rfl rfl ?_
    refine h_st rfl (e_get h.2.1 rfl) ?_
    refine h_st rfl rfl ?_
    refine h_st rfl rfl ?_
    refine r_ias rfl h m191 (fun z => by cases z) (by decide) (ea) (hin) (rfl) (fun σ2 h2 => ?_)
    replace h := h2
    clear h2
    refine h_st rfl rfl ?_
    refine h_st rfl (e_get h.2.1 rfl) ?_
    refine h_st rfl rfl ?_
    refine h_st rfl rfl ?_
    refine h_st rfl (e_get h.2.1 rfl) ?_
    refine h_st rfl rfl ?_
    refine h_st rfl (q_ia h.a186 (rfl) (hl) (by decide)) ?_
    refine r_ias rfl h m192 (fun z => by cases z) (by decide) (ea) (hin) (rfl) (fun σ2 h2 => ?_)
    replace h := h2
    clear h2
    refine h_st rfl rfl ?_
    refine h_st rfl (e_get h.2.1 rfl) ?_
    refine h_st rfl rfl ?_
    refine h_st rfl rfl ?_
    refine h_st rfl rfl ?_
    refine h_st rfl rfl ?_
    refine h_ci2 rfl (Nat.le_of_ble_eq_true rfl) (e_rcv h.2.1) rfl (r_100 h rfl hl hk' hk1) (fun σ' y9 hq => ?_)
    obtain ⟨hss, rfl⟩ := hq
    replace hss := hss.symm
    subst hss
    refine h_st rfl rfl ?_
    refine r_ias rfl h m193 (fun z => by cases z) (by decide) (ea) (hin) (rfl) (fun σ2 h2 => ?_)
    replace h := h2
    clear h2
    refine h_st rfl rfl ?_
    refine h_st rfl (e_get h.2.1 rfl) ?_
    refine h_st rfl rfl ?_
    refine h_st rfl rfl ?_
    refine h_st rfl (q_ia h.a189 (rfl) (hl) (by decide)) ?_
    refine h_st rfl rfl ?_
    refine h_st rfl rfl ?_
    refine r_ias rfl h m189 (fun z => by cases z) (by decide) (rfl) (hl) (show F 189 l + 1 = nI (wn + (j + 1)) from by rw [h9, nI_1]; rfl) (fun σ2 h2 => ?_)
    replace h := h2
    clear h2
    have hw2 := hP.2.1.up (k := l) (x := nI (wn + (j + 1))) ⟨wn + (j + 1), by omega, rfl⟩
    refine h_st rfl rfl ?_
    refine h_st rfl rfl ?_
    exact ih1 _ _ _ h (((((hP.fo (by decide)).fo (by decide)).fo (by decide)).fo (by decide)).w9 hw2) (fun q hq => (fu_n (by omega)).trans ((fu_n (by omega)).trans ((fu_n (by omega)).trans ((fu_n (by omega)).trans ((fu_n (by omega)).trans (hag q hq)))))) pk_us
theorem r_98g {σ0 : ae_S} {F : Nat → Nat → Int32} {c u g : Int32} (h : RS false σ0 F σ c u g F) (hP : RP F g [] []) {l k sz : Nat} {x3 : Int32} (hl : l < 8) (hi : F 177 l ≠ 0) (hk : F 182 l = nI k) (hk1 : 64 ≤ k ∧ k ≤ 128) (hsz : 1 ≤ sz ∧ sz ≤ 400) {n : Nat} {x6 x7 : Option Value} (hn : n ≤ 17) : hG ra (d + 1) 98 σ [some (.ref 176), some (.int (nI l)), some (.int (nI sz)), some (.int x3), some (.int 1), some (.int (nI n)), x6, x7] [] 63 (pI (fun σ' v => ∃ c' F', RS false σ0 F σ' c' u g F' ∧ RP F' g [] [] ∧ ∀ q, q < 186 → F' q = F q)) := by
  obtain ⟨wn, hwn, ewn⟩ := hP.2.1 l hl
  have hgo : n ≤ 8 → hG ra (d + 1) 98 σ [some (.ref 176), some (.int (nI l)), some (.int (nI sz)), some (.int x3), some (.int 1), some (.int (nI n)), x6, x7] [.ref 176] 93 (pI (fun σ' v => ∃ c' F', RS false σ0 F σ' c' u g F' ∧ RP F' g [] [] ∧ ∀ q, q < 186 → F' q = F q)) := by
    intro hn8
    refine h_st rfl rfl ?_
    refine h_st rfl (e_get h.2.1 rfl) ?_
    refine h_st rfl rfl ?_
    refine h_st rfl (q_iaE h.a189 (rfl) (hl) (by decide) (ewn)) ?_
    refine h_st rfl rfl ?_
    refine h_st rfl rfl ?_
    refine h_st rfl rfl ?_
    refine h_st rfl rfl ?_
    refine h_br (fun q => ?_) (fun q => ?_)
    · refine h_st rfl rfl ?_
      refine r_put rfl h rfl (Nat.le_of_ble_eq_true rfl) rfl (fun σ2 h2 => ?_)
      replace h := h2
      clear h2
      refine h_st rfl rfl ?_
      refine h_st rfl (e_get h.2.1 rfl) ?_
      refine h_st rfl rfl ?_
      refine h_pc (if_pos (by decide)) ?_
      refine h_st rfl rfl ?_
      refine h_st rfl rfl ?_
      have hw8 : wn + n ≤ 8 := (nI_leI (by omega) (by decide)).mp (show nI (wn + n) ≤ nI 8 from by rw [← nI_add]; exact q)
      exact r_98n hl hi hk hk1 hw8 n 0 _ _ _ (Nat.zero_add _) h hP (fun _ _ => rfl) ewn
    · refine h_st rfl rfl ?_
      refine h_st rfl rfl ?_
      refine r_put rfl h rfl (Nat.le_of_ble_eq_true rfl) rfl (fun σ2 h2 => ?_)
      replace h := h2
      clear h2
      refine h_st rfl rfl ?_
      refine h_st rfl (e_get h.2.1 rfl) ?_
      refine h_st rfl rfl ?_
      refine h_pc (if_neg (by decide)) ?_
      refine h_st rfl rfl ?_
      exact h_rt rfl rfl (⟨_, _, rfl, 2, F, h, hP, fun _ _ => rfl⟩)
  refine h_st rfl rfl ?_
  refine h_st rfl rfl ?_
  refine h_st rfl rfl ?_
  refine h_pc (if_neg (by decide)) ?_
  refine h_st rfl rfl ?_
  refine h_st rfl rfl ?_
  refine h_st rfl (e_get h.2.1 rfl) ?_
  refine h_st rfl rfl ?_
  refine h_st rfl (q_ba h.a179 (rfl) (hl) (by decide)) ?_
  refine h_st rfl rfl ?_
  refine h_br (fun _ => ?_) (fun _ => ?_)
  · refine h_st rfl rfl ?_
    refine h_st rfl rfl ?_
    refine h_br (fun q => hgo (by have := (nI_leI (a := n) (b := 1) (by omega) (by decide)).mp q; omega)) (fun q => ?_)
    refine h_st rfl rfl ?_
    refine h_st rfl rfl ?_
    refine r_put rfl h rfl (Nat.le_of_ble_eq_true rfl) rfl (fun σ2 h2 => ?_)
    replace h := h2
    clear h2
    refine h_st rfl rfl ?_
    refine h_st rfl (e_get h.2.1 rfl) ?_
    refine h_st rfl rfl ?_
    refine h_pc (if_neg (by decide)) ?_
    refine h_st rfl rfl ?_
    exact h_rt rfl rfl (⟨_, _, rfl, 1, F, h, hP, fun _ _ => rfl⟩)
  · refine h_st rfl rfl ?_
    refine h_st rfl rfl ?_
    refine h_st rfl rfl ?_
    refine h_br (fun q => hgo (by have := (nI_leI (a := n) (b := 8) (by omega) (by decide)).mp q; omega)) (fun q => ?_)
    refine h_st rfl rfl ?_
    refine h_st rfl rfl ?_
    refine r_put rfl h rfl (Nat.le_of_ble_eq_true rfl) rfl (fun σ2 h2 => ?_)
    replace h := h2
    clear h2
    refine h_st rfl rfl ?_
    refine h_st rfl (e_get h.2.1 rfl) ?_
    refine h_st rfl rfl ?_
    refine h_pc (if_neg (by decide)) ?_
    refine h_st rfl rfl ?_
    exact h_rt rfl rfl (⟨_, _, rfl, 1, F, h, hP, fun _ _ => rfl⟩)
theorem r_98l {σ0 : ae_S} {F : Nat → Nat → Int32} {c u g : Int32} (h : RS false σ0 F σ c u g F) (hP : RP F g [] []) {l k sz : Nat} {x3 : Int32} (hl : l < 8) (hi : F 177 l ≠ 0) (hk : F 182 l = nI k) (hk1 : 64 ≤ k ∧ k ≤ 128) (hsz : 1 ≤ sz ∧ sz ≤ 400) {x7 : Option Value} : ∀ (m n : Nat), n + m = 17 → hG ra (d + 1) 98 σ [some (.ref 176), some (.int (nI l)), some (.int (nI sz)), some (.int x3), some (.int 1), some (.int (nI n)), some (.int (nI ((if F 179 l = 0 then k - 39 else (k - 39) / 8 * 8) * n))), x7] [] 33 (pI (fun σ' v => ∃ c' F', RS false σ0 F σ' c' u g F' ∧ RP F' g [] [] ∧ ∀ q, q < 186 → F' q = F q)) := by
  have hp24 : 24 ≤ (if F 179 l = 0 then k - 39 else (k - 39) / 8 * 8) := by split <;> omega
  have hp89 : (if F 179 l = 0 then k - 39 else (k - 39) / 8 * 8) ≤ 89 := by split <;> omega
  generalize hpc : (if F 179 l = 0 then k - 39 else (k - 39) / 8 * 8) = pc at hp24 hp89
  have e8 : nI sz + 8 = nI (sz + 8) := by rw [show (8 : Int32) = nI 8 from rfl, nI_add]
  intro m
  induction m with
  | zero =>
    intro n hn
    have hn : n = 17 := by omega
    subst hn
    refine h_st rfl rfl ?_
    refine h_st rfl rfl ?_
    refine h_pc (if_neg (by decide)) ?_
    refine h_st rfl rfl ?_
    refine h_st rfl rfl ?_
    refine h_st rfl rfl ?_
    refine h_st rfl rfl ?_
    refine h_st rfl rfl ?_
    refine h_pc (if_pos (decide_eq_true (show nI sz + 8 ≤ nI (pc * 17) from by rw [e8]; exact nI_le (by omega) (by omega)))) ?_
    exact r_98g h hP hl hi hk hk1 hsz (Nat.le_refl _)
  | succ m ih =>
    intro n hn
    have hb : pc * n ≤ 89 * 17 := Nat.mul_le_mul hp89 (by omega)
    have ih1 := ih (n + 1) (by omega)
    have en : nI (pc * n) + nI pc = nI (pc * (n + 1)) := by rw [nI_add, Nat.mul_succ]
    simp only [← en, ← nI_1] at ih1
    refine h_st rfl rfl ?_
    refine h_st rfl rfl ?_
    refine h_pc (if_neg (by decide)) ?_
    refine h_st rfl rfl ?_
    refine h_st rfl rfl ?_
    refine h_st rfl rfl ?_
    refine h_st rfl rfl ?_
    refine h_st rfl rfl ?_
    refine h_br (fun _ => r_98g h hP hl hi hk hk1 hsz (by omega)) (fun q => ?_)
    refine h_st rfl rfl ?_
    refine h_st rfl rfl ?_
    refine h_st rfl rfl ?_
    refine h_st rfl rfl ?_
    refine h_ci2 rfl (Nat.le_of_ble_eq_true rfl) (e_rcv h.2.1) rfl (r_100 h rfl hl hk hk1) (fun σ' y9 hq => ?_)
    obtain ⟨hss, hv9⟩ := hq
    replace hss := hss.symm
    subst hss
    rw [hpc] at hv9
    subst hv9
    refine h_st rfl rfl ?_
    refine h_st rfl rfl ?_
    refine h_st rfl rfl ?_
    exact ih1
theorem r_98t {b : Bool} {σ0 : ae_S} {F0 F : Nat → Nat → Int32} {c u g : Int32} (h : RS b σ0 F0 σ c u g F) (hP : RP F g [] []) (x1 x2 x3 : Int32) : hE ra (d + 2) 98 [.ref 176, .int x1, .int x2, .int x3] σ (pI (fun σ' v => ∃ c' F', RS false σ0 F σ' c' u g F' ∧ RP F' g [] [] ∧ ∀ q, q < 186 → F' q = F q)) := by
  have hfl : RS false σ0 F σ c u g F := h.fls
  replace h := hfl
  clear hfl
  refine h_in rfl rfl (Nat.le_of_ble_eq_true rfl) ?_
  refine h_st rfl rfl ?_
  refine h_st rfl rfl ?_
  refine h_ci2 rfl (Nat.le_of_ble_eq_true rfl) (e_rcv h.2.1) rfl (r_99t h _) (fun σ' y9 hq => ?_)
  obtain ⟨hss, hv⟩ := hq
  replace hss := hss.symm
  subst hss
  rcases hv with ⟨rfl, hv⟩ | ⟨rfl, l, hl, rfl, hil⟩
  · refine h_st rfl rfl ?_
    refine h_pc (if_pos (by decide)) ?_
    refine h_st rfl rfl ?_
    refine h_st rfl rfl ?_
    refine h_st rfl rfl ?_
    refine h_st rfl rfl ?_
    refine h_st rfl rfl ?_
    refine h_st rfl rfl ?_
    exact r_98x h hP
  · refine h_st rfl rfl ?_
    refine h_pc (if_neg (by decide)) ?_
    refine h_st rfl rfl ?_
    refine h_st rfl rfl ?_
    refine h_st rfl rfl ?_
    refine h_br (fun q1 => ?_) (fun q1 => ?_)
    · refine h_st rfl rfl ?_
      refine h_st rfl rfl ?_
      refine h_st rfl rfl ?_
      refine h_st rfl rfl ?_
      refine h_st rfl rfl ?_
      refine h_st rfl rfl ?_
      exact r_98x h hP
    · refine h_st rfl rfl ?_
      refine h_st rfl rfl ?_
      refine h_st rfl rfl ?_
      refine h_br (fun q2 => ?_) (fun q2 => ?_)
      · refine h_st rfl rfl ?_
        refine h_st rfl rfl ?_
        refine h_st rfl rfl ?_
        refine h_st rfl rfl ?_
        refine h_st rfl rfl ?_
        refine h_st rfl rfl ?_
        exact r_98x h hP
      · refine h_st rfl rfl ?_
        refine h_st rfl rfl ?_
        refine h_st rfl rfl ?_
        refine h_st rfl rfl ?_
        refine h_st rfl rfl ?_
        refine h_st rfl rfl ?_
        refine h_st rfl rfl ?_
        obtain ⟨sz, hsz, rfl⟩ := nI_of2 (x := x2) (M := 400) (n := 400) (by decide) (fun z => q1 (Int32.lt_trans z (by decide))) (Int32.not_lt.mp q2)
        have hs1 : 1 ≤ sz := Nat.le_of_not_lt (fun z => q1 ((nI_ltI (b := 1) (by omega) (by decide)).mpr z))
        obtain ⟨k, hk1, hk2, hk⟩ := hP.1.2 l hl hil
        exact r_98l h hP hl hil hk ⟨hk1, hk2⟩ ⟨hs1, hsz⟩ 17 0 rfl
theorem r_130i {b : Bool} {σ0 : ae_S} {F0 F : Nat → Nat → Int32} {u g : Int32} {k m i : Nat} {x1 x2 : Int32} (hk : k < 32) (hm : m ≤ 3) (hi : i < m) {P : ae_S × ae_O → Prop} (hx : ∀ σ fb, RS b σ0 F0 σ 0 u g (fu F 211 fb) → hG ra (d + 2) 130 σ [some (.ref 176), some (.int x1), some (.int x2), some (.int (nI k)), some (.int (nI i)), some (.int (nI 1000))] [] 223 P) : ∀ (m' j : Nat) (σ : ae_S) (fb : Nat → Int32), j + m' = 1000 → RS b σ0 F0 σ 0 u g (fu F 211 fb) → hG ra (d + 2) 130 σ [some (.ref 176), some (.int x1), some (.int x2), some (.int (nI k)), some (.int (nI i)), some (.int (nI j))] [] 165 P := by
  intro m'
  induction m' with
  | zero =>
    intro j σ fb hj h
    have hj : j = 1000 := by omega
    subst hj
    refine h_st rfl rfl ?_
    refine h_st rfl rfl ?_
    refine h_st rfl rfl ?_
    refine h_pc (if_pos (decide_eq_true (nI_le (Nat.le_refl 1000) (by decide)))) ?_
    exact hx _ _ h
  | succ m' ih =>
    intro j σ fb hj h
    have ih1 := fun σ fb => ih (j + 1) σ fb (by omega)
    simp only [← nI_1] at ih1
    have e1 : (4000 : Int32) * nI k + 1000 * nI i + nI j = nI (4000 * k + 1000 * i + j) := by rw [show (4000 : Int32) = nI 4000 from rfl, show (1000 : Int32) = nI 1000 from rfl, pk_mul, pk_mul, nI_add, nI_add]
    have e2 : (4000 : Int32) * nI k + 1000 * nI i + 1000 + nI j = nI (4000 * k + 1000 * i + 1000 + j) := by rw [show (4000 : Int32) = nI 4000 from rfl, show (1000 : Int32) = nI 1000 from rfl, pk_mul, pk_mul, nI_add, nI_add, nI_add]
    refine h_st rfl rfl ?_
    refine h_st rfl rfl ?_
    refine h_st rfl rfl ?_
    refine h_pc (if_neg (fun z9 => (nI_ge (show j < 1000 by omega) (by decide)) (of_decide_eq_true z9))) ?_
    refine h_st rfl rfl ?_
    refine h_st rfl (e_get h.2.1 rfl) ?_
    refine h_st rfl rfl ?_
    refine h_st rfl rfl ?_
    refine h_st rfl rfl ?_
    refine h_st rfl rfl ?_
    refine h_st rfl rfl ?_
    refine h_st rfl rfl ?_
    refine h_st rfl rfl ?_
    refine h_st rfl rfl ?_
    refine h_st rfl rfl ?_
    refine h_st rfl rfl ?_
    refine h_st rfl (e_get h.2.1 rfl) ?_
    refine h_st rfl rfl ?_
    refine h_st rfl rfl ?_
    refine h_st rfl rfl ?_
    refine h_st rfl rfl ?_
    refine h_st rfl rfl ?_
    refine h_st rfl rfl ?_
    refine h_st rfl rfl ?_
    refine h_st rfl rfl ?_
    refine h_st rfl rfl ?_
    refine h_st rfl rfl ?_
    refine h_st rfl rfl ?_
    refine h_st rfl (q_ia h.a211 (e2) (by omega) (by decide)) ?_
    refine r_ias rfl h m211 (fun _ => by decide) (by decide) (e1) (by omega) (rfl) (fun σ2 h2 => ?_)
    replace h := h2
    clear h2
    rw [fu_fu] at h
    refine h_st rfl rfl ?_
    refine h_st rfl rfl ?_
    exact ih1 _ _ h
theorem r_130m {b : Bool} {σ0 : ae_S} {F0 Fx : Nat → Nat → Int32} {u g : Int32} {k m : Nat} {x1 x2 : Int32} (hk : k < 32) (hm : m ≤ 3) : ∀ (m' i : Nat) (σ : ae_S) (F : Nat → Nat → Int32) (x5 : Option Value), i + m' = m → RS b σ0 F0 σ 0 u g F → RP F g [] [] → F 209 k = nI m → (∀ q, q < 209 → F q = Fx q) → hG ra (d + 2) 130 σ [some (.ref 176), some (.int x1), some (.int x2), some (.int (nI k)), some (.int (nI i)), x5] [] 127 (pI (fun σ' v => ∃ c' g' F', RS b σ0 F0 σ' c' u g' F' ∧ RP F' g' [] [] ∧ ∀ q, q < 209 → F' q = Fx q)) := by
  intro m'
  induction m' with
  | zero =>
    intro i σ F x5 hi h hP h9 hag
    have hi : i = m := by omega
    subst hi
    refine h_st rfl rfl ?_
    refine h_st rfl rfl ?_
    refine h_st rfl (e_get h.2.1 rfl) ?_
    refine h_st rfl rfl ?_
    refine h_st rfl (q_iaE h.a209 (rfl) (hk) (by decide) (h9)) ?_
    refine h_st rfl rfl ?_
    refine h_pc (if_pos (decide_eq_true (nI_le (Nat.le_refl _) (by omega)))) ?_
    refine h_st rfl rfl ?_
    refine h_st rfl (e_get h.2.1 rfl) ?_
    exact h_rt rfl rfl (⟨_, _, rfl, 0, g, F, h, hP, hag⟩)
  | succ m' ih =>
    intro i σ F x5 hi h hP h9 hag
    have ih1 := fun σ F x5 => ih (i + 1) σ F x5 (by omega)
    simp only [← nI_1] at ih1
    have e1 : (4 : Int32) * nI k + nI i = nI (4 * k + i) := by rw [show (4 : Int32) = nI 4 from rfl, pk_mul, nI_add]
    have e2 : (4 : Int32) * nI k + nI i + 1 = nI (4 * k + i + 1) := by rw [e1, nI_1]
    refine h_st rfl rfl ?_
    refine h_st rfl rfl ?_
    refine h_st rfl (e_get h.2.1 rfl) ?_
    refine h_st rfl rfl ?_
    refine h_st rfl (q_iaE h.a209 (rfl) (hk) (by decide) (h9)) ?_
    refine h_st rfl rfl ?_
    refine h_pc (if_neg (fun z9 => (nI_ge (show i < m by omega) (by omega)) (of_decide_eq_true z9))) ?_
    refine h_st rfl rfl ?_
    refine h_st rfl (e_get h.2.1 rfl) ?_
    refine h_st rfl rfl ?_
    refine h_st rfl rfl ?_
    refine h_st rfl rfl ?_
    refine h_st rfl rfl ?_
    refine h_st rfl rfl ?_
    refine h_st rfl rfl ?_
    refine h_st rfl (e_get h.2.1 rfl) ?_
    refine h_st rfl rfl ?_
    refine h_st rfl rfl ?_
    refine h_st rfl rfl ?_
    refine h_st rfl rfl ?_
    refine h_st rfl rfl ?_
    refine h_st rfl rfl ?_
    refine h_st rfl rfl ?_
    refine h_st rfl (q_ia h.a210 (e2) (by omega) (by decide)) ?_
    refine r_ias rfl h m210 (fun _ => by decide) (by decide) (e1) (by omega) (rfl) (fun σ2 h2 => ?_)
    replace h := h2
    clear h2
    replace hP := hP.u10 (k := 4 * k + i) (hP.2.2.2.2.2.1.2.2.2 (4 * k + i + 1) (by omega))
    rw [← fu_self (fu F 210 (upd (F 210) (4 * k + i) (F 210 (4 * k + i + 1)))) 211] at h
    refine h_st rfl rfl ?_
    refine h_st rfl rfl ?_
    refine r_130i (m := m) hk hm (by omega) (fun σ9 fb h => ?_) 1000 0 _ _ rfl h
    refine h_st rfl rfl ?_
    refine h_st rfl rfl ?_
    exact ih1 _ _ _ h (hP.fo (by decide)) h9 (fun q hq => (fu_n (by omega)).trans ((fu_n (by omega)).trans (hag q hq)))
theorem r_130g {b : Bool} {σ0 : ae_S} {F0 F : Nat → Nat → Int32} {u : Int32} {k l gs : Nat} {x1 x2 : Int32} (hk : k < 32) (el : x2 = nI l) (hl : l < 8) (hgs : gs ≤ 992) (hP : RP F (nI gs) [] []) (hm0 : F 209 k ≠ 0) : ∀ (m' i : Nat) (σ : ae_S) (fb : Nat → Int32) (x5 : Option Value), i + m' = gs → RS b σ0 F0 σ 0 u (nI gs) (fu F 214 fb) → hG ra (d + 2) 130 σ [some (.ref 176), some (.int x1), some (.int x2), some (.int (nI k)), some (.int (nI i)), x5] [] 65 (pI (fun σ' v => ∃ c' g' F', RS b σ0 F0 σ' c' u g' F' ∧ RP F' g' [] [] ∧ ∀ q, q < 209 → F' q = F q)) := by
  intro m'
  induction m' with
  | zero =>
    intro i σ fb x5 hi h
    have hi : i = gs := by omega
    subst hi
    obtain ⟨mq, hmq, emq⟩ := hP.2.2.2.2.2.1.2.2.1 k hk
    obtain ⟨m9, rfl⟩ : ∃ m9, mq = m9 + 1 := ⟨mq - 1, by cases mq with | zero => exact absurd emq hm0 | succ m => rfl⟩
    have hP2 := RP.fo (p := 214) (f := fb) hP (by decide)
    refine h_st rfl rfl ?_
    refine h_st rfl rfl ?_
    refine h_st rfl (e_get h.2.1 rfl) ?_
    refine h_st rfl rfl ?_
    refine h_pc (if_pos (decide_eq_true (nI_le (Nat.le_refl _) (by omega)))) ?_
    refine h_st rfl rfl ?_
    refine h_st rfl (e_get h.2.1 rfl) ?_
    refine h_st rfl rfl ?_
    refine h_st rfl (q_ba h.a179 (el) (hl) (by decide)) ?_
    refine h_st rfl rfl ?_
    refine h_br (fun q1 => ?_) (fun q1 => ?_)
    · refine h_st rfl rfl ?_
      refine h_st rfl (e_get h.2.1 rfl) ?_
      refine h_st rfl rfl ?_
      refine h_st rfl rfl ?_
      refine h_st rfl (q_ia h.a209 (rfl) (hk) (by decide)) ?_
      refine h_st rfl rfl ?_
      refine h_st rfl rfl ?_
      refine r_ias rfl h m209 (fun _ => by decide) (by decide) (rfl) (hk) (show F 209 k - 1 = nI m9 from by rw [emq]; exact nI_pred m9) (fun σ2 h2 => ?_)
      replace h := h2
      clear h2
      replace hP2 := hP2.u9 (k := k) (x := nI m9) ⟨m9, by omega, rfl⟩
      refine h_st rfl rfl ?_
      refine h_st rfl rfl ?_
      exact r_130m (Fx := F) hk (by omega) m9 0 _ _ _ (Nat.zero_add _) h hP2 pk_us (fun q hq => (fu_n (by omega)).trans (fu_n (by omega)))
    · refine h_st rfl rfl ?_
      refine h_st rfl (e_get h.2.1 rfl) ?_
      exact h_rt rfl rfl (⟨_, _, rfl, 0, _, _, h, hP2, fun q hq => fu_n (by omega)⟩)
  | succ m' ih =>
    intro i σ fb x5 hi h
    have ih1 := fun σ fb x5 => ih (i + 1) σ fb x5 (by omega)
    simp only [← nI_1] at ih1
    have e1 : (4000 : Int32) * nI k + nI i = nI (4000 * k + i) := by rw [show (4000 : Int32) = nI 4000 from rfl, pk_mul, nI_add]
    refine h_st rfl rfl ?_
    refine h_st rfl rfl ?_
    refine h_st rfl (e_get h.2.1 rfl) ?_
    refine h_st rfl rfl ?_
    refine h_pc (if_neg (fun z9 => (nI_ge (show i < gs by omega) (by omega)) (of_decide_eq_true z9))) ?_
    refine h_st rfl rfl ?_
    refine h_st rfl (e_get h.2.1 rfl) ?_
    refine h_st rfl rfl ?_
    refine h_st rfl rfl ?_
    refine h_st rfl (e_get h.2.1 rfl) ?_
    refine h_st rfl rfl ?_
    refine h_st rfl rfl ?_
    refine h_st rfl rfl ?_
    refine h_st rfl rfl ?_
    refine h_st rfl rfl ?_
    refine h_st rfl (q_ia h.a211 (e1) (by omega) (by decide)) ?_
    refine r_ias rfl h m214 (fun _ => by decide) (by decide) (rfl) (by omega) (rfl) (fun σ2 h2 => ?_)
    replace h := h2
    clear h2
    rw [fu_fu] at h
    refine h_st rfl rfl ?_
    refine h_st rfl rfl ?_
    exact ih1 _ _ _ h
theorem r_130b {b : Bool} {σ0 : ae_S} {F0 F : Nat → Nat → Int32} {u g : Int32} (h : RS b σ0 F0 σ 0 u g F) (hP : RP F g [] []) {k l : Nat} {x1 x2 x3 : Int32} {x4 x5 : Option Value} (e3 : x3 = nI k) (hk : k < 32) (el : x2 = nI l) (hl : l < 8) : hG ra (d + 2) 130 σ [some (.ref 176), some (.int x1), some (.int x2), some (.int x3), x4, x5] [] 34 (pI (fun σ' v => ∃ c' g' F', RS b σ0 F0 σ' c' u g' F' ∧ RP F' g' [] [] ∧ ∀ q, q < 209 → F' q = F q)) := by
  subst e3
  obtain ⟨gs, hgs, egs⟩ := hP.2.2.2.2.2.1.2.2.2 (4 * k) (by omega)
  have e4 : (4 : Int32) * nI k = nI (4 * k) := by rw [show (4 : Int32) = nI 4 from rfl, pk_mul]
  refine h_st rfl rfl ?_
  refine h_st rfl rfl ?_
  refine r_put rfl h rfl (Nat.le_of_ble_eq_true rfl) rfl (fun σ2 h2 => ?_)
  replace h := h2
  clear h2
  replace hP := hP.g (g' := 0) ⟨0, by decide, rfl⟩
  refine h_st rfl rfl ?_
  refine h_st rfl (e_get h.2.1 rfl) ?_
  refine h_st rfl rfl ?_
  refine h_st rfl (q_ia h.a209 (rfl) (hk) (by decide)) ?_
  refine h_st rfl rfl ?_
  refine h_br (fun q1 => ?_) (fun q1 => ?_)
  · refine h_st rfl rfl ?_
    refine h_st rfl rfl ?_
    refine h_st rfl (e_get h.2.1 rfl) ?_
    refine h_st rfl rfl ?_
    refine h_st rfl rfl ?_
    refine h_st rfl rfl ?_
    refine h_st rfl (q_iaE h.a210 (e4) (by omega) (by decide) (egs)) ?_
    refine r_put rfl h rfl (Nat.le_of_ble_eq_true rfl) rfl (fun σ2 h2 => ?_)
    replace h := h2
    clear h2
    replace hP := hP.g (g' := nI gs) ⟨gs, hgs, rfl⟩
    rw [← fu_self F 214] at h
    refine h_st rfl rfl ?_
    refine h_st rfl rfl ?_
    exact r_130g hk el hl (by omega) hP q1 gs 0 _ _ _ (Nat.zero_add _) h
  · refine h_st rfl rfl ?_
    exact h_rt rfl rfl (⟨_, _, rfl, 0, 0, F, h, hP, fun _ _ => rfl⟩)
theorem r_130t {b : Bool} {σ0 : ae_S} {F0 F : Nat → Nat → Int32} {c u g : Int32} (h : RS b σ0 F0 σ c u g F) (hP : RP F g [] []) (x1 x2 : Int32) : hE ra (d + 3) 130 [.ref 176, .int x1, .int x2] σ (pI (fun σ' v => ∃ c' g' F', RS b σ0 F0 σ' c' u g' F' ∧ RP F' g' [] [] ∧ ∀ q, q < 209 → F' q = F q)) := by
  refine h_in rfl rfl (Nat.le_of_ble_eq_true rfl) ?_
  refine h_st rfl rfl ?_
  refine h_st rfl rfl ?_
  refine h_st rfl rfl ?_
  refine h_st rfl rfl ?_
  refine h_ci3 rfl (Nat.le_of_ble_eq_true rfl) (e_rcv h.2.1) rfl (r_119t h x1 x2) (fun σ' y7 hq => ?_)
  obtain ⟨hss, hv7⟩ := hq
  replace hss := hss.symm
  subst hss
  refine h_st rfl rfl ?_
  refine h_br (fun q1 => ?_) (fun q1 => ?_)
  · refine h_st rfl rfl ?_
    refine r_put rfl h rfl (Nat.le_of_ble_eq_true rfl) rfl (fun σ2 h2 => ?_)
    replace h := h2
    clear h2
    refine h_st rfl rfl ?_
    refine h_st rfl (e_get h.2.1 rfl) ?_
    refine h_st rfl rfl ?_
    refine h_pc (if_neg (by decide)) ?_
    refine h_st rfl rfl ?_
    exact h_rt rfl rfl (⟨_, _, rfl, 1, g, F, h, hP, fun _ _ => rfl⟩)
  · refine h_st rfl rfl ?_
    refine h_st rfl rfl ?_
    refine r_put rfl h rfl (Nat.le_of_ble_eq_true rfl) rfl (fun σ2 h2 => ?_)
    replace h := h2
    clear h2
    refine h_st rfl rfl ?_
    refine h_st rfl (e_get h.2.1 rfl) ?_
    refine h_st rfl rfl ?_
    refine h_pc (if_pos (by decide)) ?_
    refine h_st rfl rfl ?_
    refine h_st rfl rfl ?_
    refine h_st rfl rfl ?_
    refine h_st rfl rfl ?_
    refine h_st rfl rfl ?_
    refine h_st rfl rfl ?_
    obtain ⟨-, ⟨l, hl, el, hil⟩, ke, hke, eke⟩ := hv7.resolve_left q1
    have ek : (8 : Int32) * x1 + x2 = nI (8 * ke + l) := by rw [eke, el, show (8 : Int32) = nI 8 from rfl, pk_mul, nI_add]
    exact r_130b h hP ek (by omega) el hl
end RF8
