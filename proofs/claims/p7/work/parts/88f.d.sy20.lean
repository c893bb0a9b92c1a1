section SY20
variable {ra : ae_R} {d : Nat} {σ : ae_S}
theorem sh_ga : ∀ gn : Nat, gn < 10 → (1 : Int32) <<< (nI gn &&& 31) = nI (2 ^ gn)
  | 0, _ => by decide
  | 1, _ => by decide
  | 2, _ => by decide
  | 3, _ => by decide
  | 4, _ => by decide
  | 5, _ => by decide
  | 6, _ => by decide
  | 7, _ => by decide
  | 8, _ => by decide
  | 9, _ => by decide
  | n + 10, h => absurd h (by omega)
theorem fl_nn {fl : Int32} (h : ¬ fl >>> ((2 : Int32) &&& 31) < 1) : ¬ fl < 0 := by
  intro z
  apply h
  have z1 : fl.toInt < 0 := Int32.lt_iff_toInt_lt.mp z
  have e1 : (fl >>> ((2 : Int32) &&& 31)).toInt = fl.toInt >>> 2 := by
    show (fl >>> ((2 : Int32) &&& 31)).toBitVec.toInt = _
    rw [Int32.toBitVec_shiftRight]
    have e2 : (((2 : Int32) &&& 31).toBitVec.smod 32) = 2#32 := by decide
    rw [e2]
    show (fl.toBitVec.sshiftRight (2#32).toNat).toInt = _
    rw [BitVec.toInt_sshiftRight]
    rfl
  rw [Int32.lt_iff_toInt_lt, e1, Int.shiftRight_eq_div_pow]
  have e3 : (1 : Int32).toInt = 1 := by decide
  rw [e3]
  omega
theorem fl_q {fl : Int32} (h : ¬ fl < 0) : fl &&& 2 = 0 ↔ fl / 2 - fl / 2 / 2 * 2 = 0 := by
  obtain ⟨n, hn, rfl⟩ := i_nn h
  have e1 : nI n / 2 = nI (n / 2) := pk_div (a := n) (d := 2) hn (by decide) (by decide)
  have e2 : nI (n / 2) - nI (n / 2) / 2 * 2 = nI (n / 2 % 2) := pk_rem (a := n / 2) (d := 2) (by omega) (by decide) (by decide)
  have e3 : (nI n &&& 2).toBitVec.toNat = n &&& 2 := by
    rw [Int32.toBitVec_and, BitVec.toNat_and, nI_bv (by omega)]
    rfl
  have e4 : n &&& 2 = 2 * (n / 2 % 2) := by
    have hle : n &&& 2 ≤ 2 := Nat.and_le_right
    have hm : (n &&& 2) % 2 ^ 2 = (n % 2 ^ 2) &&& (2 % 2 ^ 2) := Nat.and_mod_two_pow
    have h4 : n % 2 ^ 2 = 0 ∨ n % 2 ^ 2 = 1 ∨ n % 2 ^ 2 = 2 ∨ n % 2 ^ 2 = 3 := by omega
    have hs : (n &&& 2) % 2 ^ 2 = n &&& 2 := Nat.mod_eq_of_lt (by omega)
    rw [hs] at hm
    rcases h4 with h4 | h4 | h4 | h4
    · rw [hm, h4]
      show (0 : Nat) = _
      omega
    · rw [hm, h4]
      show (0 : Nat) = _
      omega
    · rw [hm, h4]
      show (2 : Nat) = _
      omega
    · rw [hm, h4]
      show (2 : Nat) = _
      omega
  rw [e1, e2]
  constructor
  · intro z
    have : (nI n &&& 2).toBitVec.toNat = 0 := by rw [z]; rfl
    have h0 : n / 2 % 2 = 0 := by omega
    rw [h0]
    rfl
  · intro z
    have h0 : n / 2 % 2 = 0 := nI_inj (c := 0) (by omega) (by decide) z
    apply Int32.toBitVec_inj.mp
    apply BitVec.eq_of_toNat_eq
    rw [e3, e4, h0]
    rfl
theorem fl_1 {fl : Int32} (h : ¬ fl < 0) : fl &&& 1 = 0 ↔ fl - fl / 2 * 2 = 0 := by
  obtain ⟨n, hn, rfl⟩ := i_nn h
  have e2 : nI n - nI n / 2 * 2 = nI (n % 2) := pk_rem (a := n) (d := 2) (by omega) (by decide) (by decide)
  have e3 : (nI n &&& 1).toBitVec.toNat = n % 2 := by
    rw [Int32.toBitVec_and, BitVec.toNat_and, nI_bv (by omega)]
    exact Nat.and_one_is_mod n
  rw [e2]
  constructor
  · intro z
    have h0 : n % 2 = 0 := by
      rw [← e3, z]
      rfl
    rw [h0]
    rfl
  · intro z
    have h0 : n % 2 = 0 := nI_inj (c := 0) (by omega) (by decide) z
    apply Int32.toBitVec_inj.mp
    apply BitVec.eq_of_toNat_eq
    rw [e3, h0]
    rfl
theorem ck1 : ((List.range 4).all fun s => (List.range 16).all fun t => (List.range 12).all fun ln => decide (bit (pths s (nI t) 4) (nI ln) ↔ ¬ opf (nI ln) (nI s) (nI t) 4 = 0)) = true := by decide +kernel
theorem rg_all {n : Nat} {p : Nat → Bool} (h : (List.range n).all p = true) {i : Nat} (hi : i < n) : p i = true := List.all_eq_true.mp h i (List.mem_range.mpr hi)
theorem r_97xy {σ0 : ae_S} {F : Nat → Nat → Int32} {c u g : Int32} (h : RS false σ0 F σ c u g F) (hP : RP F g [] []) {l s ga m t f : Int32} {x8 x9 : Option Value} (hn : ¬ okL l s ga m t f) : hG ra d 97 σ [some (.ref 176), some (.int l), some (.int s), some (.int ga), some (.int m), some (.int t), some (.int f), some (.int (f >>> ((2 : Int32) &&& 31))), x8, x9] [] 91 (pV (fun σ' => ∃ c' F', RS false σ0 F σ' c' u g F' ∧ RP F' g [] [] ∧ ((¬ okL l s ga m t f ∧ c' = 1 ∧ F' = F) ∨ (okL l s ga m t f ∧ ∃ j, j < 8 ∧ l = nI j ∧ ((F 177 j ≠ 0 ∧ c' = 2 ∧ F' = F) ∨ (F 177 j = 0 ∧ c' = 0 ∧ F' 177 = upd (F 177) j 1 ∧ F' 180 = upd (F 180) j s ∧ F' 182 = upd (F 182) j m ∧ F' 183 = upd (F 183) j t ∧ F' 184 = upd (F 184) j (f >>> ((2 : Int32) &&& 31)) ∧ (∃ gn, ga = nI gn ∧ gn < 10 ∧ F' 181 = upd (F 181) j (nI (2 ^ gn))) ∧ F' 179 = upd (F 179) j (if f / 2 - f / 2 / 2 * 2 = 0 then 0 else 1) ∧ F' 178 = upd (F 178) j (if f - f / 2 * 2 = 0 then 0 else 1) ∧ F' 188 = upd (upd (F 188) j (F' 182 j * (F' 181 j + 64))) (8 + j) (upd (F 188) j (F' 182 j * (F' 181 j + 64)) j) ∧ ∀ q, 185 ≤ q → q ≠ 188 → F' q = F q)))))) := by
  refine h_st rfl rfl ?_
  refine h_st rfl rfl ?_
  refine h_st rfl rfl ?_
  refine h_st rfl rfl ?_
  refine h_st rfl rfl ?_
  refine h_pc (if_neg (by decide)) ?_
  refine h_st rfl rfl ?_
  refine h_st rfl rfl ?_
  refine r_put rfl h rfl (Nat.le_of_ble_eq_true rfl) rfl (fun σ2 h2 => ?_)
  replace h := h2
  clear h2
  refine h_st rfl rfl ?_
  refine h_st rfl (e_get h.2.1 rfl) ?_
  refine h_st rfl rfl ?_
  refine h_pc (if_neg (by decide)) ?_
  exact h_rv rfl (⟨_, rfl, 1, F, h, hP, Or.inl ⟨hn, rfl, rfl⟩⟩)
theorem r_97y {b : Bool} {σ0 : ae_S} {F0 F : Nat → Nat → Int32} {c u g : Int32} (h : RS b σ0 F0 σ c u g F) (hP : RP F g [] []) (l s ga m t f : Int32) : hE ra (d + 1) 97 [.ref 176, .int l, .int s, .int ga, .int m, .int t, .int f] σ (pV (fun σ' => ∃ c' F', RS false σ0 F σ' c' u g F' ∧ RP F' g [] [] ∧ ((¬ okL l s ga m t f ∧ c' = 1 ∧ F' = F) ∨ (okL l s ga m t f ∧ ∃ j, j < 8 ∧ l = nI j ∧ ((F 177 j ≠ 0 ∧ c' = 2 ∧ F' = F) ∨ (F 177 j = 0 ∧ c' = 0 ∧ F' 177 = upd (F 177) j 1 ∧ F' 180 = upd (F 180) j s ∧ F' 182 = upd (F 182) j m ∧ F' 183 = upd (F 183) j t ∧ F' 184 = upd (F 184) j (f >>> ((2 : Int32) &&& 31)) ∧ (∃ gn, ga = nI gn ∧ gn < 10 ∧ F' 181 = upd (F 181) j (nI (2 ^ gn))) ∧ F' 179 = upd (F 179) j (if f / 2 - f / 2 / 2 * 2 = 0 then 0 else 1) ∧ F' 178 = upd (F 178) j (if f - f / 2 * 2 = 0 then 0 else 1) ∧ F' 188 = upd (upd (F 188) j (F' 182 j * (F' 181 j + 64))) (8 + j) (upd (F 188) j (F' 182 j * (F' 181 j + 64)) j) ∧ ∀ q, 185 ≤ q → q ≠ 188 → F' q = F q)))))) := by
  have hfl : RS false σ0 F σ c u g F := h.fls
  replace h := hfl
  clear hfl
  by_cases hy : okL l s ga m t f
  · have hy0 := hy
    obtain ⟨y1, y2, y3, y4, y5, y6, y7, y8, ⟨y9, y10, y11⟩, y12, y13⟩ := hy
    obtain ⟨li, hli, rfl⟩ := i_ix (n := 8) (by decide) y1 y2
    obtain ⟨so, hso, rfl⟩ := i_ix (n := 4) (by decide) y3 y4
    obtain ⟨gn, hgn, rfl⟩ := i_ix (x := ga) (n := 10) (by decide) (fun z => y5 (Int32.lt_of_lt_of_le z (by decide))) (fun z => y6 (Int32.lt_of_lt_of_le (by decide) z))
    obtain ⟨mo, hmo, rfl⟩ := nI_of2 (x := m) (M := 128) (n := 128) (by decide) (fun z => y7 (Int32.lt_trans z (by decide))) (Int32.not_lt.mp y8)
    have hm2 : 64 ≤ mo := Nat.le_of_not_lt (fun z => y7 ((nI_ltI (by omega) (by decide)).mpr z))
    have hin8 : (8 : Int32) + nI li = nI (8 + li) := by rw [show (8 : Int32) = nI 8 from rfl, nI_add]
    have h16 : li < 16 := by omega
    have h168 : 8 + li < 16 := by omega
    by_cases hz : F 177 li = 0
    · refine h_in rfl rfl (Nat.le_of_ble_eq_true rfl) ?_
      refine h_st rfl rfl ?_
      refine h_st rfl rfl ?_
      refine h_st rfl rfl ?_
      refine h_st rfl rfl ?_
      refine h_st rfl rfl ?_
      refine h_st rfl rfl ?_
      refine h_pc (if_neg (fun z9 => (y1) (of_decide_eq_true z9))) ?_
      refine h_st rfl rfl ?_
      refine h_st rfl rfl ?_
      refine h_st rfl rfl ?_
      refine h_pc (if_neg (fun z9 => (y2) (of_decide_eq_true z9))) ?_
      refine h_st rfl rfl ?_
      refine h_st rfl rfl ?_
      refine h_pc (if_neg (fun z9 => (y3) (of_decide_eq_true z9))) ?_
      refine h_st rfl rfl ?_
      refine h_st rfl rfl ?_
      refine h_st rfl rfl ?_
      refine h_pc (if_neg (fun z9 => (y4) (of_decide_eq_true z9))) ?_
      refine h_st rfl rfl ?_
      refine h_st rfl rfl ?_
      refine h_st rfl rfl ?_
      refine h_pc (if_neg (fun z9 => (y5) (of_decide_eq_true z9))) ?_
      refine h_st rfl rfl ?_
      refine h_st rfl rfl ?_
      refine h_st rfl rfl ?_
      refine h_pc (if_neg (fun z9 => (y6) (of_decide_eq_true z9))) ?_
      refine h_st rfl rfl ?_
      refine h_st rfl rfl ?_
      refine h_st rfl rfl ?_
      refine h_pc (if_neg (fun z9 => (y7) (of_decide_eq_true z9))) ?_
      refine h_st rfl rfl ?_
      refine h_st rfl rfl ?_
      refine h_st rfl rfl ?_
      refine h_pc (if_neg (fun z9 => (y8) (of_decide_eq_true z9))) ?_
      refine h_st rfl rfl ?_
      refine h_st rfl rfl ?_
      refine h_st rfl rfl ?_
      refine h_pc (if_neg (fun z9 => (fun z => y9 (i_01.mp z)) (of_decide_eq_true z9))) ?_
      refine h_st rfl rfl ?_
      refine h_st rfl rfl ?_
      refine h_st rfl rfl ?_
      refine h_pc (if_neg (fun z9 => (fun z => y10 (i_15.mp z)) (of_decide_eq_true z9))) ?_
      refine h_st rfl rfl ?_
      refine h_st rfl rfl ?_
      refine h_st rfl rfl ?_
      refine h_st rfl rfl ?_
      refine h_st rfl rfl ?_
      refine h_st rfl rfl ?_
      refine h_pc (if_neg (fun z9 => (y11) (of_decide_eq_true z9))) ?_
      refine h_st rfl rfl ?_
      refine h_st rfl rfl ?_
      refine h_st rfl rfl ?_
      refine h_pc (if_neg (fun z9 => (y12) (of_decide_eq_true z9))) ?_
      refine h_st rfl rfl ?_
      refine h_st rfl rfl ?_
      refine h_st rfl rfl ?_
      refine h_pc (if_neg (fun z9 => (y13) (of_decide_eq_true z9))) ?_
      refine h_st rfl rfl ?_
      refine h_st rfl rfl ?_
      refine h_st rfl rfl ?_
      refine h_st rfl rfl ?_
      refine h_st rfl rfl ?_
      refine h_st rfl rfl ?_
      refine h_pc (if_pos (by decide)) ?_
      refine h_st rfl rfl ?_
      refine h_st rfl (e_get h.2.1 rfl) ?_
      refine h_st rfl rfl ?_
      refine h_st rfl (q_ba h.a177 (rfl) (hli) (by decide)) ?_
      refine h_st rfl rfl ?_
      refine h_pc (if_pos (decide_eq_true (hz))) ?_
      refine h_st rfl rfl ?_
      refine r_put rfl h rfl (Nat.le_of_ble_eq_true rfl) rfl (fun σ2 h2 => ?_)
      replace h := h2
      clear h2
      refine h_st rfl rfl ?_
      refine h_st rfl (e_get h.2.1 rfl) ?_
      refine h_st rfl rfl ?_
      refine h_pc (if_pos (by decide)) ?_
      refine h_st rfl rfl ?_
      refine h_st rfl (e_get h.2.1 rfl) ?_
      refine h_st rfl rfl ?_
      refine h_st rfl rfl ?_
      refine r_bas rfl h m177 (fun z => by cases z) (by decide) (rfl) (hli) ((rfl : vp_nar .boolean 1 = 1)) (fun σ2 h2 => ?_)
      replace h := h2
      clear h2
      refine h_st rfl rfl ?_
      refine h_st rfl (e_get h.2.1 rfl) ?_
      refine h_st rfl rfl ?_
      refine h_st rfl rfl ?_
      refine r_ias rfl h m180 (fun z => by cases z) (by decide) (rfl) (hli) (rfl) (fun σ2 h2 => ?_)
      replace h := h2
      clear h2
      refine h_st rfl rfl ?_
      refine h_st rfl (e_get h.2.1 rfl) ?_
      refine h_st rfl rfl ?_
      refine h_st rfl rfl ?_
      refine r_ias rfl h m181 (fun z => by cases z) (by decide) (rfl) (hli) (rfl) (fun σ2 h2 => ?_)
      replace h := h2
      clear h2
      refine h_st rfl rfl ?_
      refine h_st rfl rfl ?_
      refine r_97lt hgn hli (fun σ9 h => ?_) gn 0 _ (Nat.zero_add _) h
      refine h_st rfl rfl ?_
      refine h_st rfl (e_get h.2.1 rfl) ?_
      refine h_st rfl rfl ?_
      refine h_st rfl rfl ?_
      refine r_ias rfl h m182 (fun z => by cases z) (by decide) (rfl) (hli) (rfl) (fun σ2 h2 => ?_)
      replace h := h2
      clear h2
      refine h_st rfl rfl ?_
      refine h_st rfl (e_get h.2.1 rfl) ?_
      refine h_st rfl rfl ?_
      refine h_st rfl rfl ?_
      refine r_ias rfl h m183 (fun z => by cases z) (by decide) (rfl) (hli) (rfl) (fun σ2 h2 => ?_)
      replace h := h2
      clear h2
      refine h_st rfl rfl ?_
      refine h_st rfl (e_get h.2.1 rfl) ?_
      refine h_st rfl rfl ?_
      refine h_st rfl rfl ?_
      refine r_ias rfl h m184 (fun z => by cases z) (by decide) (rfl) (hli) (rfl) (fun σ2 h2 => ?_)
      replace h := h2
      clear h2
      refine h_st rfl rfl ?_
      refine h_st rfl (e_get h.2.1 rfl) ?_
      refine h_st rfl rfl ?_
      refine h_st rfl rfl ?_
      refine h_st rfl rfl ?_
      refine h_st rfl (e_dv (by decide)) ?_
      refine h_st rfl rfl ?_
      refine h_br (fun z1 => ?_) (fun z1 => ?_)
      · refine h_st rfl rfl ?_
        refine r_bas rfl h m178 (fun z => by cases z) (by decide) (rfl) (hli) ((rfl : vp_nar .boolean 0 = 0)) (fun σ2 h2 => ?_)
        replace h := h2
        clear h2
        refine h_st rfl rfl ?_
        refine h_st rfl (e_get h.2.1 rfl) ?_
        refine h_st rfl rfl ?_
        refine h_st rfl rfl ?_
        refine h_st rfl rfl ?_
        refine h_st rfl (e_dv (by decide)) ?_
        refine h_st rfl rfl ?_
        refine h_st rfl (e_dv (by decide)) ?_
        refine h_st rfl rfl ?_
        refine h_br (fun z2 => ?_) (fun z2 => ?_)
        · refine h_st rfl rfl ?_
          refine r_bas rfl h m179 (fun z => by cases z) (by decide) (rfl) (hli) ((rfl : vp_nar .boolean 0 = 0)) (fun σ2 h2 => ?_)
          replace h := h2
          clear h2
          refine h_st rfl rfl ?_
          refine h_st rfl (e_get h.2.1 rfl) ?_
          refine h_st rfl rfl ?_
          refine h_st rfl rfl ?_
          refine h_st rfl (e_get h.2.1 rfl) ?_
          refine h_st rfl rfl ?_
          refine h_st rfl (q_ia h.a182 (rfl) (hli) (by decide)) ?_
          refine h_st rfl rfl ?_
          refine h_st rfl (e_get h.2.1 rfl) ?_
          refine h_st rfl rfl ?_
          refine h_st rfl (q_ia h.a181 (rfl) (hli) (by decide)) ?_
          refine h_st rfl rfl ?_
          refine h_st rfl rfl ?_
          refine h_st rfl rfl ?_
          refine r_ias rfl h m188 (fun z => by cases z) (by decide) (rfl) (h16) (rfl) (fun σ2 h2 => ?_)
          replace h := h2
          clear h2
          refine h_st rfl rfl ?_
          refine h_st rfl (e_get h.2.1 rfl) ?_
          refine h_st rfl rfl ?_
          refine h_st rfl rfl ?_
          refine h_st rfl rfl ?_
          refine h_st rfl rfl ?_
          refine h_st rfl (e_get h.2.1 rfl) ?_
          refine h_st rfl rfl ?_
          refine h_st rfl (q_ia h.a188 (rfl) (h16) (by decide)) ?_
          refine r_ias rfl h m188 (fun z => by cases z) (by decide) (hin8) (h168) (rfl) (fun σ2 h2 => ?_)
          replace h := h2
          clear h2
          refine h_rv rfl ⟨_, rfl, 0, _, h, ⟨hP.1.up hso ⟨hm2, hmo⟩ 1, hP.2⟩, Or.inr ⟨hy0, li, hli, rfl, Or.inr ⟨hz, rfl, rfl, rfl, rfl, rfl, rfl, ⟨gn, rfl, hgn, rfl⟩, by rw [if_pos z2]; rfl, by rw [if_pos z1]; rfl, rfl, fun q z1 z2 => ?_⟩⟩⟩
          exact (fu_n (by omega)).trans ((fu_n (by omega)).trans ((fu_n (by omega)).trans ((fu_n (by omega)).trans ((fu_n (by omega)).trans ((fu_n (by omega)).trans ((fu_n (by omega)).trans ((fu_n (by omega)).trans ((fu_n (by omega)).trans (fu_n (by omega))))))))))
        · refine h_st rfl rfl ?_
          refine h_st rfl rfl ?_
          refine r_bas rfl h m179 (fun z => by cases z) (by decide) (rfl) (hli) ((rfl : vp_nar .boolean 1 = 1)) (fun σ2 h2 => ?_)
          replace h := h2
          clear h2
          refine h_st rfl rfl ?_
          refine h_st rfl (e_get h.2.1 rfl) ?_
          refine h_st rfl rfl ?_
          refine h_st rfl rfl ?_
          refine h_st rfl (e_get h.2.1 rfl) ?_
          refine h_st rfl rfl ?_
          refine h_st rfl (q_ia h.a182 (rfl) (hli) (by decide)) ?_
          refine h_st rfl rfl ?_
          refine h_st rfl (e_get h.2.1 rfl) ?_
          refine h_st rfl rfl ?_
          refine h_st rfl (q_ia h.a181 (rfl) (hli) (by decide)) ?_
          refine h_st rfl rfl ?_
          refine h_st rfl rfl ?_
          refine h_st rfl rfl ?_
          refine r_ias rfl h m188 (fun z => by cases z) (by decide) (rfl) (h16) (rfl) (fun σ2 h2 => ?_)
          replace h := h2
          clear h2
          refine h_st rfl rfl ?_
          refine h_st rfl (e_get h.2.1 rfl) ?_
          refine h_st rfl rfl ?_
          refine h_st rfl rfl ?_
          refine h_st rfl rfl ?_
          refine h_st rfl rfl ?_
          refine h_st rfl (e_get h.2.1 rfl) ?_
          refine h_st rfl rfl ?_
          refine h_st rfl (q_ia h.a188 (rfl) (h16) (by decide)) ?_
          refine r_ias rfl h m188 (fun z => by cases z) (by decide) (hin8) (h168) (rfl) (fun σ2 h2 => ?_)
          replace h := h2
          clear h2
          refine h_rv rfl ⟨_, rfl, 0, _, h, ⟨hP.1.up hso ⟨hm2, hmo⟩ 1, hP.2⟩, Or.inr ⟨hy0, li, hli, rfl, Or.inr ⟨hz, rfl, rfl, rfl, rfl, rfl, rfl, ⟨gn, rfl, hgn, rfl⟩, by rw [if_neg z2]; rfl, by rw [if_pos z1]; rfl, rfl, fun q z1 z2 => ?_⟩⟩⟩
          exact (fu_n (by omega)).trans ((fu_n (by omega)).trans ((fu_n (by omega)).trans ((fu_n (by omega)).trans ((fu_n (by omega)).trans ((fu_n (by omega)).trans ((fu_n (by omega)).trans ((fu_n (by omega)).trans ((fu_n (by omega)).trans (fu_n (by omega))))))))))
      · refine h_st rfl rfl ?_
        refine h_st rfl rfl ?_
        refine r_bas rfl h m178 (fun z => by cases z) (by decide) (rfl) (hli) ((rfl : vp_nar .boolean 1 = 1)) (fun σ2 h2 => ?_)
        replace h := h2
        clear h2
        refine h_st rfl rfl ?_
        refine h_st rfl (e_get h.2.1 rfl) ?_
        refine h_st rfl rfl ?_
        refine h_st rfl rfl ?_
        refine h_st rfl rfl ?_
        refine h_st rfl (e_dv (by decide)) ?_
        refine h_st rfl rfl ?_
        refine h_st rfl (e_dv (by decide)) ?_
        refine h_st rfl rfl ?_
        refine h_br (fun z2 => ?_) (fun z2 => ?_)
        · refine h_st rfl rfl ?_
          refine r_bas rfl h m179 (fun z => by cases z) (by decide) (rfl) (hli) ((rfl : vp_nar .boolean 0 = 0)) (fun σ2 h2 => ?_)
          replace h := h2
          clear h2
          refine h_st rfl rfl ?_
          refine h_st rfl (e_get h.2.1 rfl) ?_
          refine h_st rfl rfl ?_
          refine h_st rfl rfl ?_
          refine h_st rfl (e_get h.2.1 rfl) ?_
          refine h_st rfl rfl ?_
          refine h_st rfl (q_ia h.a182 (rfl) (hli) (by decide)) ?_
          refine h_st rfl rfl ?_
          refine h_st rfl (e_get h.2.1 rfl) ?_
          refine h_st rfl rfl ?_
          refine h_st rfl (q_ia h.a181 (rfl) (hli) (by decide)) ?_
          refine h_st rfl rfl ?_
          refine h_st rfl rfl ?_
          refine h_st rfl rfl ?_
          refine r_ias rfl h m188 (fun z => by cases z) (by decide) (rfl) (h16) (rfl) (fun σ2 h2 => ?_)
          replace h := h2
          clear h2
          refine h_st rfl rfl ?_
          refine h_st rfl (e_get h.2.1 rfl) ?_
          refine h_st rfl rfl ?_
          refine h_st rfl rfl ?_
          refine h_st rfl rfl ?_
          refine h_st rfl rfl ?_
          refine h_st rfl (e_get h.2.1 rfl) ?_
          refine h_st rfl rfl ?_
          refine h_st rfl (q_ia h.a188 (rfl) (h16) (by decide)) ?_
          refine r_ias rfl h m188 (fun z => by cases z) (by decide) (hin8) (h168) (rfl) (fun σ2 h2 => ?_)
          replace h := h2
          clear h2
          refine h_rv rfl ⟨_, rfl, 0, _, h, ⟨hP.1.up hso ⟨hm2, hmo⟩ 1, hP.2⟩, Or.inr ⟨hy0, li, hli, rfl, Or.inr ⟨hz, rfl, rfl, rfl, rfl, rfl, rfl, ⟨gn, rfl, hgn, rfl⟩, by rw [if_pos z2]; rfl, by rw [if_neg z1]; rfl, rfl, fun q z1 z2 => ?_⟩⟩⟩
          exact (fu_n (by omega)).trans ((fu_n (by omega)).trans ((fu_n (by omega)).trans ((fu_n (by omega)).trans ((fu_n (by omega)).trans ((fu_n (by omega)).trans ((fu_n (by omega)).trans ((fu_n (by omega)).trans ((fu_n (by omega)).trans (fu_n (by omega))))))))))
        · refine h_st rfl rfl ?_
          refine h_st rfl rfl ?_
          refine r_bas rfl h m179 (fun z => by cases z) (by decide) (rfl) (hli) ((rfl : vp_nar .boolean 1 = 1)) (fun σ2 h2 => ?_)
          replace h := h2
          clear h2
          refine h_st rfl rfl ?_
          refine h_st rfl (e_get h.2.1 rfl) ?_
          refine h_st rfl rfl ?_
          refine h_st rfl rfl ?_
          refine h_st rfl (e_get h.2.1 rfl) ?_
          refine h_st rfl rfl ?_
          refine h_st rfl (q_ia h.a182 (rfl) (hli) (by decide)) ?_
          refine h_st rfl rfl ?_
          refine h_st rfl (e_get h.2.1 rfl) ?_
          refine h_st rfl rfl ?_
          refine h_st rfl (q_ia h.a181 (rfl) (hli) (by decide)) ?_
          refine h_st rfl rfl ?_
          refine h_st rfl rfl ?_
          refine h_st rfl rfl ?_
          refine r_ias rfl h m188 (fun z => by cases z) (by decide) (rfl) (h16) (rfl) (fun σ2 h2 => ?_)
          replace h := h2
          clear h2
          refine h_st rfl rfl ?_
          refine h_st rfl (e_get h.2.1 rfl) ?_
          refine h_st rfl rfl ?_
          refine h_st rfl rfl ?_
          refine h_st rfl rfl ?_
          refine h_st rfl rfl ?_
          refine h_st rfl (e_get h.2.1 rfl) ?_
          refine h_st rfl rfl ?_
          refine h_st rfl (q_ia h.a188 (rfl) (h16) (by decide)) ?_
          refine r_ias rfl h m188 (fun z => by cases z) (by decide) (hin8) (h168) (rfl) (fun σ2 h2 => ?_)
          replace h := h2
          clear h2
          refine h_rv rfl ⟨_, rfl, 0, _, h, ⟨hP.1.up hso ⟨hm2, hmo⟩ 1, hP.2⟩, Or.inr ⟨hy0, li, hli, rfl, Or.inr ⟨hz, rfl, rfl, rfl, rfl, rfl, rfl, ⟨gn, rfl, hgn, rfl⟩, by rw [if_neg z2]; rfl, by rw [if_neg z1]; rfl, rfl, fun q z1 z2 => ?_⟩⟩⟩
          exact (fu_n (by omega)).trans ((fu_n (by omega)).trans ((fu_n (by omega)).trans ((fu_n (by omega)).trans ((fu_n (by omega)).trans ((fu_n (by omega)).trans ((fu_n (by omega)).trans ((fu_n (by omega)).trans ((fu_n (by omega)).trans (fu_n (by omega))))))))))
    · refine h_in rfl rfl (Nat.le_of_ble_eq_true rfl) ?_
      refine h_st rfl rfl ?_
      refine h_st rfl rfl ?_
      refine h_st rfl rfl ?_
      refine h_st rfl rfl ?_
      refine h_st rfl rfl ?_
      refine h_st rfl rfl ?_
      refine h_pc (if_neg (fun z9 => (y1) (of_decide_eq_true z9))) ?_
      refine h_st rfl rfl ?_
      refine h_st rfl rfl ?_
      refine h_st rfl rfl ?_
      refine h_pc (if_neg (fun z9 => (y2) (of_decide_eq_true z9))) ?_
      refine h_st rfl rfl ?_
      refine h_st rfl rfl ?_
      refine h_pc (if_neg (fun z9 => (y3) (of_decide_eq_true z9))) ?_
      refine h_st rfl rfl ?_
      refine h_st rfl rfl ?_
      refine h_st rfl rfl ?_
      refine h_pc (if_neg (fun z9 => (y4) (of_decide_eq_true z9))) ?_
      refine h_st rfl rfl ?_
      refine h_st rfl rfl ?_
      refine h_st rfl rfl ?_
      refine h_pc (if_neg (fun z9 => (y5) (of_decide_eq_true z9))) ?_
      refine h_st rfl rfl ?_
      refine h_st rfl rfl ?_
      refine h_st rfl rfl ?_
      refine h_pc (if_neg (fun z9 => (y6) (of_decide_eq_true z9))) ?_
      refine h_st rfl rfl ?_
      refine h_st rfl rfl ?_
      refine h_st rfl rfl ?_
      refine h_pc (if_neg (fun z9 => (y7) (of_decide_eq_true z9))) ?_
      refine h_st rfl rfl ?_
      refine h_st rfl rfl ?_
      refine h_st rfl rfl ?_
      refine h_pc (if_neg (fun z9 => (y8) (of_decide_eq_true z9))) ?_
      refine h_st rfl rfl ?_
      refine h_st rfl rfl ?_
      refine h_st rfl rfl ?_
      refine h_pc (if_neg (fun z9 => (fun z => y9 (i_01.mp z)) (of_decide_eq_true z9))) ?_
      refine h_st rfl rfl ?_
      refine h_st rfl rfl ?_
      refine h_st rfl rfl ?_
      refine h_pc (if_neg (fun z9 => (fun z => y10 (i_15.mp z)) (of_decide_eq_true z9))) ?_
      refine h_st rfl rfl ?_
      refine h_st rfl rfl ?_
      refine h_st rfl rfl ?_
      refine h_st rfl rfl ?_
      refine h_st rfl rfl ?_
      refine h_st rfl rfl ?_
      refine h_pc (if_neg (fun z9 => (y11) (of_decide_eq_true z9))) ?_
      refine h_st rfl rfl ?_
      refine h_st rfl rfl ?_
      refine h_st rfl rfl ?_
      refine h_pc (if_neg (fun z9 => (y12) (of_decide_eq_true z9))) ?_
      refine h_st rfl rfl ?_
      refine h_st rfl rfl ?_
      refine h_st rfl rfl ?_
      refine h_pc (if_neg (fun z9 => (y13) (of_decide_eq_true z9))) ?_
      refine h_st rfl rfl ?_
      refine h_st rfl rfl ?_
      refine h_st rfl rfl ?_
      refine h_st rfl rfl ?_
      refine h_st rfl rfl ?_
      refine h_st rfl rfl ?_
      refine h_pc (if_pos (by decide)) ?_
      refine h_st rfl rfl ?_
      refine h_st rfl (e_get h.2.1 rfl) ?_
      refine h_st rfl rfl ?_
      refine h_st rfl (q_ba h.a177 (rfl) (hli) (by decide)) ?_
      refine h_st rfl rfl ?_
      refine h_pc (if_neg (fun z9 => (hz) (of_decide_eq_true z9))) ?_
      refine h_st rfl rfl ?_
      refine h_st rfl rfl ?_
      refine r_put rfl h rfl (Nat.le_of_ble_eq_true rfl) rfl (fun σ2 h2 => ?_)
      replace h := h2
      clear h2
      refine h_st rfl rfl ?_
      refine h_st rfl (e_get h.2.1 rfl) ?_
      refine h_st rfl rfl ?_
      refine h_pc (if_neg (by decide)) ?_
      exact h_rv rfl (⟨_, rfl, 2, F, h, hP, Or.inr ⟨hy0, li, hli, rfl, Or.inl ⟨hz, rfl, rfl⟩⟩⟩)
  · refine h_in rfl rfl (Nat.le_of_ble_eq_true rfl) ?_
    refine h_st rfl rfl ?_
    refine h_st rfl rfl ?_
    refine h_st rfl rfl ?_
    refine h_st rfl rfl ?_
    refine h_st rfl rfl ?_
    refine h_st rfl rfl ?_
    refine h_br (fun q1 => ?_) (fun q1 => ?_)
    · exact r_97xy h hP hy
    · refine h_st rfl rfl ?_
      refine h_st rfl rfl ?_
      refine h_st rfl rfl ?_
      refine h_br (fun q2 => ?_) (fun q2 => ?_)
      · exact r_97xy h hP hy
      · refine h_st rfl rfl ?_
        refine h_st rfl rfl ?_
        refine h_br (fun q3 => ?_) (fun q3 => ?_)
        · exact r_97xy h hP hy
        · refine h_st rfl rfl ?_
          refine h_st rfl rfl ?_
          refine h_st rfl rfl ?_
          refine h_br (fun q4 => ?_) (fun q4 => ?_)
          · exact r_97xy h hP hy
          · refine h_st rfl rfl ?_
            refine h_st rfl rfl ?_
            refine h_st rfl rfl ?_
            refine h_br (fun q5 => ?_) (fun q5 => ?_)
            · exact r_97xy h hP hy
            · refine h_st rfl rfl ?_
              refine h_st rfl rfl ?_
              refine h_st rfl rfl ?_
              refine h_br (fun q6 => ?_) (fun q6 => ?_)
              · exact r_97xy h hP hy
              · refine h_st rfl rfl ?_
                refine h_st rfl rfl ?_
                refine h_st rfl rfl ?_
                refine h_br (fun q7 => ?_) (fun q7 => ?_)
                · exact r_97xy h hP hy
                · refine h_st rfl rfl ?_
                  refine h_st rfl rfl ?_
                  refine h_st rfl rfl ?_
                  refine h_br (fun q8 => ?_) (fun q8 => ?_)
                  · exact r_97xy h hP hy
                  · refine h_st rfl rfl ?_
                    refine h_st rfl rfl ?_
                    refine h_st rfl rfl ?_
                    refine h_br (fun q9 => ?_) (fun q9 => ?_)
                    · exact r_97xy h hP hy
                    · refine h_st rfl rfl ?_
                      refine h_st rfl rfl ?_
                      refine h_st rfl rfl ?_
                      refine h_br (fun q10 => ?_) (fun q10 => ?_)
                      · exact r_97xy h hP hy
                      · refine h_st rfl rfl ?_
                        refine h_st rfl rfl ?_
                        refine h_st rfl rfl ?_
                        refine h_st rfl rfl ?_
                        refine h_st rfl rfl ?_
                        refine h_st rfl rfl ?_
                        refine h_br (fun q11 => ?_) (fun q11 => ?_)
                        · exact r_97xy h hP hy
                        · refine h_st rfl rfl ?_
                          refine h_st rfl rfl ?_
                          refine h_st rfl rfl ?_
                          refine h_br (fun q12 => ?_) (fun q12 => ?_)
                          · exact r_97xy h hP hy
                          · refine h_st rfl rfl ?_
                            refine h_st rfl rfl ?_
                            refine h_st rfl rfl ?_
                            refine h_pc (if_pos (decide_eq_true (Classical.byContradiction (fun z => hy ⟨q1, q2, q3, q4, q5, q6, q7, q8, ⟨fun z => q9 (i_01.mpr z), fun z => q10 (i_15.mpr z), q11⟩, q12, z⟩)))) ?_
                            exact r_97xy h hP hy
section S20
variable {F F' : Nat → Nat → Int32} {v : Nat → Nat} {a : AN} {l s ga m t f c' : Int32}
theorem Rpt.lo {l e : Nat} {P : AP} (h : Rpt F l e P) (e1 : F' 179 l = F 179 l) (e2 : F' 184 l = F 184 l) (ag : ∀ q, 203 ≤ q → F' q = F q) : Rpt F' l e P := by
  obtain ⟨⟨h1, h2⟩, h3, h4, h5, h6, h7⟩ := h
  exact ⟨⟨by rw [e1]; exact h1, by rw [e2]; exact h2⟩, by rw [ag 203 (by decide)]; exact h3, by rw [ag 204 (by decide), ag 205 (by decide)]; exact h4, h5.cg (by rw [ag 206 (by decide)]) (by rw [ag 207 (by decide)]) (fun j _ => by rw [ag 208 (by decide)]), by rw [ag 209 (by decide), ag 210 (by decide)]; exact h6, by rw [ag 212 (by decide)]; exact h7⟩
theorem Rp0.lo {k : Nat} (h : Rp0 F k) (ag : ∀ q, 203 ≤ q → F' q = F q) : Rp0 F' k := by
  obtain ⟨h1, h2, h3, h4, h5, h6, h7⟩ := h
  exact ⟨by rw [ag 203 (by decide)]; exact h1, by rw [ag 203 (by decide)]; exact h2, by rw [ag 204 (by decide)]; exact h3, by rw [ag 205 (by decide)]; exact h4, by rw [ag 206 (by decide)]; exact h5, by rw [ag 209 (by decide)]; exact h6, by rw [ag 212 (by decide)]; exact h7⟩
theorem RR.lk (hR : RR F v a) (hm : ((¬ okL l s ga m t f ∧ c' = 1 ∧ F' = F) ∨ (okL l s ga m t f ∧ ∃ j, j < 8 ∧ l = nI j ∧ ((F 177 j ≠ 0 ∧ c' = 2 ∧ F' = F) ∨ (F 177 j = 0 ∧ c' = 0 ∧ F' 177 = upd (F 177) j 1 ∧ F' 180 = upd (F 180) j s ∧ F' 182 = upd (F 182) j m ∧ F' 183 = upd (F 183) j t ∧ F' 184 = upd (F 184) j (f >>> ((2 : Int32) &&& 31)) ∧ (∃ gn, ga = nI gn ∧ gn < 10 ∧ F' 181 = upd (F 181) j (nI (2 ^ gn))) ∧ F' 179 = upd (F 179) j (if f / 2 - f / 2 / 2 * 2 = 0 then 0 else 1) ∧ F' 178 = upd (F 178) j (if f - f / 2 * 2 = 0 then 0 else 1) ∧ F' 188 = upd (upd (F 188) j (F' 182 j * (F' 181 j + 64))) (8 + j) (upd (F 188) j (F' 182 j * (F' 181 j + 64)) j) ∧ ∀ q, 185 ≤ q → q ≠ 188 → F' q = F q))))) : RR F' v (lkA a l s ga m t f) := by
  rcases hm with ⟨hno, -, rfl⟩ | ⟨hok, j, hj, rfl, ⟨hi, -, rfl⟩ | ⟨hz, -, m1, m2, m3, m4, m5, ⟨gn, eg, hgn, m6⟩, m7, m8, m9, m10⟩⟩
  · rw [lk_no hno]
    exact hR
  · obtain ⟨k, hk, -⟩ := kat_yes hR.2.1 hj hi
    rw [lk_ex rfl hj hk]
    exact hR
  have hok0 := hok
  obtain ⟨y1, y2, y3, y4, y5, y6, y7, y8, ⟨y9, y10, y11⟩, y12, y13⟩ := hok
  obtain ⟨so, hso, rfl⟩ := i_ix (n := 4) (by decide) y3 y4
  obtain ⟨mo, hmo, rfl⟩ := nI_of2 (x := m) (M := 128) (n := 128) (by decide) (fun z => y7 (Int32.lt_trans z (by decide))) (Int32.not_lt.mp y8)
  have hm2 : 64 ≤ mo := Nat.le_of_not_lt (fun z => y7 ((nI_ltI (by omega) (by decide)).mpr z))
  obtain ⟨tg, htg, rfl⟩ := i_ix (n := 16) (x := t) (by decide) (fun z => y9 (Int32.le_of_lt z)) y10
  subst eg
  have hn : nK a j = none := by
    cases hk : nK a j with
    | none => rfl
    | some k => exact absurd hz ((hR.2.1 j hj).2 k hk).1.1
  obtain ⟨-, n1, n2, n3, n4⟩ := (hR.2.1 j hj).1 hn
  have hfn := fl_nn y12
  have ag3 : ∀ q, 203 ≤ q → F' q = F q := fun q hq => m10 q (by omega) (by omega)
  rw [lk_ok hok0 rfl rfl rfl hj hso hmo hn, sh_ga gn hgn]
  have v1 : F' 177 j = 1 := by rw [m1, pk_us]
  have v2 : F' 180 j = nI so := by rw [m2, pk_us]
  have v3 : F' 182 j = nI mo := by rw [m3, pk_us]
  have v4 : F' 183 j = nI tg := by rw [m4, pk_us]
  have v6 : F' 181 j = nI (2 ^ gn) := by rw [m6, pk_us]
  have v7 : F' 179 j = 0 ↔ (if f &&& 2 = 0 then (0 : Int32) else 1) = 0 := by
    rw [m7, pk_us]
    by_cases y : f &&& 2 = 0
    · rw [if_pos y, if_pos ((fl_q hfn).mp y)]
    · rw [if_neg y, if_neg (fun z => y ((fl_q hfn).mpr z))]
  have v8 : F' 178 j = 0 ↔ (if f &&& 1 = 0 then (0 : Int32) else 1) = 0 := by
    rw [m8, pk_us]
    by_cases y : f &&& 1 = 0
    · rw [if_pos y, if_pos ((fl_1 hfn).mp y)]
    · rw [if_neg y, if_neg (fun z => y ((fl_1 hfn).mpr z))]
  have v9 : F' 188 j = nI mo * (nI (2 ^ gn) + 64) ∧ F' 188 (8 + j) = nI mo * (nI (2 ^ gn) + 64) := by
    rw [m9, v3, v6]
    exact ⟨(pk_un (by omega)).trans pk_us, pk_us.trans pk_us⟩
  have u9 : ∀ i, i < 8 → i ≠ j → F' 188 i = F 188 i ∧ F' 188 (8 + i) = F 188 (8 + i) := fun i hi hne => by
    rw [m9]
    exact ⟨(pk_un (by omega)).trans (pk_un hne), (pk_un (by omega)).trans (pk_un (by omega))⟩
  refine ⟨hR.1.o (fun q z1 z2 => m10 q (by omega) (by omega)), fun i hi => ?_, fun i e hi he => ?_⟩
  · by_cases c : i = j
    · subst c
      refine ⟨fun z => ?_, fun k hk => ?_⟩
      · rw [show nK (adl a i _ _ _ _) i = some _ from updK_s] at z
        cases z
      · rw [show nK (adl a i _ _ _ _) i = some _ from updK_s] at hk
        injection hk with hk
        subst hk
        refine ⟨⟨by rw [v1]; decide, v2, v6, v3, v4, v8, v7⟩, ⟨by rw [m10 185 (by decide) (by decide)]; exact n1, by rw [m10 186 (by decide) (by decide)]; exact n2, by rw [m10 187 (by decide) (by decide)]; exact n3, by rw [m10 189 (by decide) (by decide)]; exact n4, v9.1, v9.2⟩, ⟨hso, ⟨hm2, hmo⟩, Nat.zero_le _, ⟨0, by decide, rfl⟩, ⟨0, by decide, rfl⟩⟩, fun j x hx => ?_, fun ln hln => ?_⟩
        · cases hx
        · rw [v2, v4]
          exact of_decide_eq_true (rg_all (rg_all (rg_all ck1 hso) htg) hln)
    · have eK : nK (adl a j (k0 so (nI (2 ^ gn)) mo (if f &&& 1 = 0 then 0 else 1) (if f &&& 2 = 0 then 0 else 1) (nI tg)) (nI tg) (if f &&& 2 = 0 then 0 else 1) (f >>> ((2 : Int32) &&& 31))) i = nK a i := updK_n c
      have w1 : F' 177 i = F 177 i := by rw [m1, pk_un c]
      have w2 : F' 180 i = F 180 i := by rw [m2, pk_un c]
      have w3 : F' 182 i = F 182 i := by rw [m3, pk_un c]
      have w4 : F' 183 i = F 183 i := by rw [m4, pk_un c]
      have w6 : F' 181 i = F 181 i := by rw [m6, pk_un c]
      have w7 : F' 179 i = F 179 i := by rw [m7, pk_un c]
      have w8 : F' 178 i = F 178 i := by rw [m8, pk_un c]
      have e5 := m10 185 (by decide) (by decide)
      have e6 := m10 186 (by decide) (by decide)
      have e7 := m10 187 (by decide) (by decide)
      have e9 := m10 189 (by decide) (by decide)
      rw [eK]
      refine ⟨fun z => ?_, fun k hk => ?_⟩
      · rw [w1, e5, e6, e7, e9]
        exact (hR.2.1 i hi).1 z
      · obtain ⟨b1, b2, b3, b4, b5⟩ := (hR.2.1 i hi).2 k hk
        refine ⟨by rw [w1, w2, w6, w3, w4, w8, w7]; exact b1, by rw [e5, e6, e7, e9, (u9 i hi c).1, (u9 i hi c).2]; exact b2, b3, fun j x hx => ?_, fun ln hln => ?_⟩
        · rw [m10 190 (by decide) (by decide), m10 191 (by decide) (by decide), m10 192 (by decide) (by decide), m10 193 (by decide) (by decide)]
          exact b4 j x hx
        · rw [w2, w4]
          exact b5 ln hln
  · have eP : nP (adl a j (k0 so (nI (2 ^ gn)) mo (if f &&& 1 = 0 then 0 else 1) (if f &&& 2 = 0 then 0 else 1) (nI tg)) (nI tg) (if f &&& 2 = 0 then 0 else 1) (f >>> ((2 : Int32) &&& 31))) i e = if i = j then (if (nI tg >>> (nI e &&& 31)) &&& 1 = 0 then none else some (P0 (if f &&& 2 = 0 then 0 else 1) (f >>> ((2 : Int32) &&& 31)))) else nP a i e := rfl
    rw [eP]
    by_cases c : i = j
    · subst c
      rw [if_pos rfl]
      refine ⟨fun z => ?_, fun k hk => ?_, fun p hp => ?_⟩
      · rw [show nK (adl a i _ _ _ _) i = some _ from updK_s] at z
        cases z
      · rw [show nK (adl a i _ _ _ _) i = some _ from updK_s] at hk
        injection hk with hk
        subst hk
        show _ ↔ (nI tg >>> (nI e &&& 31)) &&& 1 = 0
        by_cases y : (nI tg >>> (nI e &&& 31)) &&& 1 = 0
        · rw [if_pos y]
          exact ⟨fun _ => y, fun _ => rfl⟩
        · rw [if_neg y]
          exact ⟨fun z => (by cases z), fun z => absurd z y⟩
      · by_cases y : (nI tg >>> (nI e &&& 31)) &&& 1 = 0
        · rw [if_pos y] at hp
          cases hp
        · rw [if_neg y] at hp
          injection hp with hp
          subst hp
          obtain ⟨r1, r2, r3, r4, r5, r6, r7⟩ := ((hR.2.2 i e hi he).1 hn).lo ag3
          exact ⟨⟨v7, by rw [m5, pk_us]; rfl⟩, ⟨r1, r2, Or.inl rfl, Or.inl rfl⟩, ⟨r3, r4, Or.inl rfl⟩, Or.inl ⟨rfl, r5⟩, ⟨r6, Nat.zero_le _, fun j s hs => (by cases hs)⟩, r7⟩
    · have eK : nK (adl a j (k0 so (nI (2 ^ gn)) mo (if f &&& 1 = 0 then 0 else 1) (if f &&& 2 = 0 then 0 else 1) (nI tg)) (nI tg) (if f &&& 2 = 0 then 0 else 1) (f >>> ((2 : Int32) &&& 31))) i = nK a i := updK_n c
      rw [if_neg c, eK]
      obtain ⟨b1, b2, b3⟩ := hR.2.2 i e hi he
      exact ⟨fun z => (b1 z).lo ag3, b2, fun p hp => (b3 p hp).lo (by rw [m7, pk_un c]) (by rw [m5, pk_un c]) ag3⟩
end S20
theorem r_97w {b : Bool} {σ0 : ae_S} {F0 F : Nat → Nat → Int32} {c g : Int32} {a : AN} {v : Nat → Nat} (h : RS b σ0 F0 σ c (nT a) g F) (hR : RR F v a) (hP : RP F g [] []) (l s ga m t f : Int32) : hE ra (d + 1) 97 [.ref 176, .int l, .int s, .int ga, .int m, .int t, .int f] σ (pV (fun σ' => ∃ c' F', RS false σ0 F σ' c' (nT a) g F' ∧ RP F' g [] [] ∧ RR F' v (lkA a l s ga m t f))) := by
  refine hE_mono (r_97y h hP l s ga m t f) (fun r z => ?_)
  obtain ⟨σ', er, c', F', z1, z2, z3⟩ := z
  exact ⟨σ', er, c', F', z1, z2, hR.lk z3⟩
end SY20
