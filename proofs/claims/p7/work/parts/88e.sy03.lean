section SY3
variable {ra : ae_R} {d : Nat} {σ : ae_S}
theorem Wr.sz {Fb F : Nat → Nat → Int32} {f : Nat} {gc : Nat → Int32} {x : Int32} (h : Wr Fb f gc F) : Wr (fu Fb 195 (upd (Fb 195) f x)) f gc (fu F 195 (upd (F 195) f x)) := by
  obtain ⟨h1, h2, h3⟩ := h
  refine ⟨fun q hq => ?_, fun i hi => ?_, fun k hk => ?_⟩
  · by_cases c : q = 195
    · rw [c, fu_s, fu_s, h1 195 (by decide)]
    · rw [fu_n c, fu_n c]
      exact h1 q hq
  · rw [fu_n (by decide), fu_n (by decide)]
    exact h2 i hi
  · rw [fu_n (by decide)]
    exact h3 k hk
theorem ub_ne {g : Nat → Int32} {k j : Nat} {v : Int32} (h : k ≠ j) : ub g j v k = g k := pk_un h
theorem ub_s {g : Nat → Int32} {k : Nat} {v : Int32} : ub g k v k = v &&& 255 := pk_us
theorem byt_ub {g : Nat → Int32} {n k : Nat} {v : Int32} (h : byt g n) : byt (ub g k v) n := fun j hj => by
  by_cases c : j = k
  · rw [c, ub_s]
    exact pk_andE v (m := 255) 8 (by decide)
  · rw [ub_ne c]
    exact h j hj
theorem byt_0 {n : Nat} : byt (fun _ => 0) n := fun _ _ => ⟨0, by decide, rfl⟩
theorem byt_py {g dg : Nat → Int32} {n : Nat} (h : byt g n) : ∀ m, byt (py g dg m) n
  | 0 => h
  | m + 1 => byt_ub (byt_py h m)
theorem byt_cks {g : Nat → Int32} {n s : Nat} {v : Int32} (h : byt g n) : ∀ m, byt (cks s v g m) n
  | 0 => h
  | m + 1 => byt_ub (byt_cks h m)
/-- the head as the reference makes it -/
def hdr (nt e l len nu pl mo : Int32) : Nat → Int32 := ub (ub (ub (ub (ub (ub (ub (ub (ub (ub (ub (ub (ub (ub (ub (ub (ub (ub (ub (ub (ub (ub (fun _ => 0) 0 3) 5 l) 6 2) 10 e) 11 (if nt = 0 then 32 else 64)) 12 8) 14 69) 16 ((len + 20) / 256)) 17 (len + 20)) 18 (nu / 256)) 19 nu) 20 (if mo = 0 then 0 else 32)) 21 (pl / 8)) 22 1) 23 17) 26 10) 27 1) 28 e) 29 1) 30 224) 31 224) 33 l
def frc (nt e l len nu pl mo : Int32) : Nat → Int32 := ub (ub (hdr nt e l len nu pl mo) 24 ((65535 - smr (hdr nt e l len nu pl mo) 10) / 256)) 25 (65535 - smr (hdr nt e l len nu pl mo) 10)
theorem byt_hdr {nt e l len nu pl mo : Int32} {n : Nat} : byt (hdr nt e l len nu pl mo) n := byt_ub (byt_ub (byt_ub (byt_ub (byt_ub (byt_ub (byt_ub (byt_ub (byt_ub (byt_ub (byt_ub (byt_ub (byt_ub (byt_ub (byt_ub (byt_ub (byt_ub (byt_ub (byt_ub (byt_ub (byt_ub (byt_ub (byt_0))))))))))))))))))))))
theorem hdr_eq {nt e l pl mo : Int32} {len q : Nat} (hl : len ≤ 161) (hq : q < 65536) : ∀ k, tel (bgn l e nt (nI len)) (nI q) pl mo k = hdr nt e l (nI len) (nI q) pl mo k := by
  have e1 : (20 : Int32) + nI len = nI len + 20 := Int32.add_comm _ _
  have e2 : nI len + 20 = nI (len + 20) := nI_add len 20
  have e3 : (nI len + 20) >>> ((8 : Int32) &&& 31) = (nI len + 20) / 256 := by
    rw [e2, pk_shrN (by omega) ((8 : Int32) &&& 31) 8 (by decide), show (256 : Int32) = nI 256 from rfl, pk_div (by omega) (by decide) (by decide)]
  have e4 : nI q >>> ((8 : Int32) &&& 31) = nI q / 256 := by
    rw [pk_shrN (by omega) ((8 : Int32) &&& 31) 8 (by decide), show (256 : Int32) = nI 256 from rfl, pk_div (by omega) (by decide) (by decide)]
  intro k
  unfold tel bgn hdr
  rw [e1, e3, e4]
  by_cases c : k < 34
  · rcases (show k = 0 ∨ k = 1 ∨ k = 2 ∨ k = 3 ∨ k = 4 ∨ k = 5 ∨ k = 6 ∨ k = 7 ∨ k = 8 ∨ k = 9 ∨ k = 10 ∨ k = 11 ∨ k = 12 ∨ k = 13 ∨ k = 14 ∨ k = 15 ∨ k = 16 ∨ k = 17 ∨ k = 18 ∨ k = 19 ∨ k = 20 ∨ k = 21 ∨ k = 22 ∨ k = 23 ∨ k = 24 ∨ k = 25 ∨ k = 26 ∨ k = 27 ∨ k = 28 ∨ k = 29 ∨ k = 30 ∨ k = 31 ∨ k = 32 ∨ k = 33 by omega) with h | h | h | h | h | h | h | h | h | h | h | h | h | h | h | h | h | h | h | h | h | h | h | h | h | h | h | h | h | h | h | h | h | h <;> subst h <;> rfl
  · rw [ub_ne (by omega), ub_ne (by omega), ub_ne (by omega), ub_ne (by omega), ub_ne (by omega), ub_ne (by omega), ub_ne (by omega), ub_ne (by omega), ub_ne (by omega), ub_ne (by omega), ub_ne (by omega), ub_ne (by omega), ub_ne (by omega), ub_ne (by omega), ub_ne (by omega), ub_ne (by omega), ub_ne (by omega), ub_ne (by omega), ub_ne (by omega), ub_ne (by omega), ub_ne (by omega), ub_ne (by omega)]
    rw [ub_ne (by omega), ub_ne (by omega), ub_ne (by omega), ub_ne (by omega), ub_ne (by omega), ub_ne (by omega), ub_ne (by omega), ub_ne (by omega), ub_ne (by omega), ub_ne (by omega), ub_ne (by omega), ub_ne (by omega), ub_ne (by omega), ub_ne (by omega), ub_ne (by omega), ub_ne (by omega), ub_ne (by omega), ub_ne (by omega), ub_ne (by omega), ub_ne (by omega), ub_ne (by omega), ub_ne (by omega)]
theorem r_103cw {b : Bool} {σ0 : ae_S} {F0 F Fb : Nat → Nat → Int32} {c u g : Int32} (h : RS b σ0 F0 σ c u g F) {nt e l len nu pl mo : Int32} {f : Nat} (hf : f < 400) {x9 : Option Value} (hW : Wr Fb f (ub (ub (ub (ub (ub (ub (ub (ub (ub (ub (ub (ub (fun _ => 0) 0 3) 5 l) 6 2) 10 e) 11 (if nt = 0 then 32 else 64)) 12 8) 14 69) 16 ((len + 20) / 256)) 17 (len + 20)) 18 (nu / 256)) 19 nu) 20 (if mo = 0 then 0 else 32)) F) : hG ra (d + 3) 103 σ [some (.ref 176), some (.int nt), some (.int e), some (.int l), some (.int len), some (.int nu), some (.int pl), some (.int mo), some (.int (nI f)), x9] [] 179 (pI (fun σ' v => v = nI f ∧ ∃ F', RS b σ0 F0 σ' c u g F' ∧ Wr Fb f (frc nt e l len nu pl mo) F')) := by
  refine h_st rfl rfl ?_
  refine h_st rfl rfl ?_
  refine h_st rfl rfl ?_
  refine h_st rfl rfl ?_
  refine h_st rfl rfl ?_
  refine h_st rfl (e_dv (by decide)) ?_
  refine h_cv4 rfl (Nat.le_of_ble_eq_true rfl) (e_rcv h.2.1) rfl (r_105w h hW hf rfl (rfl : (21 : Int32) = nI 21) (by decide)) (fun σ2 hq => ?_)
  obtain ⟨F2, h2, hW2⟩ := hq
  replace hW := hW2
  replace h := h2
  clear h2 hW2
  refine h_st rfl rfl ?_
  refine h_st rfl rfl ?_
  refine h_st rfl rfl ?_
  refine h_st rfl rfl ?_
  refine h_cv4 rfl (Nat.le_of_ble_eq_true rfl) (e_rcv h.2.1) rfl (r_105w h hW hf rfl (rfl : (22 : Int32) = nI 22) (by decide)) (fun σ2 hq => ?_)
  obtain ⟨F2, h2, hW2⟩ := hq
  replace hW := hW2
  replace h := h2
  clear h2 hW2
  refine h_st rfl rfl ?_
  refine h_st rfl rfl ?_
  refine h_st rfl rfl ?_
  refine h_st rfl rfl ?_
  refine h_cv4 rfl (Nat.le_of_ble_eq_true rfl) (e_rcv h.2.1) rfl (r_105w h hW hf rfl (rfl : (23 : Int32) = nI 23) (by decide)) (fun σ2 hq => ?_)
  obtain ⟨F2, h2, hW2⟩ := hq
  replace hW := hW2
  replace h := h2
  clear h2 hW2
  refine h_st rfl rfl ?_
  refine h_st rfl rfl ?_
  refine h_st rfl rfl ?_
  refine h_st rfl rfl ?_
  refine h_cv4 rfl (Nat.le_of_ble_eq_true rfl) (e_rcv h.2.1) rfl (r_105w h hW hf rfl (rfl : (26 : Int32) = nI 26) (by decide)) (fun σ2 hq => ?_)
  obtain ⟨F2, h2, hW2⟩ := hq
  replace hW := hW2
  replace h := h2
  clear h2 hW2
  refine h_st rfl rfl ?_
  refine h_st rfl rfl ?_
  refine h_st rfl rfl ?_
  refine h_st rfl rfl ?_
  refine h_cv4 rfl (Nat.le_of_ble_eq_true rfl) (e_rcv h.2.1) rfl (r_105w h hW hf rfl (rfl : (27 : Int32) = nI 27) (by decide)) (fun σ2 hq => ?_)
  obtain ⟨F2, h2, hW2⟩ := hq
  replace hW := hW2
  replace h := h2
  clear h2 hW2
  refine h_st rfl rfl ?_
  refine h_st rfl rfl ?_
  refine h_st rfl rfl ?_
  refine h_st rfl rfl ?_
  refine h_cv4 rfl (Nat.le_of_ble_eq_true rfl) (e_rcv h.2.1) rfl (r_105w h hW hf rfl (rfl : (28 : Int32) = nI 28) (by decide)) (fun σ2 hq => ?_)
  obtain ⟨F2, h2, hW2⟩ := hq
  replace hW := hW2
  replace h := h2
  clear h2 hW2
  refine h_st rfl rfl ?_
  refine h_st rfl rfl ?_
  refine h_st rfl rfl ?_
  refine h_st rfl rfl ?_
  refine h_cv4 rfl (Nat.le_of_ble_eq_true rfl) (e_rcv h.2.1) rfl (r_105w h hW hf rfl (rfl : (29 : Int32) = nI 29) (by decide)) (fun σ2 hq => ?_)
  obtain ⟨F2, h2, hW2⟩ := hq
  replace hW := hW2
  replace h := h2
  clear h2 hW2
  refine h_st rfl rfl ?_
  refine h_st rfl rfl ?_
  refine h_st rfl rfl ?_
  refine h_st rfl rfl ?_
  refine h_cv4 rfl (Nat.le_of_ble_eq_true rfl) (e_rcv h.2.1) rfl (r_105w h hW hf rfl (rfl : (30 : Int32) = nI 30) (by decide)) (fun σ2 hq => ?_)
  obtain ⟨F2, h2, hW2⟩ := hq
  replace hW := hW2
  replace h := h2
  clear h2 hW2
  refine h_st rfl rfl ?_
  refine h_st rfl rfl ?_
  refine h_st rfl rfl ?_
  refine h_st rfl rfl ?_
  refine h_cv4 rfl (Nat.le_of_ble_eq_true rfl) (e_rcv h.2.1) rfl (r_105w h hW hf rfl (rfl : (31 : Int32) = nI 31) (by decide)) (fun σ2 hq => ?_)
  obtain ⟨F2, h2, hW2⟩ := hq
  replace hW := hW2
  replace h := h2
  clear h2 hW2
  refine h_st rfl rfl ?_
  refine h_st rfl rfl ?_
  refine h_st rfl rfl ?_
  refine h_st rfl rfl ?_
  refine h_cv4 rfl (Nat.le_of_ble_eq_true rfl) (e_rcv h.2.1) rfl (r_105w h hW hf rfl (rfl : (33 : Int32) = nI 33) (by decide)) (fun σ2 hq => ?_)
  obtain ⟨F2, h2, hW2⟩ := hq
  replace hW := hW2
  replace h := h2
  clear h2 hW2
  refine h_st rfl rfl ?_
  refine h_st rfl rfl ?_
  refine h_ci2 rfl (Nat.le_of_ble_eq_true rfl) (e_rcv h.2.1) rfl (r_106w h rfl hf hW.2.2) (fun σ' y hq => ?_)
  obtain ⟨hss, rfl⟩ := hq
  replace hss := hss.symm
  subst hss
  refine h_st rfl rfl ?_
  refine h_st rfl rfl ?_
  refine h_st rfl rfl ?_
  refine h_st rfl rfl ?_
  refine h_st rfl rfl ?_
  refine h_st rfl rfl ?_
  refine h_st rfl (e_dv (by decide)) ?_
  refine h_cv4 rfl (Nat.le_of_ble_eq_true rfl) (e_rcv h.2.1) rfl (r_105w h hW hf rfl (rfl : (24 : Int32) = nI 24) (by decide)) (fun σ2 hq => ?_)
  obtain ⟨F2, h2, hW2⟩ := hq
  replace hW := hW2
  replace h := h2
  clear h2 hW2
  refine h_st rfl rfl ?_
  refine h_st rfl rfl ?_
  refine h_st rfl rfl ?_
  refine h_st rfl rfl ?_
  refine h_cv4 rfl (Nat.le_of_ble_eq_true rfl) (e_rcv h.2.1) rfl (r_105w h hW hf rfl (rfl : (25 : Int32) = nI 25) (by decide)) (fun σ2 hq => ?_)
  obtain ⟨F2, h2, hW2⟩ := hq
  replace hW := hW2
  replace h := h2
  clear h2 hW2
  refine h_st rfl rfl ?_
  exact h_rt rfl rfl (⟨_, _, rfl, rfl, _, h, hW⟩)
theorem r_103bw {b : Bool} {σ0 : ae_S} {F0 F Fb : Nat → Nat → Int32} {c u g : Int32} (h : RS b σ0 F0 σ c u g F) {nt e l len nu pl mo : Int32} {f : Nat} (hf : f < 400) {x9 : Option Value} (hW : Wr Fb f (ub (ub (ub (ub (ub (fun _ => 0) 0 3) 5 l) 6 2) 10 e) 11 (if nt = 0 then 32 else 64)) F) : hG ra (d + 3) 103 σ [some (.ref 176), some (.int nt), some (.int e), some (.int l), some (.int len), some (.int nu), some (.int pl), some (.int mo), some (.int (nI f)), x9] [] 86 (pI (fun σ' v => v = nI f ∧ ∃ F', RS b σ0 F0 σ' c u g F' ∧ Wr Fb f (frc nt e l len nu pl mo) F')) := by
  refine h_st rfl rfl ?_
  refine h_st rfl rfl ?_
  refine h_st rfl rfl ?_
  refine h_st rfl rfl ?_
  refine h_cv4 rfl (Nat.le_of_ble_eq_true rfl) (e_rcv h.2.1) rfl (r_105w h hW hf rfl (rfl : (12 : Int32) = nI 12) (by decide)) (fun σ2 hq => ?_)
  obtain ⟨F2, h2, hW2⟩ := hq
  replace hW := hW2
  replace h := h2
  clear h2 hW2
  refine h_st rfl rfl ?_
  refine h_st rfl rfl ?_
  refine h_st rfl rfl ?_
  refine h_st rfl rfl ?_
  refine h_cv4 rfl (Nat.le_of_ble_eq_true rfl) (e_rcv h.2.1) rfl (r_105w h hW hf rfl (rfl : (14 : Int32) = nI 14) (by decide)) (fun σ2 hq => ?_)
  obtain ⟨F2, h2, hW2⟩ := hq
  replace hW := hW2
  replace h := h2
  clear h2 hW2
  refine h_st rfl rfl ?_
  refine h_st rfl rfl ?_
  refine h_st rfl rfl ?_
  refine h_st rfl rfl ?_
  refine h_st rfl rfl ?_
  refine h_st rfl rfl ?_
  refine h_st rfl rfl ?_
  refine h_st rfl (e_dv (by decide)) ?_
  refine h_cv4 rfl (Nat.le_of_ble_eq_true rfl) (e_rcv h.2.1) rfl (r_105w h hW hf rfl (rfl : (16 : Int32) = nI 16) (by decide)) (fun σ2 hq => ?_)
  obtain ⟨F2, h2, hW2⟩ := hq
  replace hW := hW2
  replace h := h2
  clear h2 hW2
  refine h_st rfl rfl ?_
  refine h_st rfl rfl ?_
  refine h_st rfl rfl ?_
  refine h_st rfl rfl ?_
  refine h_st rfl rfl ?_
  refine h_st rfl rfl ?_
  refine h_cv4 rfl (Nat.le_of_ble_eq_true rfl) (e_rcv h.2.1) rfl (r_105w h hW hf rfl (rfl : (17 : Int32) = nI 17) (by decide)) (fun σ2 hq => ?_)
  obtain ⟨F2, h2, hW2⟩ := hq
  replace hW := hW2
  replace h := h2
  clear h2 hW2
  refine h_st rfl rfl ?_
  refine h_st rfl rfl ?_
  refine h_st rfl rfl ?_
  refine h_st rfl rfl ?_
  refine h_st rfl rfl ?_
  refine h_st rfl (e_dv (by decide)) ?_
  refine h_cv4 rfl (Nat.le_of_ble_eq_true rfl) (e_rcv h.2.1) rfl (r_105w h hW hf rfl (rfl : (18 : Int32) = nI 18) (by decide)) (fun σ2 hq => ?_)
  obtain ⟨F2, h2, hW2⟩ := hq
  replace hW := hW2
  replace h := h2
  clear h2 hW2
  refine h_st rfl rfl ?_
  refine h_st rfl rfl ?_
  refine h_st rfl rfl ?_
  refine h_st rfl rfl ?_
  refine h_cv4 rfl (Nat.le_of_ble_eq_true rfl) (e_rcv h.2.1) rfl (r_105w h hW hf rfl (rfl : (19 : Int32) = nI 19) (by decide)) (fun σ2 hq => ?_)
  obtain ⟨F2, h2, hW2⟩ := hq
  replace hW := hW2
  replace h := h2
  clear h2 hW2
  refine h_st rfl rfl ?_
  refine h_st rfl rfl ?_
  refine h_st rfl rfl ?_
  refine h_st rfl rfl ?_
  refine h_st rfl rfl ?_
  refine h_br (fun q2 => ?_) (fun q2 => ?_)
  · refine h_st rfl rfl ?_
    refine h_cv4 rfl (Nat.le_of_ble_eq_true rfl) (e_rcv h.2.1) rfl (r_105w h hW hf rfl (rfl : (20 : Int32) = nI 20) (by decide)) (fun σ2 hq => ?_)
    obtain ⟨F2, h2, hW2⟩ := hq
    replace hW := hW2
    replace h := h2
    clear h2 hW2
    refine r_103cw h hf ?_; rw [if_pos q2]; exact hW
  · refine h_st rfl rfl ?_
    refine h_st rfl rfl ?_
    refine h_cv4 rfl (Nat.le_of_ble_eq_true rfl) (e_rcv h.2.1) rfl (r_105w h hW hf rfl (rfl : (20 : Int32) = nI 20) (by decide)) (fun σ2 hq => ?_)
    obtain ⟨F2, h2, hW2⟩ := hq
    replace hW := hW2
    replace h := h2
    clear h2 hW2
    refine r_103cw h hf ?_; rw [if_neg q2]; exact hW
theorem r_103aw {b : Bool} {σ0 : ae_S} {F0 F Fb : Nat → Nat → Int32} {c u g : Int32} (h : RS b σ0 F0 σ c u g F) {nt e l len nu pl mo : Int32} {f : Nat} (hf : f < 400) {x9 : Option Value} (hW : Wr Fb f (fun _ => 0) F) : hG ra (d + 3) 103 σ [some (.ref 176), some (.int nt), some (.int e), some (.int l), some (.int len), some (.int nu), some (.int pl), some (.int mo), some (.int (nI f)), x9] [] 33 (pI (fun σ' v => v = nI f ∧ ∃ F', RS b σ0 F0 σ' c u g F' ∧ Wr Fb f (frc nt e l len nu pl mo) F')) := by
  refine h_st rfl rfl ?_
  refine h_st rfl rfl ?_
  refine h_st rfl rfl ?_
  refine h_st rfl rfl ?_
  refine h_cv4 rfl (Nat.le_of_ble_eq_true rfl) (e_rcv h.2.1) rfl (r_105w h hW hf rfl (rfl : (0 : Int32) = nI 0) (by decide)) (fun σ2 hq => ?_)
  obtain ⟨F2, h2, hW2⟩ := hq
  replace hW := hW2
  replace h := h2
  clear h2 hW2
  refine h_st rfl rfl ?_
  refine h_st rfl rfl ?_
  refine h_st rfl rfl ?_
  refine h_st rfl rfl ?_
  refine h_cv4 rfl (Nat.le_of_ble_eq_true rfl) (e_rcv h.2.1) rfl (r_105w h hW hf rfl (rfl : (5 : Int32) = nI 5) (by decide)) (fun σ2 hq => ?_)
  obtain ⟨F2, h2, hW2⟩ := hq
  replace hW := hW2
  replace h := h2
  clear h2 hW2
  refine h_st rfl rfl ?_
  refine h_st rfl rfl ?_
  refine h_st rfl rfl ?_
  refine h_st rfl rfl ?_
  refine h_cv4 rfl (Nat.le_of_ble_eq_true rfl) (e_rcv h.2.1) rfl (r_105w h hW hf rfl (rfl : (6 : Int32) = nI 6) (by decide)) (fun σ2 hq => ?_)
  obtain ⟨F2, h2, hW2⟩ := hq
  replace hW := hW2
  replace h := h2
  clear h2 hW2
  refine h_st rfl rfl ?_
  refine h_st rfl rfl ?_
  refine h_st rfl rfl ?_
  refine h_st rfl rfl ?_
  refine h_cv4 rfl (Nat.le_of_ble_eq_true rfl) (e_rcv h.2.1) rfl (r_105w h hW hf rfl (rfl : (10 : Int32) = nI 10) (by decide)) (fun σ2 hq => ?_)
  obtain ⟨F2, h2, hW2⟩ := hq
  replace hW := hW2
  replace h := h2
  clear h2 hW2
  refine h_st rfl rfl ?_
  refine h_st rfl rfl ?_
  refine h_st rfl rfl ?_
  refine h_st rfl rfl ?_
  refine h_st rfl rfl ?_
  refine h_br (fun q2 => ?_) (fun q2 => ?_)
  · refine h_st rfl rfl ?_
    refine h_cv4 rfl (Nat.le_of_ble_eq_true rfl) (e_rcv h.2.1) rfl (r_105w h hW hf rfl (rfl : (11 : Int32) = nI 11) (by decide)) (fun σ2 hq => ?_)
    obtain ⟨F2, h2, hW2⟩ := hq
    replace hW := hW2
    replace h := h2
    clear h2 hW2
    refine r_103bw h hf ?_; rw [if_neg q2]; exact hW
  · refine h_st rfl rfl ?_
    refine h_st rfl rfl ?_
    refine h_cv4 rfl (Nat.le_of_ble_eq_true rfl) (e_rcv h.2.1) rfl (r_105w h hW hf rfl (rfl : (11 : Int32) = nI 11) (by decide)) (fun σ2 hq => ?_)
    obtain ⟨F2, h2, hW2⟩ := hq
    replace hW := hW2
    replace h := h2
    clear h2 hW2
    refine r_103bw h hf ?_; rw [if_pos (Decidable.of_not_not q2)]; exact hW
theorem r_103w {b : Bool} {σ0 : ae_S} {F0 F : Nat → Nat → Int32} {c u g : Int32} (h : RS b σ0 F0 σ c u g F) (hfree : ∃ f0, f0 < 400 ∧ F 196 f0 = 0) {nt e l len nu pl mo : Int32} {m : Nat} (hm : (if 64 ≤ len + 39 then len + 39 else 64) = nI m) : hE ra (d + 4) 103 [.ref 176, .int nt, .int e, .int l, .int len, .int nu, .int pl, .int mo] σ (pI (fun σ' v => ∃ f F', v = nI f ∧ f < 400 ∧ F 196 f = 0 ∧ RS b σ0 F0 σ' c u g F' ∧ Wr (fu (fu F 196 (upd (F 196) f 1)) 195 (upd (F 195) f (nI m))) f (frc nt e l len nu pl mo) F')) := by
  refine h_in rfl rfl (Nat.le_of_ble_eq_true rfl) ?_
  refine h_st rfl rfl ?_
  refine h_ci1 rfl (Nat.le_of_ble_eq_true rfl) (e_rcv h.2.1) rfl (r_104w h hfree) (fun σ1 v hq => ?_)
  obtain ⟨f, F1, rfl, hf, huf, h1, hW⟩ := hq
  have hW0 := hW
  replace h := h1
  clear h1
  refine h_st rfl rfl ?_
  refine h_st rfl rfl ?_
  refine h_st rfl (e_get h.2.1 rfl) ?_
  refine h_st rfl rfl ?_
  refine h_st rfl rfl ?_
  refine h_st rfl rfl ?_
  refine h_st rfl rfl ?_
  refine h_st rfl rfl ?_
  refine h_st rfl rfl ?_
  refine h_br (fun q1 => ?_) (fun q1 => ?_)
  · refine h_st rfl rfl ?_
    refine h_st rfl rfl ?_
    refine h_st rfl rfl ?_
    refine r_ias rfl h m195 (fun _ => by decide) (by decide) (rfl) (hf) (show len + 39 = nI m from by rw [if_pos q1] at hm; exact hm) (fun σ2 h2 => ?_)
    replace h := h2
    clear h2
    replace hW := hW.sz (x := nI m)
    rw [fu_n (show (195 : Nat) ≠ 196 by decide)] at hW
    rw [hW0.1 195 (by decide), fu_n (show (195 : Nat) ≠ 196 by decide)] at h
    rw [hW0.1 195 (by decide), fu_n (show (195 : Nat) ≠ 196 by decide)] at hW
    refine hG_mono (r_103aw h hf hW) (fun r z => ?_)
    obtain ⟨σ', v, er, ev, F', h1, h2⟩ := z
    exact ⟨σ', v, er, f, F', ev, hf, huf, h1, h2⟩
  · refine h_st rfl rfl ?_
    refine h_st rfl rfl ?_
    refine r_ias rfl h m195 (fun _ => by decide) (by decide) (rfl) (hf) (show (64 : Int32) = nI m from by rw [if_neg q1] at hm; exact hm) (fun σ2 h2 => ?_)
    replace h := h2
    clear h2
    replace hW := hW.sz (x := nI m)
    rw [fu_n (show (195 : Nat) ≠ 196 by decide)] at hW
    rw [hW0.1 195 (by decide), fu_n (show (195 : Nat) ≠ 196 by decide)] at h
    rw [hW0.1 195 (by decide), fu_n (show (195 : Nat) ≠ 196 by decide)] at hW
    refine hG_mono (r_103aw h hf hW) (fun r z => ?_)
    obtain ⟨σ', v, er, ev, F', h1, h2⟩ := z
    exact ⟨σ', v, er, f, F', ev, hf, huf, h1, h2⟩
theorem dg_c {l : Nat} (hl : l < 8) : (1000 + nI l) / 256 &&& 255 = 3 &&& 255 ∧ (1000 + nI l) &&& 255 = (232 + nI l) &&& 255 ∧ (2000 + nI l) / 256 &&& 255 = 7 &&& 255 ∧ (2000 + nI l) &&& 255 = (208 + nI l) &&& 255 := by
  rcases (show l = 0 ∨ l = 1 ∨ l = 2 ∨ l = 3 ∨ l = 4 ∨ l = 5 ∨ l = 6 ∨ l = 7 by omega) with h | h | h | h | h | h | h | h <;> subst h <;> decide
theorem r_109w {l k : Nat} {x : AG} {y0 y1 y3 : Int32} (e0 : y0 = nI l) (e1 : y1 = nI x.2.1) (e3 : y3 = nI k) (hl : l < 8) (hx : x.2.1 ≤ 400) (hk : k < 2 ^ 31) : hE ra (d + 1) 109 [.int y0, .int y1, .int x.2.2.1, .int y3] σ (pI (fun σ' y => σ' = σ ∧ y &&& 255 = dgb l x k &&& 255)) := by
  subst e0
  subst e1
  subst e3
  obtain ⟨d1, d2, d3, d4⟩ := dg_c hl
  have e8 : (8 : Int32) + nI x.2.1 = nI x.2.1 + 8 := Int32.add_comm _ _
  have e4 : (nI x.2.1 + 8) / 256 = (8 + nI x.2.1) >>> ((8 : Int32) &&& 31) := by
    rw [e8, show nI x.2.1 + 8 = nI (x.2.1 + 8) from nI_add x.2.1 8, pk_shrN (by omega) ((8 : Int32) &&& 31) 8 (by decide), show (256 : Int32) = nI 256 from rfl, pk_div (by omega) (by decide) (by decide)]
  by_cases h8 : 8 ≤ k
  · have esw : (if (nI k).toInt < 0 ∨ 7 < (nI k).toInt then 96 else [48, 58, 64, 74, 80, 89, 94, 94].getD ((nI k).toInt - 0).toNat 0) = 96 := if_pos (Or.inr (by rw [nI_toInt hk]; omega))
    refine h_in rfl rfl (Nat.le_of_ble_eq_true rfl) ?_
    refine h_st rfl rfl ?_
    refine h_st rfl rfl ?_
    refine h_pc (esw) ?_
    refine h_st rfl rfl ?_
    refine h_st rfl rfl ?_
    refine h_st rfl rfl ?_
    refine h_st rfl rfl ?_
    refine h_st rfl rfl ?_
    refine h_st rfl rfl ?_
    refine h_st rfl rfl ?_
    refine h_st rfl rfl ?_
    refine h_st rfl rfl ?_
    refine h_st rfl rfl ?_
    refine h_st rfl rfl ?_
    refine h_st rfl rfl ?_
    refine h_st rfl rfl ?_
    refine h_st rfl rfl ?_
    refine h_st rfl rfl ?_
    refine h_st rfl (e_dv (by decide)) ?_
    refine h_st rfl rfl ?_
    exact h_rt rfl rfl (⟨_, _, rfl, rfl, by unfold dgb; rw [if_neg (by omega), if_neg (by omega), if_neg (by omega), if_neg (by omega), if_neg (by omega), if_neg (by omega), if_neg (by omega), if_neg (by omega), a255]⟩)
  · rcases (show k = 0 ∨ k = 1 ∨ k = 2 ∨ k = 3 ∨ k = 4 ∨ k = 5 ∨ k = 6 ∨ k = 7 by omega) with e | e | e | e | e | e | e | e <;> subst e
    · refine h_in rfl rfl (Nat.le_of_ble_eq_true rfl) ?_
      refine h_st rfl rfl ?_
      refine h_st rfl rfl ?_
      refine h_pc ((by decide : (if (nI 0).toInt < 0 ∨ 7 < (nI 0).toInt then 96 else [48, 58, 64, 74, 80, 89, 94, 94].getD ((nI 0).toInt - 0).toNat 0) = 48)) ?_
      refine h_st rfl rfl ?_
      refine h_st rfl rfl ?_
      refine h_st rfl rfl ?_
      refine h_st rfl rfl ?_
      refine h_st rfl (e_dv (by decide)) ?_
      exact h_rt rfl rfl (⟨_, _, rfl, rfl, d1⟩)
    · refine h_in rfl rfl (Nat.le_of_ble_eq_true rfl) ?_
      refine h_st rfl rfl ?_
      refine h_st rfl rfl ?_
      refine h_pc ((by decide : (if (nI 1).toInt < 0 ∨ 7 < (nI 1).toInt then 96 else [48, 58, 64, 74, 80, 89, 94, 94].getD ((nI 1).toInt - 0).toNat 0) = 58)) ?_
      refine h_st rfl rfl ?_
      refine h_st rfl rfl ?_
      refine h_st rfl rfl ?_
      exact h_rt rfl rfl (⟨_, _, rfl, rfl, d2⟩)
    · refine h_in rfl rfl (Nat.le_of_ble_eq_true rfl) ?_
      refine h_st rfl rfl ?_
      refine h_st rfl rfl ?_
      refine h_pc ((by decide : (if (nI 2).toInt < 0 ∨ 7 < (nI 2).toInt then 96 else [48, 58, 64, 74, 80, 89, 94, 94].getD ((nI 2).toInt - 0).toNat 0) = 64)) ?_
      refine h_st rfl rfl ?_
      refine h_st rfl rfl ?_
      refine h_st rfl rfl ?_
      refine h_st rfl rfl ?_
      refine h_st rfl (e_dv (by decide)) ?_
      exact h_rt rfl rfl (⟨_, _, rfl, rfl, d3⟩)
    · refine h_in rfl rfl (Nat.le_of_ble_eq_true rfl) ?_
      refine h_st rfl rfl ?_
      refine h_st rfl rfl ?_
      refine h_pc ((by decide : (if (nI 3).toInt < 0 ∨ 7 < (nI 3).toInt then 96 else [48, 58, 64, 74, 80, 89, 94, 94].getD ((nI 3).toInt - 0).toNat 0) = 74)) ?_
      refine h_st rfl rfl ?_
      refine h_st rfl rfl ?_
      refine h_st rfl rfl ?_
      exact h_rt rfl rfl (⟨_, _, rfl, rfl, d4⟩)
    · refine h_in rfl rfl (Nat.le_of_ble_eq_true rfl) ?_
      refine h_st rfl rfl ?_
      refine h_st rfl rfl ?_
      refine h_pc ((by decide : (if (nI 4).toInt < 0 ∨ 7 < (nI 4).toInt then 96 else [48, 58, 64, 74, 80, 89, 94, 94].getD ((nI 4).toInt - 0).toNat 0) = 80)) ?_
      refine h_st rfl rfl ?_
      refine h_st rfl rfl ?_
      refine h_st rfl rfl ?_
      refine h_st rfl rfl ?_
      refine h_st rfl (e_dv (by decide)) ?_
      exact h_rt rfl rfl (⟨_, _, rfl, rfl, by show (nI x.2.1 + 8) / 256 &&& 255 = ((8 + nI x.2.1) >>> ((8 : Int32) &&& 31)) &&& 255; rw [e4]⟩)
    · refine h_in rfl rfl (Nat.le_of_ble_eq_true rfl) ?_
      refine h_st rfl rfl ?_
      refine h_st rfl rfl ?_
      refine h_pc ((by decide : (if (nI 5).toInt < 0 ∨ 7 < (nI 5).toInt then 96 else [48, 58, 64, 74, 80, 89, 94, 94].getD ((nI 5).toInt - 0).toNat 0) = 89)) ?_
      refine h_st rfl rfl ?_
      refine h_st rfl rfl ?_
      refine h_st rfl rfl ?_
      exact h_rt rfl rfl (⟨_, _, rfl, rfl, by show (nI x.2.1 + 8) &&& 255 = ((8 + nI x.2.1) &&& 255) &&& 255; rw [a255, e8]⟩)
    · refine h_in rfl rfl (Nat.le_of_ble_eq_true rfl) ?_
      refine h_st rfl rfl ?_
      refine h_st rfl rfl ?_
      refine h_pc ((by decide : (if (nI 6).toInt < 0 ∨ 7 < (nI 6).toInt then 96 else [48, 58, 64, 74, 80, 89, 94, 94].getD ((nI 6).toInt - 0).toNat 0) = 94)) ?_
      refine h_st rfl rfl ?_
      exact h_rt rfl rfl (⟨_, _, rfl, rfl, rfl⟩)
    · refine h_in rfl rfl (Nat.le_of_ble_eq_true rfl) ?_
      refine h_st rfl rfl ?_
      refine h_st rfl rfl ?_
      refine h_pc ((by decide : (if (nI 7).toInt < 0 ∨ 7 < (nI 7).toInt then 96 else [48, 58, 64, 74, 80, 89, 94, 94].getD ((nI 7).toInt - 0).toNat 0) = 94)) ?_
      refine h_st rfl rfl ?_
      exact h_rt rfl rfl (⟨_, _, rfl, rfl, rfl⟩)
theorem r_117lw {b : Bool} {σ0 : ae_S} {F0 F : Nat → Nat → Int32} {c u g : Int32} (h : RS b σ0 F0 σ c u g F) {f : Nat} {x : Int32} {gc : Nat → Int32} (ef : x = nI f) (hf : f < 400) (hg : ∀ k, k < 200 → F 194 (200 * f + k) = gc k) {P : ae_S × ae_O → Prop} (hx : ∀ x2 : Int32, ((x2 = 1 ∧ (gc 0 = 3 ∧ ¬ 8 ≤ gc 5) ∧ ∀ i, 1 ≤ i → i < 5 → gc i = 0) ∨ (x2 = 0 ∧ ¬ ((gc 0 = 3 ∧ ¬ 8 ≤ gc 5) ∧ ∀ i, 1 ≤ i → i < 5 → gc i = 0))) → hG ra (d + 1) 117 σ [some (.ref 176), some (.int x), some (.int x2), some (.int (nI 5))] [] 59 P) : ∀ (m j : Nat) (x2 : Int32), ((x2 = 1 ∧ (gc 0 = 3 ∧ ¬ 8 ≤ gc 5) ∧ ∀ i, 1 ≤ i → i < j → gc i = 0) ∨ (x2 = 0 ∧ ¬ ((gc 0 = 3 ∧ ¬ 8 ≤ gc 5) ∧ ∀ i, 1 ≤ i → i < j → gc i = 0))) → 1 ≤ j → j + m = 5 → hG ra (d + 1) 117 σ [some (.ref 176), some (.int x), some (.int x2), some (.int (nI j))] [] 29 P := by
  intro m
  induction m with
  | zero =>
    intro j x2 hb h1 hj
    have hj : j = 5 := by omega
    subst hj
    refine h_st rfl rfl ?_
    refine h_st rfl rfl ?_
    refine h_st rfl rfl ?_
    refine h_pc (if_pos (decide_eq_true (nI_le (Nat.le_refl 5) (by decide)))) ?_
    exact hx _ hb
  | succ m ih =>
    intro j x2 hb h1 hj
    have ih1 := fun x3 hb => ih (j + 1) x3 hb (by omega) (by omega)
    simp only [← nI_1] at ih1
    refine h_st rfl rfl ?_
    refine h_st rfl rfl ?_
    refine h_st rfl rfl ?_
    refine h_pc (if_neg (fun z9 => (nI_ge (show j < 5 by omega) (by decide)) (of_decide_eq_true z9))) ?_
    refine h_st rfl rfl ?_
    refine h_st rfl rfl ?_
    refine h_br (fun q1 => ?_) (fun q1 => ?_)
    · refine h_st rfl rfl ?_
      refine h_st rfl rfl ?_
      refine h_st rfl rfl ?_
      refine h_st rfl rfl ?_
      exact ih1 _ (Or.inr ⟨rfl, fun z => hb.elim (fun y => absurd (y.1.symm.trans q1) (by decide)) (fun y => y.2 ⟨z.1, fun i z1 z2 => z.2 i z1 (by omega)⟩)⟩)
    · refine h_st rfl rfl ?_
      refine h_st rfl rfl ?_
      refine h_st rfl rfl ?_
      refine h_ci3 rfl (Nat.le_of_ble_eq_true rfl) (e_rcv h.2.1) rfl (r_108 h ef hf (rfl) (by omega)) (fun σ' y hq => ?_)
      obtain ⟨hss, ey⟩ := hq
      replace hss := hss.symm
      subst hss
      rw [hg j (by omega)] at ey
      subst ey
      refine h_st rfl rfl ?_
      refine h_br (fun q2 => ?_) (fun q2 => ?_)
      · refine h_st rfl rfl ?_
        refine h_st rfl rfl ?_
        refine h_st rfl rfl ?_
        refine h_st rfl rfl ?_
        exact ih1 _ (Or.inr ⟨rfl, fun z => q2 (z.2 j h1 (by omega))⟩)
      · refine h_st rfl rfl ?_
        refine h_st rfl rfl ?_
        refine h_st rfl rfl ?_
        refine h_st rfl rfl ?_
        refine h_st rfl rfl ?_
        exact ih1 _ (Or.inl ⟨rfl, (hb.elim (fun y => y.2.1) (fun y => absurd y.1 q1)), fun i z1 z2 => by rcases Nat.lt_succ_iff_lt_or_eq.mp z2 with z | z; exact (hb.elim (fun y => y.2.2) (fun y => absurd y.1 q1)) i z1 z; rw [z]; exact Decidable.of_not_not q2⟩)
theorem lnk_rg {gc : Nat → Int32} (hby : byt gc 200) (l : Nat) (hl : l < 8) : lnk gc = nI l ↔ ((gc 0 = 3 ∧ ¬ 8 ≤ gc 5) ∧ ∀ i, 1 ≤ i → i < 5 → gc i = 0) ∧ gc 5 = nI l := by
  obtain ⟨b1, h1, e1⟩ := hby 1 (by decide)
  obtain ⟨b2, h2, e2⟩ := hby 2 (by decide)
  obtain ⟨b3, h3, e3⟩ := hby 3 (by decide)
  obtain ⟨b4, h4, e4⟩ := hby 4 (by decide)
  have p1 := (pa_nI e1 e2 h1 h2).1
  have p3 := (pa_nI e3 e4 h3 h4).1
  have z0 : (0 : Int32) = nI 0 := rfl
  constructor
  · intro h
    unfold lnk at h
    split at h
    · rename_i c
      refine ⟨⟨⟨c.1, by rw [h]; exact nI_ge (b := 8) hl (by decide)⟩, fun i z1 z2 => ?_⟩, h⟩
      have c1 := c.2.1
      have c3 := c.2.2
      rw [p1, z0, nI_eq (by omega) (by decide)] at c1
      rw [p3, z0, nI_eq (by omega) (by decide)] at c3
      rcases (show i = 1 ∨ i = 2 ∨ i = 3 ∨ i = 4 by omega) with e | e | e | e <;> subst e
      · rw [e1, z0, nI_eq (by omega) (by decide)]; omega
      · rw [e2, z0, nI_eq (by omega) (by decide)]; omega
      · rw [e3, z0, nI_eq (by omega) (by decide)]; omega
      · rw [e4, z0, nI_eq (by omega) (by decide)]; omega
    · exact absurd h.symm (nI_nm1 (by omega))
  · intro h
    obtain ⟨⟨⟨c0, c5⟩, ci⟩, e5⟩ := h
    have y1 := ci 1 (by decide) (by decide)
    have y2 := ci 2 (by decide) (by decide)
    have y3 := ci 3 (by decide) (by decide)
    have y4 := ci 4 (by decide) (by decide)
    rw [e1, z0, nI_eq (by omega) (by decide)] at y1
    rw [e2, z0, nI_eq (by omega) (by decide)] at y2
    rw [e3, z0, nI_eq (by omega) (by decide)] at y3
    rw [e4, z0, nI_eq (by omega) (by decide)] at y4
    unfold lnk
    rw [if_pos ⟨c0, by rw [p1, y1, y2]; rfl, by rw [p3, y3, y4]; rfl⟩]
    exact e5
theorem r_117w {b : Bool} {σ0 : ae_S} {F0 F : Nat → Nat → Int32} {c u g : Int32} (h : RS b σ0 F0 σ c u g F) {f : Nat} {x : Int32} {gc : Nat → Int32} (ef : x = nI f) (hf : f < 400) (hg : ∀ k, k < 200 → F 194 (200 * f + k) = gc k) (hby : byt gc 200) : hE ra (d + 2) 117 [.ref 176, .int x] σ (pI (fun σ' v => σ' = σ ∧ ((v = -1 ∧ ∀ l, l < 8 → lnk gc = nI l → F 177 l = 0) ∨ ∃ l, l < 8 ∧ v = nI l ∧ lnk gc = nI l ∧ F 177 l ≠ 0))) := by
  have hend : ∀ x2 : Int32, ((x2 = 1 ∧ (gc 0 = 3 ∧ ¬ 8 ≤ gc 5) ∧ ∀ i, 1 ≤ i → i < 5 → gc i = 0) ∨ (x2 = 0 ∧ ¬ ((gc 0 = 3 ∧ ¬ 8 ≤ gc 5) ∧ ∀ i, 1 ≤ i → i < 5 → gc i = 0))) → hG ra (d + 1) 117 σ [some (.ref 176), some (.int x), some (.int x2), some (.int (nI 5))] [] 59 (pI (fun σ' v => σ' = σ ∧ ((v = -1 ∧ ∀ l, l < 8 → lnk gc = nI l → F 177 l = 0) ∨ ∃ l, l < 8 ∧ v = nI l ∧ lnk gc = nI l ∧ F 177 l ≠ 0))) := by
    intro x2 hb
    refine h_st rfl rfl ?_
    refine h_st rfl rfl ?_
    refine h_br (fun q1 => ?_) (fun q1 => ?_)
    · refine h_st rfl rfl ?_
      exact h_rt rfl rfl (⟨_, _, rfl, rfl, Or.inl ⟨rfl, fun l hl el => hb.elim (fun y => absurd (y.1.symm.trans q1) (by decide)) (fun y => absurd ((lnk_rg hby l hl).mp el).1 y.2)⟩⟩)
    · have hgood := hb.elim (fun y => y.2) (fun y => absurd y.1 q1)
      obtain ⟨b5, hb5, e5⟩ := hby 5 (by decide)
      have hl8 : b5 < 8 := Nat.lt_of_not_le (fun z => hgood.1.2 (by rw [e5]; exact nI_le z (by omega)))
      have elk : lnk gc = nI b5 := (lnk_rg hby b5 hl8).mpr ⟨hgood, e5⟩
      refine h_st rfl rfl ?_
      refine h_st rfl (e_get h.2.1 rfl) ?_
      refine h_st rfl rfl ?_
      refine h_st rfl rfl ?_
      refine h_st rfl rfl ?_
      refine h_ci3 rfl (Nat.le_of_ble_eq_true rfl) (e_rcv h.2.1) rfl (r_108 h ef hf ((rfl : (5 : Int32) = nI 5)) (by decide)) (fun σ' y hq => ?_)
      obtain ⟨hss, ey⟩ := hq
      replace hss := hss.symm
      subst hss
      rw [hg 5 (by omega)] at ey
      subst ey
      refine h_st rfl (q_ba h.a177 (e5) (hl8) (by decide)) ?_
      refine h_st rfl rfl ?_
      refine h_br (fun q2 => ?_) (fun q2 => ?_)
      · refine h_st rfl rfl ?_
        exact h_rt rfl rfl (⟨_, _, rfl, rfl, Or.inl ⟨rfl, fun l hl el => by rw [show l = b5 from nI_inj (by omega) (by omega) (el.symm.trans elk)]; exact q2⟩⟩)
      · refine h_st rfl rfl ?_
        refine h_st rfl rfl ?_
        refine h_st rfl rfl ?_
        refine h_ci3 rfl (Nat.le_of_ble_eq_true rfl) (e_rcv h.2.1) rfl (r_108 h ef hf ((rfl : (5 : Int32) = nI 5)) (by decide)) (fun σ' y hq => ?_)
        obtain ⟨hss, ey⟩ := hq
        replace hss := hss.symm
        subst hss
        rw [hg 5 (by omega)] at ey
        subst ey
        refine h_st rfl rfl ?_
        exact h_rt rfl rfl (⟨_, _, rfl, rfl, Or.inr ⟨b5, hl8, e5, elk, q2⟩⟩)
  refine h_in rfl rfl (Nat.le_of_ble_eq_true rfl) ?_
  refine h_st rfl rfl ?_
  refine h_st rfl rfl ?_
  refine h_st rfl rfl ?_
  refine h_ci3 rfl (Nat.le_of_ble_eq_true rfl) (e_rcv h.2.1) rfl (r_108 h ef hf ((rfl : (0 : Int32) = nI 0)) (by decide)) (fun σ' y hq => ?_)
  obtain ⟨hss, ey⟩ := hq
  replace hss := hss.symm
  subst hss
  rw [hg 0 (by omega)] at ey
  subst ey
  refine h_st rfl rfl ?_
  refine h_st rfl rfl ?_
  refine h_br (fun q1 => ?_) (fun q1 => ?_)
  · refine h_st rfl rfl ?_
    refine h_st rfl rfl ?_
    refine h_st rfl rfl ?_
    refine h_st rfl rfl ?_
    exact r_117lw h ef hf hg hend 4 1 _ (Or.inr ⟨rfl, fun z => q1 z.1.1⟩) (Nat.le_refl _) rfl
  · refine h_st rfl rfl ?_
    refine h_st rfl rfl ?_
    refine h_st rfl rfl ?_
    refine h_ci3 rfl (Nat.le_of_ble_eq_true rfl) (e_rcv h.2.1) rfl (r_108 h ef hf ((rfl : (5 : Int32) = nI 5)) (by decide)) (fun σ' y hq => ?_)
    obtain ⟨hss, ey⟩ := hq
    replace hss := hss.symm
    subst hss
    rw [hg 5 (by omega)] at ey
    subst ey
    refine h_st rfl rfl ?_
    refine h_st rfl rfl ?_
    refine h_br (fun q2 => ?_) (fun q2 => ?_)
    · refine h_st rfl rfl ?_
      refine h_st rfl rfl ?_
      refine h_st rfl rfl ?_
      refine h_st rfl rfl ?_
      exact r_117lw h ef hf hg hend 4 1 _ (Or.inr ⟨rfl, fun z => z.1.2 q2⟩) (Nat.le_refl _) rfl
    · refine h_st rfl rfl ?_
      refine h_st rfl rfl ?_
      refine h_st rfl rfl ?_
      refine h_st rfl rfl ?_
      refine h_st rfl rfl ?_
      exact r_117lw h ef hf hg hend 4 1 _ (Or.inl ⟨rfl, ⟨Decidable.of_not_not q1, q2⟩, fun i z1 z2 => absurd z1 (by omega)⟩) (Nat.le_refl _) rfl
theorem r_120w {b : Bool} {σ0 : ae_S} {F0 F : Nat → Nat → Int32} {c u g : Int32} (h : RS b σ0 F0 σ c u g F) {f : Nat} {x : Int32} {gc : Nat → Int32} (ef : x = nI f) (hf : f < 400) (hg : ∀ k, k < 200 → F 194 (200 * f + k) = gc k) {sz : Nat} (hz : F 195 f = nI sz) (hz1 : 64 ≤ sz ∧ sz ≤ 200) (hby : byt gc 200) : hE ra (d + 4) 120 [.ref 176, .int x] σ (pI (fun σ' v => σ' = σ ∧ ((v = 1 ∧ fom sz gc) ∨ (v = 0 ∧ ¬ fom sz gc)))) := by
  obtain ⟨b6, h6, e6⟩ := hby 16 (by decide)
  obtain ⟨b7, h7, e7⟩ := hby 17 (by decide)
  obtain ⟨b8, h8, e8⟩ := hby 24 (by decide)
  obtain ⟨b9, h9, e9⟩ := hby 25 (by decide)
  have p6 : 256 * gc 16 + gc (16 + 1) = pa gc 16 := ((pa_nI e6 e7 h6 h7).2).trans ((pa_nI e6 e7 h6 h7).1).symm
  have p8 : 256 * gc 24 + gc (24 + 1) = pa gc 24 := ((pa_nI e8 e9 h8 h9).2).trans ((pa_nI e8 e9 h8 h9).1).symm
  have es := (sum_eq (g := gc) (fun k hk => hby k (by omega))).1
  refine h_in rfl rfl (Nat.le_of_ble_eq_true rfl) ?_
  refine h_st rfl rfl ?_
  refine h_st rfl rfl ?_
  refine h_st rfl rfl ?_
  refine h_ci3 rfl (Nat.le_of_ble_eq_true rfl) (e_rcv h.2.1) rfl (r_107 h ef hf (rfl : (16 : Int32) = nI 16) (by decide)) (fun σ' y hq => ?_)
  obtain ⟨hss, ey⟩ := hq
  replace hss := hss.symm
  subst hss
  rw [hg 16 (by decide), hg (16 + 1) (by decide), p6] at ey
  subst ey
  refine h_st rfl rfl ?_
  refine h_st rfl rfl ?_
  refine h_st rfl rfl ?_
  refine h_st rfl rfl ?_
  refine h_st rfl rfl ?_
  refine h_st rfl rfl ?_
  refine h_ci3 rfl (Nat.le_of_ble_eq_true rfl) (e_rcv h.2.1) rfl (r_108 h ef hf ((rfl : (12 : Int32) = nI 12)) (by decide)) (fun σ' y hq => ?_)
  obtain ⟨hss, ey⟩ := hq
  replace hss := hss.symm
  subst hss
  rw [hg 12 (by omega)] at ey
  subst ey
  refine h_st rfl rfl ?_
  refine h_st rfl rfl ?_
  refine h_br (fun q1 => ?_) (fun q1 => ?_)
  · refine h_st rfl rfl ?_
    exact h_rt rfl rfl (⟨_, _, rfl, rfl, Or.inr ⟨rfl, fun z => q1 z.1⟩⟩)
  · refine h_st rfl rfl ?_
    refine h_st rfl rfl ?_
    refine h_st rfl rfl ?_
    refine h_ci3 rfl (Nat.le_of_ble_eq_true rfl) (e_rcv h.2.1) rfl (r_108 h ef hf ((rfl : (13 : Int32) = nI 13)) (by decide)) (fun σ' y hq => ?_)
    obtain ⟨hss, ey⟩ := hq
    replace hss := hss.symm
    subst hss
    rw [hg 13 (by omega)] at ey
    subst ey
    refine h_st rfl rfl ?_
    refine h_br (fun q2 => ?_) (fun q2 => ?_)
    · refine h_st rfl rfl ?_
      exact h_rt rfl rfl (⟨_, _, rfl, rfl, Or.inr ⟨rfl, fun z => q2 z.2.1⟩⟩)
    · refine h_st rfl rfl ?_
      refine h_st rfl rfl ?_
      refine h_st rfl rfl ?_
      refine h_ci3 rfl (Nat.le_of_ble_eq_true rfl) (e_rcv h.2.1) rfl (r_108 h ef hf ((rfl : (14 : Int32) = nI 14)) (by decide)) (fun σ' y hq => ?_)
      obtain ⟨hss, ey⟩ := hq
      replace hss := hss.symm
      subst hss
      rw [hg 14 (by omega)] at ey
      subst ey
      refine h_st rfl rfl ?_
      refine h_st rfl rfl ?_
      refine h_br (fun q3 => ?_) (fun q3 => ?_)
      · refine h_st rfl rfl ?_
        exact h_rt rfl rfl (⟨_, _, rfl, rfl, Or.inr ⟨rfl, fun z => q3 z.2.2.1⟩⟩)
      · refine h_st rfl rfl ?_
        refine h_st rfl rfl ?_
        refine h_st rfl rfl ?_
        refine h_ci3 rfl (Nat.le_of_ble_eq_true rfl) (e_rcv h.2.1) rfl (r_108 h ef hf ((rfl : (23 : Int32) = nI 23)) (by decide)) (fun σ' y hq => ?_)
        obtain ⟨hss, ey⟩ := hq
        replace hss := hss.symm
        subst hss
        rw [hg 23 (by omega)] at ey
        subst ey
        refine h_st rfl rfl ?_
        refine h_st rfl rfl ?_
        refine h_br (fun q4 => ?_) (fun q4 => ?_)
        · refine h_st rfl rfl ?_
          exact h_rt rfl rfl (⟨_, _, rfl, rfl, Or.inr ⟨rfl, fun z => q4 z.2.2.2.1⟩⟩)
        · refine h_st rfl rfl ?_
          refine h_st rfl rfl ?_
          refine h_ci2 rfl (Nat.le_of_ble_eq_true rfl) (e_rcv h.2.1) rfl (r_106w h ef hf hg) (fun σ' y hq => ?_)
          obtain ⟨hss, ey⟩ := hq
          replace hss := hss.symm
          subst hss
          rw [es] at ey
          subst ey
          refine h_st rfl rfl ?_
          refine h_st rfl rfl ?_
          refine h_st rfl rfl ?_
          refine h_ci3 rfl (Nat.le_of_ble_eq_true rfl) (e_rcv h.2.1) rfl (r_107 h ef hf (rfl : (24 : Int32) = nI 24) (by decide)) (fun σ' y hq => ?_)
          obtain ⟨hss, ey⟩ := hq
          replace hss := hss.symm
          subst hss
          rw [hg 24 (by decide), hg (24 + 1) (by decide), p8] at ey
          subst ey
          refine h_st rfl rfl ?_
          refine h_br (fun q5 => ?_) (fun q5 => ?_)
          · refine h_st rfl rfl ?_
            exact h_rt rfl rfl (⟨_, _, rfl, rfl, Or.inr ⟨rfl, fun z => q5 z.2.2.2.2.1.symm⟩⟩)
          · refine h_st rfl rfl ?_
            refine h_st rfl rfl ?_
            refine h_br (fun q6 => ?_) (fun q6 => ?_)
            · refine h_st rfl rfl ?_
              exact h_rt rfl rfl (⟨_, _, rfl, rfl, Or.inr ⟨rfl, fun z => z.2.2.2.2.2.1 q6⟩⟩)
            · refine h_st rfl rfl ?_
              refine h_st rfl rfl ?_
              refine h_st rfl (e_get h.2.1 rfl) ?_
              refine h_st rfl rfl ?_
              refine h_st rfl ((q_ia h.a195 (ef) (hf) (by decide)).trans (by rw [hz])) ?_
              refine h_st rfl rfl ?_
              refine h_st rfl rfl ?_
              refine h_st rfl rfl ?_
              refine h_br (fun q7 => ?_) (fun q7 => ?_)
              · refine h_st rfl rfl ?_
                exact h_rt rfl rfl (⟨_, _, rfl, rfl, Or.inr ⟨rfl, fun z => z.2.2.2.2.2.2 q7⟩⟩)
              · refine h_st rfl rfl ?_
                refine h_st rfl rfl ?_
                exact h_rt rfl rfl (⟨_, _, rfl, rfl, Or.inl ⟨rfl, Decidable.of_not_not q1, Decidable.of_not_not q2, Decidable.of_not_not q3, Decidable.of_not_not q4, (Decidable.of_not_not q5).symm, q6, q7⟩⟩)
end SY3
