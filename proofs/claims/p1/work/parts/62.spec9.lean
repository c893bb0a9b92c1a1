section SP9
variable {ra : ae_R} {d : Nat} {σ σ0 : ae_S} {p pb k : Nat}
theorem k_2s (hp : σ.2[p]? = some (.inr (2, cd_Frame))) : hE ra (d + 1) 2 [.ref p] σ (pV (fun σ' => St σ p σ' (σ.1.1 + 1, σ.1.2 + 200) (σ.2.length + 1) [(p, .inr (2, [.ref σ.2.length, .int 0])), (σ.2.length, .inl (1, 200, .inl (fun _ => 0)))])) := by
  have hplt := (List.getElem?_eq_some_iff.mp hp).1
  have hs := St.ini hp
  refine h_in rfl rfl (Nat.le_of_ble_eq_true rfl) ?_
  refine h_st rfl rfl ?_
  refine h_st rfl rfl ?_
  refine h_st rfl rfl ?_
  refine h_st rfl rfl ?_
  refine t_na rfl hs (by decide) (fun σ hs2 => ?_)
  replace hs := hs2
  clear hs2
  refine t_put 0 rfl hs rfl (And.intro (by first | omega | (dsimp only; omega)) trivial) (rfl) (Nat.le_of_ble_eq_true rfl) (fun σ hs2 => ?_)
  replace hs := hs2
  clear hs2
  refine h_st rfl rfl ?_
  refine h_st rfl rfl ?_
  refine t_put 0 rfl hs rfl (And.intro (by first | omega | (dsimp only; omega)) trivial) (rfl) (Nat.le_of_ble_eq_true rfl) (fun σ hs2 => ?_)
  replace hs := hs2
  clear hs2
  exact h_rv rfl (⟨_, rfl, hs⟩)
theorem St.call2 {σ' : ae_S} {e : Nat} {c c' : Nat × Nat} {N N' : Nat} {T : List (Nat × ae_C)} {x y z : ae_C} {i : Nat} (h : St σ0 e σ c N T) (hi : T[i]? = some (p, x)) (hd : ap p T i) (h' : St σ p σ' c' N' [(p, y), (σ.2.length, z)]) : St σ0 e σ' c' N' (T.set i (p, y) ++ [(N, z)]) := by
  have h1 := h.call hi hd (h'.one 0 rfl)
  refine ⟨h1.1, h1.2.1, h1.2.2.1, fun q hq => ?_, h1.2.2.2.2⟩
  rcases List.mem_append.mp hq with a | a
  · exact h1.2.2.2.1 q a
  · rw [List.mem_singleton.mp a, ← h.2.1]
    exact ⟨h'.at 1 rfl, Or.inr (by rw [h.2.1]; exact h.2.2.1)⟩
theorem b_cp {mid pc np : Nat} {L : ae_Ls} {kk : List Value} {P : ae_S × ae_O → Prop} {p1 : Nat} {g : Nat → Int32} (ht : ae_tab (at0 mid) pc = some (.inl (o_cp np))) (h : FR σ p pb k) (hd : σ.2[p1]? = some (.inl (1, 200, .inl g))) (hcat : ae_cat kk ≤ 8) (hc : ∀ g', hG ra d mid (σ.1, σ.2.set p1 (.inl (1, 200, .inl g'))) L kk np P) : hG ra d mid σ L (.int (nI k) :: .int 0 :: .ref p1 :: .int 0 :: .ref pb :: kk) pc P := by
  obtain ⟨h1, h2, f, hf, hb⟩ := h
  have ek : (nI k).toNatClampNeg = k := nI_clamp (by omega)
  have e0 : (0 : Int32).toNatClampNeg = 0 := by decide
  refine h_st ht (?_ : _ = some ((σ.1, σ.2.set p1 (.inl (1, 200, .inl (va_cpy f g 0 0 k)))), L, kk, np)) (hc _)
  simp only [o_cp, hf, hd, ek, e0]
  rw [if_pos ⟨⟨trivial, trivial, hcat⟩, ⟨by decide, by decide, nI_pos (by omega)⟩, by omega, by omega, fun i hi => hb _ (by omega)⟩]
theorem c_30 {p1 b1 : Nat} {x : Int32} {g : Nat → Int32} (h : FR σ p pb k) (hp1 : σ.2[p1]? = some (.inr (2, [.ref b1, .int x]))) (hb1 : σ.2[b1]? = some (.inl (1, 200, .inl g))) (a1 : b1 ≠ p) (a2 : b1 ≠ p1) : hE ra (d + 1) 30 [.ref p1, .ref p] σ (pV (fun σ' => Op p1 b1 σ σ')) := by
  refine h_in rfl rfl (Nat.le_of_ble_eq_true rfl) ?_
  refine h_st rfl rfl ?_
  refine h_st rfl (e_get h.1 rfl) ?_
  refine h_st rfl rfl ?_
  refine h_st rfl rfl ?_
  refine h_st rfl (e_get hp1 rfl) ?_
  refine h_st rfl rfl ?_
  refine h_st rfl rfl ?_
  refine h_st rfl (e_get h.1 rfl) ?_
  refine b_cp rfl h hb1 (Nat.le_of_ble_eq_true rfl) (fun g2 => ?_)
  refine h_st rfl rfl ?_
  refine h_st rfl rfl ?_
  refine h_st rfl (e_get ((st_ne a1).trans h.1) rfl) ?_
  refine h_st rfl (e_put ((st_ne a2).trans hp1) rfl (Nat.le_of_ble_eq_true rfl)) ?_
  exact h_rv rfl (⟨_, rfl, rfl, by simp, fun q z1 z2 => (st_ne (Ne.symm z1)).trans (st_ne (Ne.symm z2))⟩)
theorem c_28 {q : Nat} {fs : List Value} (hl : σ.2[p]? = some (.inr (3, .ref q :: fs))) : hE ra (d + 1) 28 [.ref p, .int 0] σ (pR (fun σ' r => σ' = σ ∧ r = some q)) := by
  refine h_in rfl rfl (Nat.le_of_ble_eq_true rfl) ?_
  refine h_st rfl rfl ?_
  refine h_st rfl rfl ?_
  refine h_pc (if_pos (by decide)) ?_
  refine h_st rfl rfl ?_
  refine h_st rfl (e_get hl rfl) ?_
  exact h_rt rfl rfl (⟨_, some q, rfl, rfl, rfl⟩)
theorem c_29_16 {ro sl : Nat} {fp : Nat → Option Nat} (h : FR σ p pb k) (hro : σ.2[ro]? = some (.inr (6, [.ref sl, .int 0, .int 0]))) (hsl : σ.2[sl]? = some (.inl (6, 16, .inr (.inr (.inr (.inr fp)))))) (hfp : fp 0 = none) (n1 : p ≠ sl) (n2 : pb ≠ sl) (n3 : ro ≠ sl) : hE ra (d + 2) 29 [.ref ro, .ref p] σ (pI (fun σ' x => x = 1 ∧ (∀ q, q < σ.2.length → q ≠ ro → q ≠ sl → σ'.2[q]? = σ.2[q]?) ∧ σ'.1 = (σ.1.1 + 2, σ.1.2 + 202))) := by
  have hl1 := (List.getElem?_eq_some_iff.mp hro).1
  have hl2 := (List.getElem?_eq_some_iff.mp hsl).1
  have hl3 := (List.getElem?_eq_some_iff.mp h.1).1
  have hl4 : pb < σ.2.length := by
    obtain ⟨_, _, f, hf, _⟩ := h
    exact (List.getElem?_eq_some_iff.mp hf).1
  have hi0 : ¬ ((0 : Int32) + 0 < 0 ∨ 16 ≤ ((0 : Int32) + 0).toNatClampNeg) := by decide
  have hv : fp ((0 : Int32) + 0).toNatClampNeg = none := hfp
  refine h_in rfl rfl (Nat.le_of_ble_eq_true rfl) ?_
  refine h_st rfl rfl ?_
  refine h_st rfl (e_get hro rfl) ?_
  refine h_st rfl rfl ?_
  refine h_st rfl (e_get hro rfl) ?_
  refine h_st rfl (e_len hsl (by decide)) ?_
  refine h_st rfl rfl ?_
  refine h_pc (if_pos (decide_eq_true (show (0 : Int32) < Int32.ofNat 16 from by decide))) ?_
  refine h_st rfl rfl ?_
  refine h_st rfl (e_get hro rfl) ?_
  refine h_st rfl rfl ?_
  refine h_st rfl (e_get hro rfl) ?_
  refine h_st rfl rfl ?_
  refine h_st rfl rfl ?_
  refine h_st rfl (e_get hro rfl) ?_
  refine h_st rfl (e_len hsl (by decide)) ?_
  refine h_st rfl rfl ?_
  refine h_pc (if_neg (fun z => (show ¬ Int32.ofNat 16 ≤ (0 : Int32) + 0 from by decide) (of_decide_eq_true z))) ?_
  refine h_st rfl rfl ?_
  refine h_st rfl (e_get hro rfl) ?_
  refine h_st rfl rfl ?_
  refine h_st rfl (e_get hro rfl) ?_
  refine h_st rfl rfl ?_
  refine h_st rfl rfl ?_
  refine h_st rfl rfl ?_
  refine h_st rfl rfl ?_
  refine h_st rfl (e_get hro rfl) ?_
  refine h_st rfl rfl ?_
  refine h_st rfl ((e_aa hsl (by decide) hi0).trans (by rw [hv])) ?_
  refine h_st rfl rfl ?_
  obtain ⟨M, hM⟩ : ∃ M, M = σ.2.length := ⟨_, rfl⟩
  have hs := St.ini hsl
  rw [← hM] at hs
  refine h_st rfl rfl ?_
  refine h_st rfl (e_get hro rfl) ?_
  refine h_st rfl rfl ?_
  refine t_new rfl hs (fun σ hs2 => ?_)
  replace hs := hs2
  clear hs2
  refine h_st rfl rfl ?_
  refine h_cv1 rfl (Nat.le_of_ble_eq_true rfl) (e_rcv (hs.at 1 rfl)) rfl (k_2s (hs.at 1 rfl)) (fun σ2 hk => ?_)
  have eN := hs.2.1
  have ec := hs.1
  replace hs := hs.call2 (i := 1) rfl (And.intro (by first | omega | (dsimp only; omega)) trivial) hk
  rw [eN, ec] at hs
  refine h_st rfl (e_aas (hs.at 0 rfl) (hs.at 1 rfl) (by decide) hi0) ?_
  replace hs := hs.set (i := 0) (y := .inl (6, 16, .inr (.inr (.inr (.inr (va_up fp ((0 : Int32) + 0).toNatClampNeg (some M))))))) rfl (And.intro (by first | omega | (dsimp only; omega)) (And.intro (by first | omega | (dsimp only; omega)) trivial))
  have hv2 : va_up fp ((0 : Int32) + 0).toNatClampNeg (some M) ((0 : Int32) + 0).toNatClampNeg = some M := by simp [va_up]
  have hr2 := (hs.2.2.2.2 ro hl1 n3).trans hro
  have hF := h.same (hs.2.2.2.2 p hl3 n1) (hs.2.2.2.2 pb hl4 n2)
  refine h_st rfl rfl ?_
  refine h_st rfl (e_get hr2 rfl) ?_
  refine h_st rfl rfl ?_
  refine h_st rfl ((e_aa (hs.at 0 rfl) (by decide) hi0).trans (by rw [hv2])) ?_
  refine h_st rfl rfl ?_
  refine h_cv2 rfl (Nat.le_of_ble_eq_true rfl) (e_rcv (hs.at 1 rfl)) rfl (c_30 hF (hs.at 1 rfl) (hs.at 2 rfl) (by omega) (by omega)) (fun σ3 ho => ?_)
  have hr3 := (ho.2.2 ro (by omega) (by omega)).trans hr2
  refine h_st rfl rfl ?_
  refine h_st rfl rfl ?_
  refine h_st rfl (e_get hr3 rfl) ?_
  refine h_st rfl rfl ?_
  refine h_st rfl rfl ?_
  refine h_st rfl (e_put hr3 rfl (Nat.le_of_ble_eq_true rfl)) ?_
  refine h_st rfl rfl ?_
  exact h_rt rfl rfl (⟨_, _, rfl, rfl, fun q z1 z2 z3 => (st_ne (Ne.symm z2)).trans ((ho.2.2 q (by omega) (by omega)).trans (hs.2.2.2.2 q z1 z3)), ho.1.trans hs.1⟩)
theorem c_29_4 {ro sl : Nat} {fp : Nat → Option Nat} (h : FR σ p pb k) (hro : σ.2[ro]? = some (.inr (6, [.ref sl, .int 0, .int 0]))) (hsl : σ.2[sl]? = some (.inl (6, 4, .inr (.inr (.inr (.inr fp)))))) (hfp : fp 0 = none) (n1 : p ≠ sl) (n2 : pb ≠ sl) (n3 : ro ≠ sl) : hE ra (d + 2) 29 [.ref ro, .ref p] σ (pI (fun σ' x => x = 1 ∧ (∀ q, q < σ.2.length → q ≠ ro → q ≠ sl → σ'.2[q]? = σ.2[q]?) ∧ σ'.1 = (σ.1.1 + 2, σ.1.2 + 202))) := by
  have hl1 := (List.getElem?_eq_some_iff.mp hro).1
  have hl2 := (List.getElem?_eq_some_iff.mp hsl).1
  have hl3 := (List.getElem?_eq_some_iff.mp h.1).1
  have hl4 : pb < σ.2.length := by
    obtain ⟨_, _, f, hf, _⟩ := h
    exact (List.getElem?_eq_some_iff.mp hf).1
  have hi0 : ¬ ((0 : Int32) + 0 < 0 ∨ 4 ≤ ((0 : Int32) + 0).toNatClampNeg) := by decide
  have hv : fp ((0 : Int32) + 0).toNatClampNeg = none := hfp
  refine h_in rfl rfl (Nat.le_of_ble_eq_true rfl) ?_
  refine h_st rfl rfl ?_
  refine h_st rfl (e_get hro rfl) ?_
  refine h_st rfl rfl ?_
  refine h_st rfl (e_get hro rfl) ?_
  refine h_st rfl (e_len hsl (by decide)) ?_
  refine h_st rfl rfl ?_
  refine h_pc (if_pos (decide_eq_true (show (0 : Int32) < Int32.ofNat 4 from by decide))) ?_
  refine h_st rfl rfl ?_
  refine h_st rfl (e_get hro rfl) ?_
  refine h_st rfl rfl ?_
  refine h_st rfl (e_get hro rfl) ?_
  refine h_st rfl rfl ?_
  refine h_st rfl rfl ?_
  refine h_st rfl (e_get hro rfl) ?_
  refine h_st rfl (e_len hsl (by decide)) ?_
  refine h_st rfl rfl ?_
  refine h_pc (if_neg (fun z => (show ¬ Int32.ofNat 4 ≤ (0 : Int32) + 0 from by decide) (of_decide_eq_true z))) ?_
  refine h_st rfl rfl ?_
  refine h_st rfl (e_get hro rfl) ?_
  refine h_st rfl rfl ?_
  refine h_st rfl (e_get hro rfl) ?_
  refine h_st rfl rfl ?_
  refine h_st rfl rfl ?_
  refine h_st rfl rfl ?_
  refine h_st rfl rfl ?_
  refine h_st rfl (e_get hro rfl) ?_
  refine h_st rfl rfl ?_
  refine h_st rfl ((e_aa hsl (by decide) hi0).trans (by rw [hv])) ?_
  refine h_st rfl rfl ?_
  obtain ⟨M, hM⟩ : ∃ M, M = σ.2.length := ⟨_, rfl⟩
  have hs := St.ini hsl
  rw [← hM] at hs
  refine h_st rfl rfl ?_
  refine h_st rfl (e_get hro rfl) ?_
  refine h_st rfl rfl ?_
  refine t_new rfl hs (fun σ hs2 => ?_)
  replace hs := hs2
  clear hs2
  refine h_st rfl rfl ?_
  refine h_cv1 rfl (Nat.le_of_ble_eq_true rfl) (e_rcv (hs.at 1 rfl)) rfl (k_2s (hs.at 1 rfl)) (fun σ2 hk => ?_)
  have eN := hs.2.1
  have ec := hs.1
  replace hs := hs.call2 (i := 1) rfl (And.intro (by first | omega | (dsimp only; omega)) trivial) hk
  rw [eN, ec] at hs
  refine h_st rfl (e_aas (hs.at 0 rfl) (hs.at 1 rfl) (by decide) hi0) ?_
  replace hs := hs.set (i := 0) (y := .inl (6, 4, .inr (.inr (.inr (.inr (va_up fp ((0 : Int32) + 0).toNatClampNeg (some M))))))) rfl (And.intro (by first | omega | (dsimp only; omega)) (And.intro (by first | omega | (dsimp only; omega)) trivial))
  have hv2 : va_up fp ((0 : Int32) + 0).toNatClampNeg (some M) ((0 : Int32) + 0).toNatClampNeg = some M := by simp [va_up]
  have hr2 := (hs.2.2.2.2 ro hl1 n3).trans hro
  have hF := h.same (hs.2.2.2.2 p hl3 n1) (hs.2.2.2.2 pb hl4 n2)
  refine h_st rfl rfl ?_
  refine h_st rfl (e_get hr2 rfl) ?_
  refine h_st rfl rfl ?_
  refine h_st rfl ((e_aa (hs.at 0 rfl) (by decide) hi0).trans (by rw [hv2])) ?_
  refine h_st rfl rfl ?_
  refine h_cv2 rfl (Nat.le_of_ble_eq_true rfl) (e_rcv (hs.at 1 rfl)) rfl (c_30 hF (hs.at 1 rfl) (hs.at 2 rfl) (by omega) (by omega)) (fun σ3 ho => ?_)
  have hr3 := (ho.2.2 ro (by omega) (by omega)).trans hr2
  refine h_st rfl rfl ?_
  refine h_st rfl rfl ?_
  refine h_st rfl (e_get hr3 rfl) ?_
  refine h_st rfl rfl ?_
  refine h_st rfl rfl ?_
  refine h_st rfl (e_put hr3 rfl (Nat.le_of_ble_eq_true rfl)) ?_
  refine h_st rfl rfl ?_
  exact h_rt rfl rfl (⟨_, _, rfl, rfl, fun q z1 z2 z3 => (st_ne (Ne.symm z2)).trans ((ho.2.2 q (by omega) (by omega)).trans (hs.2.2.2.2 q z1 z3)), ho.1.trans hs.1⟩)
theorem c_26w {f2 : Nat → Option Nat} {fs : List Value} (h0 : σ.2[0]? = some (.inr (7, .ref 1 :: .ref 2 :: fs))) (hk2 : σ.2[2]? = some (.inl (5, 24, .inr (.inr (.inr (.inr f2)))))) (hf2 : ∀ j, j < 24 → f2 j = some (8 + 7 * j)) {a c : Nat} (ha : a < 2) (hc : c < 12) : hE ra (d + 2) 26 [.ref 0, .int (nI a), .int (nI c)] σ (pR (fun σ' q => σ' = σ ∧ q = some (8 + 7 * (a * 12 + c)))) := by
  have hx : nI a * 12 + nI c = nI (a * 12 + c) := by rw [show (12 : Int32) = nI 12 from rfl, pk_mul, nI_add]
  have hin : ¬ (nI a * 12 + nI c < 0 ∨ 24 ≤ (nI a * 12 + nI c).toNatClampNeg) := by rw [hx]; exact nI_in (by omega) (by decide)
  have hv : f2 (nI a * 12 + nI c).toNatClampNeg = some (8 + 7 * (a * 12 + c)) := by rw [hx, nI_clamp (by omega)]; exact hf2 _ (by omega)
  refine h_in rfl rfl (Nat.le_of_ble_eq_true rfl) ?_
  refine h_st rfl rfl ?_
  refine h_ci1 rfl (Nat.le_of_ble_eq_true rfl) rfl rfl (s_27 (nI a)) (fun σ' b hb => ?_)
  obtain ⟨rfl, hb⟩ := hb
  refine h_st rfl rfl ?_
  refine h_pc (if_neg (fun z => (b_1 hb ⟨nI_pos (by omega), nI_ge (b := 2) ha (by decide)⟩) (of_decide_eq_true z))) ?_
  refine h_st rfl rfl ?_
  refine h_st rfl rfl ?_
  refine h_pc (if_neg (fun z => (nI_pos (by omega)) (of_decide_eq_true z))) ?_
  refine h_st rfl rfl ?_
  refine h_st rfl rfl ?_
  refine h_st rfl rfl ?_
  refine h_pc (if_neg (fun z => (nI_ge (b := 12) hc (by decide)) (of_decide_eq_true z))) ?_
  refine h_st rfl rfl ?_
  refine h_st rfl (e_get h0 rfl) ?_
  refine h_st rfl rfl ?_
  refine h_st rfl rfl ?_
  refine h_st rfl rfl ?_
  refine h_st rfl rfl ?_
  refine h_st rfl rfl ?_
  refine h_st rfl ((e_aa hk2 (by decide) hin).trans (by rw [hv])) ?_
  refine h_st rfl rfl ?_
  exact h_rt rfl rfl (⟨_, some (8 + 7 * (a * 12 + c)), rfl, rfl, rfl⟩)
theorem c_25 {σF : ae_S} (hF : Fr σF) (ho : Op 4 5 σF σ) (h : FR σ 4 5 k) {a c : Nat} (ha : a < 2) (hc12 : c < 12) : hE ra (d + 3) 25 [.ref 0, .int (nI a), .int (nI c), .int 0, .ref 4] σ (pI (fun σ' x => x = 1 ∧ Sm σF σ' ∧ σ'.1 = (σF.1.1 + 2, σF.1.2 + 202))) := by
  obtain ⟨f1, f2, f3, f5, hc, hlen, h0, hk1, hf1, hk2, hf2, hk3, hf3, h4, hk5, hf5, h6⟩ := fr_cls hF
  obtain ⟨i, hi⟩ : ∃ i, i = a * 12 + c := ⟨_, rfl⟩
  have hi24 : i < 24 := by omega
  obtain ⟨fb, fp, fh, g1, g2, g3, g4, g5, g6, g7, g8, g9, g10⟩ := fr_line hF hi24
  replace h0 := (ho.2.2 0 (by decide) (by decide)).trans h0
  replace hk2 := (ho.2.2 2 (by decide) (by decide)).trans hk2
  replace g1 := (ho.2.2 _ (by omega) (by omega)).trans g1
  replace g5 := (ho.2.2 _ (by omega) (by omega)).trans g5
  replace g6 := (ho.2.2 _ (by omega) (by omega)).trans g6
  have hadd : hE ra (d + 2) 29 [.ref (11 + 7 * i), .ref 4] σ (pI (fun σ' x => x = 1 ∧ (∀ q, q < σ.2.length → q ≠ 11 + 7 * i → q ≠ 12 + 7 * i → σ'.2[q]? = σ.2[q]?) ∧ σ'.1 = (σ.1.1 + 2, σ.1.2 + 202))) := by
    by_cases hz : i % 12 < 4
    · rw [if_pos hz] at g6
      exact c_29_16 h g5 g6 (g7 0 (by decide)) (by omega) (by omega) (by omega)
    · rw [if_neg hz] at g6
      exact c_29_4 h g5 g6 (g7 0 (by decide)) (by omega) (by omega) (by omega)
  refine h_in rfl rfl (Nat.le_of_ble_eq_true rfl) ?_
  refine h_st rfl rfl ?_
  refine h_st rfl rfl ?_
  refine h_st rfl rfl ?_
  refine h_cr3 rfl (Nat.le_of_ble_eq_true rfl) (e_rcv (h0)) rfl (c_26w h0 hk2 hf2 ha hc12) (fun σ2 q hq => ?_)
  obtain ⟨rfl, rfl⟩ := hq
  rw [← hi]
  refine h_st rfl rfl ?_
  refine h_st rfl rfl ?_
  refine h_st rfl rfl ?_
  refine h_st rfl rfl ?_
  refine h_st rfl rfl ?_
  refine h_cr2 rfl (Nat.le_of_ble_eq_true rfl) (e_rcv (g1)) rfl (c_28 g1) (fun σ3 q hq => ?_)
  obtain ⟨rfl, rfl⟩ := hq
  refine h_st rfl rfl ?_
  refine h_ci2 rfl (Nat.le_of_ble_eq_true rfl) (e_rcv (g5)) rfl (hadd) (fun σ4 x hq => ?_)
  obtain ⟨rfl, q1, q2⟩ := hq
  refine h_st rfl rfl ?_
  refine h_pc (if_neg (by decide)) ?_
  refine h_st rfl rfl ?_
  refine h_st rfl rfl ?_
  refine h_st rfl rfl ?_
  refine h_st rfl rfl ?_
  refine h_st rfl rfl ?_
  refine h_pc (if_pos (by decide)) ?_
  refine h_st rfl rfl ?_
  exact h_rt rfl rfl (⟨_, _, rfl, rfl, fun q z1 z2 => (q1 q (by rw [ho.2.1]; omega) (by omega) (by omega)).trans (ho.2.2 q (by omega) (by omega)), by rw [q2, ho.1]⟩)
def okB (n s l z : Int32) : Prop := (¬ n < 0 ∧ ¬ 2 ≤ n) ∧ (¬ s < 0 ∧ ¬ 4 ≤ s) ∧ (¬ l < 0 ∧ ¬ 8 ≤ l) ∧ ¬ z < 64 ∧ z ≤ 200
theorem c_69 (hr : (ra 3).1 = 16) (h : Fr σ) (n s l z f : Int32) : hE ra (d + 4) 69 [.ref 0, .int n, .int s, .int l, .int z, .int f] σ (pI (fun σ' x => Sm σ σ' ∧ σ'.1.1 ≤ σ.1.1 + 2 ∧ σ'.1.2 ≤ σ.1.2 + 202 ∧ ((okB n s l z ∧ x = 1) ∨ (¬ okB n s l z ∧ x = 0)))) := by
  obtain ⟨f1, f2, f3, f5, hc, hlen, h0, hk1, hf1, hk2, hf2, hk3, hf3, h4, hk5, hf5, h6⟩ := fr_cls h
  have hF0 : FR0 σ 4 5 := ⟨⟨_, h4⟩, by decide, f5, hk5, fun j hj => by rw [hf5 j hj]; decide⟩
  refine h_in rfl rfl (Nat.le_of_ble_eq_true rfl) ?_
  refine h_st rfl rfl ?_
  refine h_ci1 rfl (Nat.le_of_ble_eq_true rfl) rfl rfl (s_27 n) (fun σ' b1 hb => ?_)
  obtain ⟨rfl, hb1⟩ := hb
  refine h_st rfl rfl ?_
  refine h_br (fun q1 => ?_) (fun q1 => ?_)
  · refine h_st rfl rfl ?_
    exact h_rt rfl rfl (⟨_, _, rfl, fun _ _ _ => rfl, by omega, by omega, Or.inr ⟨fun y => absurd q1 (b_1 hb1 y.1), rfl⟩⟩)
  · refine h_st rfl rfl ?_
    refine h_ci1 rfl (Nat.le_of_ble_eq_true rfl) rfl rfl (s_40 s) (fun σ' b2 hb => ?_)
    obtain ⟨rfl, hb2⟩ := hb
    refine h_st rfl rfl ?_
    refine h_br (fun q2 => ?_) (fun q2 => ?_)
    · refine h_st rfl rfl ?_
      exact h_rt rfl rfl (⟨_, _, rfl, fun _ _ _ => rfl, by omega, by omega, Or.inr ⟨fun y => absurd q2 (b_1 hb2 y.2.1), rfl⟩⟩)
    · refine h_st rfl rfl ?_
      refine h_ci1 rfl (Nat.le_of_ble_eq_true rfl) rfl rfl (s_38 l) (fun σ' b3 hb => ?_)
      obtain ⟨rfl, hb3⟩ := hb
      refine h_st rfl rfl ?_
      refine h_br (fun q3 => ?_) (fun q3 => ?_)
      · refine h_st rfl rfl ?_
        exact h_rt rfl rfl (⟨_, _, rfl, fun _ _ _ => rfl, by omega, by omega, Or.inr ⟨fun y => absurd q3 (b_1 hb3 y.2.2.1), rfl⟩⟩)
      · refine h_st rfl rfl ?_
        refine h_st rfl rfl ?_
        refine h_st rfl rfl ?_
        refine h_br (fun q4 => ?_) (fun q4 => ?_)
        · refine h_st rfl rfl ?_
          exact h_rt rfl rfl (⟨_, _, rfl, fun _ _ _ => rfl, by omega, by omega, Or.inr ⟨fun y => y.2.2.2.1 q4, rfl⟩⟩)
        · refine h_st rfl rfl ?_
          refine h_st rfl rfl ?_
          refine h_st rfl rfl ?_
          refine h_br (fun q5 => ?_) (fun q5 => ?_)
          · obtain ⟨a, ha, rfl⟩ := i_ix (n := 2) (by decide) (b_2 hb1 q1).1 (b_2 hb1 q1).2
            obtain ⟨c, hc4, rfl⟩ := i_ix (n := 4) (by decide) (b_2 hb2 q2).1 (b_2 hb2 q2).2
            refine h_st rfl rfl ?_
            refine h_st rfl (e_get h0 rfl) ?_
            refine h_st rfl rfl ?_
            refine h_st rfl rfl ?_
            refine h_st rfl rfl ?_
            refine h_st rfl rfl ?_
            refine h_st rfl rfl ?_
            refine h_st rfl rfl ?_
            refine h_cv5 rfl (Nat.le_of_ble_eq_true rfl) (e_rcv (h4)) rfl (c_16 hF0 _ _ _ _) (fun σ2 hq => ?_)
            obtain ⟨k, hR, ho⟩ := hq
            have h02 := (ho.2.2 0 (by decide) (by decide)).trans h0
            refine h_st rfl rfl ?_
            refine h_st rfl (e_get h02 rfl) ?_
            refine h_st rfl rfl ?_
            refine h_st rfl rfl ?_
            refine h_st rfl rfl ?_
            refine h_st rfl rfl ?_
            refine h_st rfl rfl ?_
            refine h_cv4 rfl (Nat.le_of_ble_eq_true rfl) (e_rcv (hR.1)) rfl (c_19 hR _ _ _) (fun σ3 hq => ?_)
            obtain ⟨hR2, o2⟩ := hq
            replace ho := ho.trans o2
            have h03 := (ho.2.2 0 (by decide) (by decide)).trans h0
            refine h_st rfl rfl ?_
            refine h_st rfl (e_get h03 rfl) ?_
            refine h_st rfl rfl ?_
            refine h_st rfl rfl ?_
            refine h_st rfl rfl ?_
            refine h_cv2 rfl (Nat.le_of_ble_eq_true rfl) (e_rcv (hR2.1)) rfl (c_21 hr hR2 _) (fun σ4 hq => ?_)
            obtain ⟨hR3, o3⟩ := hq
            replace ho := ho.trans o3
            have h04 := (ho.2.2 0 (by decide) (by decide)).trans h0
            refine h_st rfl rfl ?_
            refine h_st rfl rfl ?_
            refine h_st rfl rfl ?_
            refine h_st rfl rfl ?_
            refine h_st rfl rfl ?_
            refine h_st rfl (e_get h04 rfl) ?_
            refine h_ci5 rfl (Nat.le_of_ble_eq_true rfl) (e_rcv (h04)) rfl (c_25 h ho hR3 ha (by omega)) (fun σ5 x hq => ?_)
            obtain ⟨rfl, s1, s2⟩ := hq
            exact h_rt rfl rfl (⟨_, _, rfl, s1, by rw [s2]; exact Nat.le_refl _, by rw [s2]; exact Nat.le_refl _, Or.inl ⟨⟨b_2 hb1 q1, b_2 hb2 q2, b_2 hb3 q3, q4, q5⟩, rfl⟩⟩)
          · refine h_st rfl rfl ?_
            exact h_rt rfl rfl (⟨_, _, rfl, fun _ _ _ => rfl, by omega, by omega, Or.inr ⟨fun y => q5 y.2.2.2.2, rfl⟩⟩)
end SP9
