section RFA
variable {ra : ae_R} {d : Nat} {σ : ae_S}
/-- counts and next times of the links, as the reference has them -/
def MS (F : Nat → Nat → Int32) (s : Nat → Nat × Int32) : Prop := ∀ i, i < 8 → (F 177 i ≠ 0 → (s i).1 ≤ 8 ∧ F 189 i = nI (s i).1 ∧ F 185 i = (s i).2) ∧ (F 177 i = 0 → F 189 i = 0 ∧ F 185 i = 0)
theorem MS.same {F F' : Nat → Nat → Int32} {s : Nat → Nat × Int32} (h : MS F s) (e1 : F' 177 = F 177) (e2 : F' 189 = F 189) (e3 : F' 185 = F 185) : MS F' s := fun i hi => by
  rw [e1, e2, e3]
  exact h i hi
theorem MS.eq {F : Nat → Nat → Int32} {s s' : Nat → Nat × Int32} (h : MS F s) (e : ∀ i, i < 8 → F 177 i ≠ 0 → s' i = s i) : MS F s' := fun i hi => ⟨fun z => by rw [e i hi z]; exact (h i hi).1 z, (h i hi).2⟩
theorem MS.sh {F F' : Nat → Nat → Int32} {s : Nat → Nat × Int32} {u : Int32} {l : Nat} (h : MS F s) (hl : l < 8) (hs : (F' = F ∧ (F 177 l = 0 ∨ F 189 l = 0 ∨ u < F 185 l)) ∨ (F 177 l ≠ 0 ∧ ¬ u < F 185 l ∧ (∃ wn, wn ≤ 7 ∧ F 189 l = nI (wn + 1) ∧ F' 189 = upd (F 189) l (nI wn)) ∧ F' 185 = upd (F 185) l (u + F 181 l) ∧ (∀ q, q < 185 → F' q = F q) ∧ F' 186 = F 186)) : MS F' (fun i => if i = l then stp (F 181 l) u (s l) else s i) := by
  rcases hs with ⟨rfl, hc⟩ | ⟨c1, c2, ⟨wn, w1, w2, w3⟩, c3, c4, _⟩
  · refine h.eq (fun i hi hz => ?_)
    by_cases e : i = l
    · subst e
      rw [if_pos rfl]
      obtain ⟨a1, a2, a3⟩ := (h i hi).1 hz
      apply if_pos
      rcases hc with hc | hc | hc
      · exact absurd hc hz
      · rw [a2] at hc
        exact Or.inl (nI_inj (c := 0) (by omega) (by decide) hc)
      · rw [a3] at hc
        exact Or.inr hc
    · rw [if_neg e]
  · intro i hi
    rw [c4 177 (by decide), w3, c3]
    by_cases e : i = l
    · subst e
      rw [pk_us, pk_us]
      refine ⟨fun hz => ?_, fun hz => absurd hz c1⟩
      obtain ⟨a1, a2, a3⟩ := (h i hi).1 hz
      have es : (s i).1 = wn + 1 := nI_inj (by omega) (by omega) (a2.symm.trans w2)
      have hst : stp (F 181 i) u (s i) = (wn, u + F 181 i) := by
        unfold stp
        rw [if_neg (fun z => z.elim (fun y => by omega) (fun y => c2 (a3 ▸ y))), es]
        rfl
      have hst2 : (fun i_1 => if i_1 = i then stp (F 181 i) u (s i) else s i_1) i = (wn, u + F 181 i) := (if_pos rfl).trans hst
      rw [hst2]
      exact ⟨show wn ≤ 8 by omega, rfl, rfl⟩
    · rw [pk_un e, pk_un e]
      simp only [if_neg e]
      exact h i hi
theorem r_101ax {σ0 : ae_S} {F0 Fx : Nat → Nat → Int32} {c u g n k : Int32} {s : Nat → Nat × Int32} {P : ae_S × ae_O → Prop} (hx : ∀ (σ : ae_S) F x4, RS false σ0 F0 σ c u g F → RP F g [] [] → (∀ q, q < 185 → F q = Fx q) → MS F (fun i => if i < 8 then stp (Fx 181 i) u (s i) else s i) → hG ra (d + 6) 101 σ [some (.ref 176), some (.int n), some (.int k), some (.int (nI 8)), x4] [] 38 P) : ∀ (m j : Nat) (σ : ae_S) (F : Nat → Nat → Int32) (x4 : Option Value), j + m = 8 → RS false σ0 F0 σ c u g F → RP F g [] [] → (∀ q, q < 185 → F q = Fx q) → MS F (fun i => if i < j then stp (Fx 181 i) u (s i) else s i) → hG ra (d + 6) 101 σ [some (.ref 176), some (.int n), some (.int k), some (.int (nI j)), x4] [] 21 P := by
  intro m
  induction m with
  | zero =>
    intro j σ F x4 hj h hP hag hM
    have hj : j = 8 := by omega
    subst hj
    refine h_st rfl rfl ?_
    refine h_st rfl rfl ?_
    refine h_st rfl rfl ?_
    refine h_pc (if_pos (decide_eq_true (nI_le (Nat.le_refl 8) (by decide)))) ?_
    exact hx _ _ _ h hP hag hM
  | succ m ih =>
    intro j σ F x4 hj h hP hag hM
    have ih1 := fun σ F x4 => ih (j + 1) σ F x4 (by omega)
    simp only [← nI_1] at ih1
    refine h_st rfl rfl ?_
    refine h_st rfl rfl ?_
    refine h_st rfl rfl ?_
    refine h_pc (if_neg (fun z9 => (nI_ge (show j < 8 by omega) (by decide)) (of_decide_eq_true z9))) ?_
    refine h_st rfl rfl ?_
    refine h_st rfl rfl ?_
    refine h_cv2 rfl (Nat.le_of_ble_eq_true rfl) (e_rcv h.2.1) rfl (r_102t h hP (by decide) rfl (by omega)) (fun σ2 hq => ?_)
    obtain ⟨F2, h2, hP2, hs2⟩ := hq
    have ag2 : ∀ q, q < 185 → F2 q = F q := hs2.elim (fun z q _ => by rw [z.1]) (fun z => z.2.2.2.2.1)
    have hM2 := (hM.sh (by omega) hs2).eq (s' := fun i => if i < j + 1 then stp (Fx 181 i) u (s i) else s i) (fun i hi hz => by
      by_cases e : i = j
      · subst e
        simp only [if_pos (Nat.lt_succ_self i), Nat.lt_irrefl, if_false, if_true, hag 181 (by decide)]
      · by_cases e2 : i < j
        · simp only [if_pos e2, if_pos (show i < j + 1 by omega), if_neg e]
        · simp only [if_neg e2, if_neg (show ¬ i < j + 1 by omega), if_neg e])
    refine h_st rfl rfl ?_
    refine h_st rfl rfl ?_
    exact ih1 _ _ _ h2 hP2 (fun q hq => (ag2 q hq).trans (hag q hq)) hM2
theorem r_101lx {σ0 : ae_S} {F0 Fx : Nat → Nat → Int32} {u g : Int32} {s : Nat → Nat × Int32} {N : Nat} (hN : N ≤ 2000) : ∀ (m k : Nat) (σ : ae_S) (F : Nat → Nat → Int32) (x3 x4 : Option Value), k + m = N → RS false σ0 F0 σ 0 (u + nI k) g F → RP F g [] [] → (∀ q, q < 185 → F q = Fx q) → MS F (fun i => itr (Fx 181 i) u k (s i)) → hG ra (d + 6) 101 σ [some (.ref 176), some (.int (nI N)), some (.int (nI k)), x3, x4] [] 7 (pI (fun σ' v => v = u + nI N ∧ ∃ F', RS false σ0 F0 σ' 0 (u + nI N) g F' ∧ RP F' g [] [] ∧ (∀ q, q < 185 → F' q = Fx q) ∧ MS F' (fun i => itr (Fx 181 i) u N (s i)))) := by
  intro m
  induction m with
  | zero =>
    intro k σ F x3 x4 hk h hP hag hM
    have hk : k = N := by omega
    subst hk
    refine h_st rfl rfl ?_
    refine h_st rfl rfl ?_
    refine h_st rfl rfl ?_
    refine h_pc (if_pos (decide_eq_true (nI_le (Nat.le_refl _) (by omega)))) ?_
    refine h_st rfl rfl ?_
    refine h_st rfl (e_get h.2.1 rfl) ?_
    exact h_rt rfl rfl (⟨_, _, rfl, rfl, F, h, hP, hag, hM⟩)
  | succ m ih =>
    intro k σ F x3 x4 hk h hP hag hM
    have ih1 := fun σ F x3 x4 => ih (k + 1) σ F x3 x4 (by omega)
    simp only [← nI_1] at ih1
    have eb : u + nI k + 1 = u + (nI k + 1) := Int32.add_assoc _ _ _
    have hM0 := hM.eq (s' := fun i => if i < 0 then stp (Fx 181 i) (u + nI k) (itr (Fx 181 i) u k (s i)) else itr (Fx 181 i) u k (s i)) (fun i _ _ => if_neg (Nat.not_lt_zero _))
    refine h_st rfl rfl ?_
    refine h_st rfl rfl ?_
    refine h_st rfl rfl ?_
    refine h_pc (if_neg (fun z9 => (nI_ge (show k < N by omega) (by omega)) (of_decide_eq_true z9))) ?_
    refine h_st rfl rfl ?_
    refine h_st rfl rfl ?_
    refine h_st rfl rfl ?_
    refine h_pc (if_neg (fun z9 => (show ¬ (2000 : Int32) < nI N from Int32.not_lt.mpr (nI_le (b := 2000) hN (by decide))) (of_decide_eq_true z9))) ?_
    refine h_st rfl rfl ?_
    refine h_st rfl rfl ?_
    refine r_101ax (F0 := F0) (Fx := Fx) (fun σ F1 x4 h hP hag hM => ?_) 8 0 _ _ _ rfl h hP hag hM0
    refine h_st rfl rfl ?_
    refine h_st rfl rfl ?_
    refine r_101bt (F0 := F0) (Fx := F1) (fun σ F2 x4 h hP => ?_) 24 0 _ _ _ rfl h.base hP
    refine h_st rfl rfl ?_
    refine h_st rfl rfl ?_
    refine r_101ct (F0 := F0) (Fx := F1) (fun σ F3 x4 h hP => ?_) 24 0 _ _ _ rfl h hP
    refine h_st rfl rfl ?_
    refine h_st rfl rfl ?_
    refine r_101dt (Fx := F1) (fun σ F4 x4 h hP => ?_) 16 0 _ _ _ rfl h hP
    have hag4 : ∀ q, q < 185 → F4 q = Fx q := fun q hq => (h.2.2.2 rfl q (by omega) (by omega)).trans (hag q hq)
    have hM4 : MS F4 (fun i => itr (Fx 181 i) u (k + 1) (s i)) := (hM.same (h.2.2.2 rfl 177 (by decide) (by decide)) (h.2.2.2 rfl 189 (by decide) (by decide)) (h.2.2.2 rfl 185 (by decide) (by decide))).eq (fun i hi _ => (if_pos hi).symm)
    refine h_st rfl rfl ?_
    refine h_st rfl rfl ?_
    refine h_st rfl (e_get h.2.1 rfl) ?_
    refine h_st rfl rfl ?_
    refine h_st rfl rfl ?_
    refine r_put rfl h rfl (Nat.le_of_ble_eq_true rfl) rfl (fun σ2 h2 => ?_)
    replace h := h2
    clear h2
    replace h : RS true σ0 F1 σ2 0 (u + (nI k + 1)) g F4 := by rw [← eb]; exact h
    refine h_st rfl rfl ?_
    refine h_st rfl rfl ?_
    exact ih1 _ _ _ _ h.fls hP hag4 hM4
theorem r_101x {b : Bool} {σ0 : ae_S} {F0 F : Nat → Nat → Int32} {c u g : Int32} (h : RS b σ0 F0 σ c u g F) (hP : RP F g [] []) {s : Nat → Nat × Int32} (hM : MS F s) (x : Int32) : hE ra (d + 7) 101 [.ref 176, .int x] σ (pI (fun σ' v => ∃ N, N = (if x < 0 ∨ 2000 < x then 0 else x.toNatClampNeg) ∧ v = u + nI N ∧ ∃ F', RS false σ0 F σ' 0 (u + nI N) g F' ∧ RP F' g [] [] ∧ (∀ q, q < 185 → F' q = F q) ∧ MS F' (fun i => itr (F 181 i) u N (s i)))) := by
  have e0 : u + nI 0 = u := by rw [nI_0, Int32.add_zero]
  have hfl : RS false σ0 F σ c u g F := h.fls
  replace h := hfl
  clear hfl
  refine h_in rfl rfl (Nat.le_of_ble_eq_true rfl) ?_
  refine h_st rfl rfl ?_
  refine h_st rfl rfl ?_
  refine r_put rfl h rfl (Nat.le_of_ble_eq_true rfl) rfl (fun σ2 h2 => ?_)
  replace h := h2
  clear h2
  refine h_st rfl rfl ?_
  refine h_st rfl rfl ?_
  rw [← e0] at h
  by_cases hc : x < 0 ∨ 2000 < x
  · have hN0 : (0 : Nat) = (if x < 0 ∨ 2000 < x then 0 else x.toNatClampNeg) := (if_pos hc).symm
    rcases hc with hc | hc
    · refine h_st rfl rfl ?_
      refine h_st rfl rfl ?_
      refine h_st rfl rfl ?_
      refine h_pc (if_pos (decide_eq_true (show x ≤ 0 from Int32.le_of_lt hc))) ?_
      refine h_st rfl rfl ?_
      refine h_st rfl (e_get h.2.1 rfl) ?_
      exact h_rt rfl rfl (⟨_, _, rfl, 0, hN0, rfl, F, h, hP, fun _ _ => rfl, hM⟩)
    · refine h_st rfl rfl ?_
      refine h_st rfl rfl ?_
      refine h_st rfl rfl ?_
      refine h_pc (if_neg (fun z9 => (show ¬ x ≤ 0 from Int32.not_le.mpr (Int32.lt_trans (by decide) hc)) (of_decide_eq_true z9))) ?_
      refine h_st rfl rfl ?_
      refine h_st rfl rfl ?_
      refine h_st rfl rfl ?_
      refine h_pc (if_pos (decide_eq_true (hc))) ?_
      refine h_st rfl rfl ?_
      refine h_st rfl (e_get h.2.1 rfl) ?_
      exact h_rt rfl rfl (⟨_, _, rfl, 0, hN0, rfl, F, h, hP, fun _ _ => rfl, hM⟩)
  · obtain ⟨N, hN, rfl⟩ := nI_of2 (x := x) (M := 2000) (n := 2000) (by decide) (fun z => hc (Or.inl z)) (Int32.not_lt.mp (fun z => hc (Or.inr z)))
    have hNN : N = (if nI N < 0 ∨ 2000 < nI N then 0 else (nI N).toNatClampNeg) := by rw [if_neg hc, nI_clamp (by omega)]
    obtain ⟨r, g1, σ9, v, rfl, a1, F9, a2, a3, a4, a5⟩ := r_101lx (ra := ra) (d := d) (F0 := F) hN N 0 _ _ none none (Nat.zero_add _) h hP (fun _ _ => rfl) hM
    exact ⟨_, g1, σ9, v, rfl, N, hNN, a1, F9, a2, a3, a4, a5⟩
end RFA
