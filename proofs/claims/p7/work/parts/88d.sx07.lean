section SX7
variable {ra : ae_R} {d : Nat} {σ σ0 σ1 σ2 : ae_S} {w w0 w1 w2 : Nat → Nat} {C C' : Nat → Prop} {i : Nat} {x y : AF} {pl hl : List AF} {fr : Nat} {b g e hp mk tm : Int32}
/-- harm is told -/
def hrm (A : ALn) (h : Nat) (mk : Int32) : ALn := (A.1, A.2.1, A.2.2.1, some (h, mk))
theorem c_68x {A : ALn} (h : LN σ w i A) {k : Nat} (hk : k < 2 ^ 31) (mk : Int32) : hE ra (d + 1) 68 [.ref (8 + 7 * i), .int (nI k), .int mk] σ (pV (fun σ' => LN σ' w i (hrm A k mk) ∧ Sa (LC i) σ w σ' w)) := by
  obtain ⟨fr, b, g, e, hp, mk0, x, h, hon, hhm, h64⟩ := h
  refine h_in rfl rfl (Nat.le_of_ble_eq_true rfl) ?_
  refine h_st rfl rfl ?_
  refine h_st rfl rfl ?_
  refine h_st rfl (e_put h.2.1 rfl (Nat.le_of_ble_eq_true rfl)) ?_
  obtain ⟨h1, s1⟩ := h.put (fr' := fr) (b' := b) (g' := g) (e' := 1) (hp' := hp) (mk' := mk0) rfl
  refine hG_eq (σ1 := (σ.1, σ.2.set (8 + 7 * i) (LC0 i fr b g 1 hp mk0))) rfl ?_
  generalize ((σ.1, σ.2.set (8 + 7 * i) (LC0 i fr b g 1 hp mk0)) : ae_S) = σ1 at h1 s1
  refine h_st rfl rfl ?_
  refine h_st rfl rfl ?_
  refine h_st rfl (e_put h1.2.1 rfl (Nat.le_of_ble_eq_true rfl)) ?_
  obtain ⟨h2, s2⟩ := h1.put (fr' := fr) (b' := b) (g' := g) (e' := 1) (hp' := nI k) (mk' := mk0) rfl
  refine hG_eq (σ1 := (σ1.1, σ1.2.set (8 + 7 * i) (LC0 i fr b g 1 (nI k) mk0))) rfl ?_
  generalize ((σ1.1, σ1.2.set (8 + 7 * i) (LC0 i fr b g 1 (nI k) mk0)) : ae_S) = σ2 at h2 s2
  refine h_st rfl rfl ?_
  refine h_st rfl rfl ?_
  refine h_st rfl (e_put h2.2.1 rfl (Nat.le_of_ble_eq_true rfl)) ?_
  obtain ⟨h3, s3⟩ := h2.put (fr' := fr) (b' := b) (g' := g) (e' := 1) (hp' := nI k) (mk' := mk) rfl
  exact h_rv rfl ⟨_, rfl, ⟨fr, b, g, 1, nI k, mk, x, h3, hon, Or.inr ⟨k, rfl, rfl, rfl, hk⟩, h64⟩, s1.trans (s2.trans s3)⟩
/-- what stands at fixed places: the object, its lines, the counts of what is dropped -/
def NT (σ : ae_S) (w : Nat → Nat) (tm : Int32) : Prop := (σ.2[0]? = some (.inr (7, [.ref 1, .ref 2, .ref 3, .ref 4, .ref 6, .int tm])) ∧ w 0 = 2404) ∧ (∃ f, σ.2[2]? = some (.inl (5, rfs 24 f)) ∧ ∀ j, j < 24 → f j = some (8 + 7 * j)) ∧ w 2 = 2406 ∧ (∃ dc, σ.2[3]? = some (.inl (0, 12, .inl dc))) ∧ w 3 = 2407
theorem NT.sa (h : NT σ w tm) (hs : Sa C σ w σ1 w1) (h0 : ¬ C 2404) (h2 : ¬ C 2406) (h3 : ¬ C 2407) : NT σ1 w1 tm := by
  obtain ⟨⟨a1, a2⟩, ⟨f, a3, a4⟩, a5, ⟨dc, a6⟩, a7⟩ := h
  rw [← a2] at h0
  rw [← a5] at h2
  rw [← a7] at h3
  exact ⟨⟨hs.at a1 h0, (hs.wt a1 h0).trans a2⟩, ⟨f, hs.at a3 h2, a4⟩, (hs.wt a3 h2).trans a5, ⟨dc, hs.at a6 h3⟩, (hs.wt a6 h3).trans a7⟩
theorem NT.dc (h : NT σ w tm) (f' : Nat → Int32) : NT (σ.1, σ.2.set 3 (.inl (0, 12, .inl f'))) w tm ∧ Sa (fun c => c = 2407) σ w (σ.1, σ.2.set 3 (.inl (0, 12, .inl f'))) w := by
  obtain ⟨⟨a1, a2⟩, ⟨f, a3, a4⟩, a5, ⟨dc, a6⟩, a7⟩ := h
  have s := Sa.set (σ := σ) (w := w) (p := 3) (y := .inl (0, 12, .inl f'))
  rw [a7] at s
  exact ⟨⟨⟨s.at a1 (by omega), a2⟩, ⟨f, s.at a3 (by omega), a4⟩, a5, ⟨f', st_get a6⟩, a7⟩, s⟩
theorem c_26x (h : NT σ w tm) {nt ln : Nat} {a c : Int32} (ea : a = nI nt) (ec : c = nI ln) (hn : nt < 2) (hl : ln < 12) : hE ra (d + 2) 26 [.ref 0, .int a, .int c] σ (pR (fun σ' q => σ' = σ ∧ q = some (8 + 7 * (12 * nt + ln)))) := by
  obtain ⟨⟨a1, a2⟩, ⟨f, a3, a4⟩, a5, a6⟩ := h
  subst ea
  subst ec
  have ei : nI nt * 12 + nI ln = nI (12 * nt + ln) := by rw [show (12 : Int32) = nI 12 from rfl, pk_mul, nI_add, Nat.mul_comm]
  have hin : ¬ ((nI nt * 12 + nI ln) < 0 ∨ 24 ≤ (nI nt * 12 + nI ln).toNatClampNeg) := by rw [ei]; exact nI_in (by omega) (by decide)
  have hv : va_rf (f (nI nt * 12 + nI ln).toNatClampNeg) = .ref (8 + 7 * (12 * nt + ln)) := by rw [ei, nI_clamp (by omega), a4 _ (by omega)]; rfl
  refine h_in rfl rfl (Nat.le_of_ble_eq_true rfl) ?_
  refine h_st rfl rfl ?_
  refine h_ci1 rfl (Nat.le_of_ble_eq_true rfl) rfl rfl (s_27 (nI nt)) (fun σ' y hy => ?_)
  obtain ⟨rfl, hy⟩ := hy
  refine h_st rfl rfl ?_
  refine h_pc (if_neg (fun z9 => (fun z => by rcases hy with q | q; exact absurd (q.1.symm.trans z) (by decide); exact q.2 ⟨nI_pos (by omega), nI_ge (b := 2) hn (by decide)⟩) (of_decide_eq_true z9))) ?_
  refine h_st rfl rfl ?_
  refine h_st rfl rfl ?_
  refine h_pc (if_neg (fun z9 => (nI_pos (by omega)) (of_decide_eq_true z9))) ?_
  refine h_st rfl rfl ?_
  refine h_st rfl rfl ?_
  refine h_st rfl rfl ?_
  refine h_pc (if_neg (fun z9 => (nI_ge (b := 12) hl (by decide)) (of_decide_eq_true z9))) ?_
  refine h_st rfl rfl ?_
  refine h_st rfl (e_get a1 rfl) ?_
  refine h_st rfl rfl ?_
  refine h_st rfl rfl ?_
  refine h_st rfl rfl ?_
  refine h_st rfl rfl ?_
  refine h_st rfl rfl ?_
  refine h_st rfl ((e_aa a3 (by decide) hin).trans (by rw [hv])) ?_
  refine h_st rfl rfl ?_
  exact h_rt rfl rfl (⟨_, some _, rfl, rfl, rfl⟩)
/-- a frame waits for a line, if its row has room -/
abbrev hiR (i : Nat) (hi : Int32) : Prop := ¬ hi = 0 ∧ ¬ i % 12 < 4
def enq (i : Nat) (hi : Int32) (x : AF) (A : ALn) : ALn := if ¬ hi = 0 ∧ ¬ i % 12 < 4 then (if A.2.1.length < cp1 i then (A.1, A.2.1 ++ [x], A.2.2) else A) else (if A.1.length < cp0 i then (A.1 ++ [x], A.2) else A)
def rom (i : Nat) (hi : Int32) (A : ALn) : Prop := if ¬ hi = 0 ∧ ¬ i % 12 < 4 then A.2.1.length < cp1 i else A.1.length < cp0 i
/-- the codes of a line's rows -/
def LQ (i : Nat) : Nat → Prop := fun c => 100 * i < c ∧ c < 100 * i + 100 ∧ c ≠ 100 * i + 10 ∧ c ≠ 100 * i + 11
theorem LW.rpl {pl' : List AF} (h : LW σ w i pl hl fr b g e hp mk x) (hr : RW σ1 w1 (11 + 7 * i) (12 + 7 * i) (100 * i + 1) (cp0 i) (100 * i + 12) pl') (hs : Sa (RC (100 * i + 1) (100 * i + 12) (cp0 i)) σ w σ1 w1) : LW σ1 w1 i pl' hl fr b g e hp mk x := by
  obtain ⟨h1, h2, h3, h4, h5⟩ := h
  have b0 := cp0_le i
  have b1 := cp1_le i
  have c1 : ¬ RC (100 * i + 1) (100 * i + 12) (cp0 i) (w (8 + 7 * i)) := by unfold RC; omega
  exact ⟨(hs.wt h2 c1).trans h1, hs.at h2 c1, hr, h4.sa hs (fun c z => by unfold RC at z ⊢; omega), h5.sa hs (by unfold RC; omega) (by unfold RC; omega)⟩
theorem LW.rhl {hl' : List AF} (h : LW σ w i pl hl fr b g e hp mk x) (hr : RW σ1 w1 (13 + 7 * i) (14 + 7 * i) (100 * i + 3) (cp1 i) (100 * i + 44) hl') (hs : Sa (RC (100 * i + 3) (100 * i + 44) (cp1 i)) σ w σ1 w1) : LW σ1 w1 i pl hl' fr b g e hp mk x := by
  obtain ⟨h1, h2, h3, h4, h5⟩ := h
  have b0 := cp0_le i
  have b1 := cp1_le i
  have c1 : ¬ RC (100 * i + 3) (100 * i + 44) (cp1 i) (w (8 + 7 * i)) := by unfold RC; omega
  exact ⟨(hs.wt h2 c1).trans h1, hs.at h2 c1, h3.sa hs (fun c z => by unfold RC at z ⊢; omega), hr, h5.sa hs (by unfold RC; omega) (by unfold RC; omega)⟩
theorem c_28x (h : LW σ w i pl hl fr b g e hp mk x) (hi : Int32) : hE ra (d + 1) 28 [.ref (8 + 7 * i), .int hi] σ (pR (fun σ' q => σ' = σ ∧ ((hiR i hi ∧ q = some (13 + 7 * i)) ∨ (¬ hiR i hi ∧ q = some (11 + 7 * i))))) := by
  have h2 := h.2.1
  refine h_in rfl rfl (Nat.le_of_ble_eq_true rfl) ?_
  refine h_st rfl rfl ?_
  refine h_st rfl rfl ?_
  refine h_br (fun q => ?_) (fun q => ?_)
  · refine h_st rfl rfl ?_
    refine h_st rfl (e_get h2 rfl) ?_
    exact h_rt rfl rfl (⟨_, some _, rfl, rfl, Or.inr ⟨fun z => z.1 q, rfl⟩⟩)
  · refine h_st rfl rfl ?_
    refine h_st rfl (e_get h2 rfl) ?_
    refine h_st rfl rfl ?_
    refine h_br (fun q2 => ?_) (fun q2 => ?_)
    · refine h_st rfl rfl ?_
      refine h_st rfl (e_get h2 rfl) ?_
      exact h_rt rfl rfl (⟨_, some _, rfl, rfl, Or.inr ⟨fun z => q2 (by unfold one; rw [if_neg z.2]), rfl⟩⟩)
    · refine h_st rfl rfl ?_
      refine h_st rfl (e_get h2 rfl) ?_
      refine h_st rfl rfl ?_
      exact h_rt rfl rfl (⟨_, some _, rfl, rfl, Or.inl ⟨⟨q, fun z => absurd (Decidable.of_not_not q2) (by unfold one; rw [if_pos z]; decide)⟩, rfl⟩⟩)
/-- the row of a line that is meant is filled -/
theorem c_29y {A : ALn} (h : LN σ w i A) (hN : NT σ w tm) (hi24 : i < 24) {hi : Int32} {R sp sb : Nat} (hR : (hiR i hi ∧ R = 13 + 7 * i) ∨ (¬ hiR i hi ∧ R = 11 + 7 * i)) (hF : FX σ sp sb x.1 x.2) (hx : 64 ≤ x.1) : hE ra (d + 2) 29 [.ref R, .ref sp] σ (pI (fun σ' v => (v = 0 ∧ ¬ rom i hi A ∧ σ' = σ ∧ enq i hi x A = A) ∨ (v = 1 ∧ rom i hi A ∧ ∃ w', NT σ' w' tm ∧ LN σ' w' i (enq i hi x A) ∧ Sa (LQ i) σ w σ' w'))) ∧ ae_rcv σ (some 6) [.ref R, .ref sp] = true := by
  obtain ⟨fr, b, g, e, hp, mk, x0, h, hon, hhm, h64⟩ := h
  have b0 := cp0_le i
  have b1 := cp1_le i
  rcases hR with ⟨hr, rfl⟩ | ⟨hr, rfl⟩
  · refine ⟨hE_mono (c_29x h.2.2.2.1 hF) (fun r z => ?_), h.2.2.2.1.rcv⟩
    obtain ⟨σ', v, er, hv⟩ := z
    refine ⟨σ', v, er, ?_⟩
    have el := h.2.2.2.1.len
    rcases hv with ⟨z1, z2, z3⟩ | ⟨z1, z2, w', z3, z4⟩
    · exact Or.inl ⟨z2, by unfold rom; rw [if_pos hr]; omega, z3, by unfold enq; rw [if_pos hr, if_neg (by omega)]⟩
    · have z5 : Sa (LQ i) σ w σ' w' := z4.mono (fun c q => by unfold RC at q; unfold LQ; omega)
      refine Or.inr ⟨z2, by unfold rom; rw [if_pos hr]; exact z1, w', hN.sa z5 (by unfold LQ; omega) (by unfold LQ; omega) (by unfold LQ; omega), ?_, z5⟩
      unfold enq
      rw [if_pos hr, if_pos z1]
      exact ⟨fr, b, g, e, hp, mk, x0, h.rhl z3 z4, hon, hhm, fun y hy => hy.elim (fun q => h64 y (Or.inl q)) (fun q => (List.mem_append.mp q).elim (fun q => h64 y (Or.inr q)) (fun q => by rw [List.mem_singleton.mp q]; exact hx))⟩
  · refine ⟨hE_mono (c_29x h.2.2.1 hF) (fun r z => ?_), h.2.2.1.rcv⟩
    obtain ⟨σ', v, er, hv⟩ := z
    refine ⟨σ', v, er, ?_⟩
    have el := h.2.2.1.len
    rcases hv with ⟨z1, z2, z3⟩ | ⟨z1, z2, w', z3, z4⟩
    · exact Or.inl ⟨z2, by unfold rom; rw [if_neg hr]; omega, z3, by unfold enq; rw [if_neg hr, if_neg (by omega)]⟩
    · have z5 : Sa (LQ i) σ w σ' w' := z4.mono (fun c q => by unfold RC at q; unfold LQ; omega)
      refine Or.inr ⟨z2, by unfold rom; rw [if_neg hr]; exact z1, w', hN.sa z5 (by unfold LQ; omega) (by unfold LQ; omega) (by unfold LQ; omega), ?_, z5⟩
      unfold enq
      rw [if_neg hr, if_pos z1]
      exact ⟨fr, b, g, e, hp, mk, x0, h.rpl z3 z4, hon, hhm, fun y hy => hy.elim (fun q => (List.mem_append.mp q).elim (fun q => h64 y (Or.inl q)) (fun q => by rw [List.mem_singleton.mp q]; exact hx)) (fun q => h64 y (Or.inr q))⟩
theorem c_25x {A : ALn} {nt ln sp sb : Nat} {a c : Int32} (ea : a = nI nt) (ec : c = nI ln) (hn : nt < 2) (hl : ln < 12) (hN : NT σ w tm) (h : LN σ w (12 * nt + ln) A) (hi : Int32) (hF : FX σ sp sb x.1 x.2) (hx : 64 ≤ x.1) : hE ra (d + 3) 25 [.ref 0, .int a, .int c, .int hi, .ref sp] σ (pI (fun σ' v => ∃ w', NT σ' w' tm ∧ LN σ' w' (12 * nt + ln) (enq (12 * nt + ln) hi x A) ∧ Sa (fun c => LQ (12 * nt + ln) c ∨ c = 2407) σ w σ' w' ∧ ((v = 1 ∧ rom (12 * nt + ln) hi A) ∨ (v = 0 ∧ ¬ rom (12 * nt + ln) hi A)))) := by
  refine h_in rfl rfl (Nat.le_of_ble_eq_true rfl) ?_
  refine h_st rfl rfl ?_
  refine h_st rfl rfl ?_
  refine h_st rfl rfl ?_
  refine h_cr3 rfl (Nat.le_of_ble_eq_true rfl) (e_rcv (hN.1.1)) rfl (c_26x hN ea ec hn hl) (fun σ1 q hq => ?_)
  obtain ⟨rfl, rfl⟩ := hq
  have h' := h
  obtain ⟨fr, b, g, e, hp, mk, x0, h', -⟩ := h'
  refine h_st rfl rfl ?_
  refine h_st rfl rfl ?_
  refine h_st rfl rfl ?_
  refine h_st rfl rfl ?_
  refine h_st rfl rfl ?_
  refine h_cr2 rfl (Nat.le_of_ble_eq_true rfl) (h'.rcv) rfl (c_28x h' hi) (fun σ1 q hq => ?_)
  obtain ⟨rfl, hq⟩ := hq
  obtain ⟨R, rfl, hR⟩ : ∃ R, q = some R ∧ ((hiR (12 * nt + ln) hi ∧ R = 13 + 7 * (12 * nt + ln)) ∨ (¬ hiR (12 * nt + ln) hi ∧ R = 11 + 7 * (12 * nt + ln))) := hq.elim (fun z => ⟨_, z.2, Or.inl ⟨z.1, rfl⟩⟩) (fun z => ⟨_, z.2, Or.inr ⟨z.1, rfl⟩⟩)
  refine h_st rfl rfl ?_
  refine h_ci2 rfl (Nat.le_of_ble_eq_true rfl) ((c_29y (ra := ra) (d := d) h hN (by omega) hR hF hx).2) rfl ((c_29y h hN (by omega) hR hF hx).1) (fun σ2 v hv => ?_)
  rcases hv with ⟨rfl, hro, rfl, hen⟩ | ⟨rfl, hro, w', hN2, hL2, hs2⟩
  · refine h_st rfl rfl ?_
    refine h_pc (if_pos (by decide)) ?_
    refine h_st rfl rfl ?_
    refine h_st rfl rfl ?_
    refine h_st rfl rfl ?_
    refine h_st rfl rfl ?_
    refine h_pc (if_neg (by decide)) ?_
    refine h_st rfl rfl ?_
    refine h_st rfl (e_get hN.1.1 rfl) ?_
    refine h_st rfl rfl ?_
    refine h_st rfl rfl ?_
    refine h_st rfl (e_ia hN.2.2.2.1.choose_spec (nI_in (c := 6) (by decide) (by decide))) ?_
    refine h_st rfl rfl ?_
    refine h_st rfl rfl ?_
    refine h_st rfl (e_ias hN.2.2.2.1.choose_spec (nI_in (c := 6) (by decide) (by decide))) ?_
    refine h_st rfl rfl ?_
    exact h_rt rfl rfl (⟨_, _, rfl, w, (hN.dc _).1, by rw [hen]; exact h.sa (hN.dc _).2 (fun c z => by unfold LC at z; omega), (hN.dc _).2.mono (fun c z => Or.inr z), Or.inr ⟨rfl, hro⟩⟩)
  · refine h_st rfl rfl ?_
    refine h_pc (if_neg (by decide)) ?_
    refine h_st rfl rfl ?_
    refine h_st rfl rfl ?_
    refine h_st rfl rfl ?_
    refine h_st rfl rfl ?_
    refine h_st rfl rfl ?_
    refine h_pc (if_pos (by decide)) ?_
    refine h_st rfl rfl ?_
    exact h_rt rfl rfl (⟨_, _, rfl, w', hN2, hL2, hs2.mono (fun c z => Or.inl z), Or.inl ⟨rfl, hro⟩⟩)
end SX7
