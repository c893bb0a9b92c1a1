section SX4
variable {ra : ae_R} {d : Nat} {σ σ0 σ1 σ2 : ae_S} {w w0 w1 w2 : Nat → Nat} {C C' : Nat → Prop} {p pb q c cp : Nat} {x y : AF}
variable {R S cR n c0 a j r sp sb : Nat} {f : Nat → Option Nat} {l : List AF}
theorem hG_eq {mid pc : Nat} {L : ae_Ls} {k : List Value} {P : ae_S × ae_O → Prop} (e : σ = σ1) (h : hG ra d mid σ1 L k pc P) : hG ra d mid σ L k pc P := e ▸ h
/-- two frames change places: r goes to cp, p to c1 -/
def swp (w : Nat → Nat) (r rb p pb cp c1 : Nat) : Nat → Nat := fun q => if q = r then cp else if q = rb then cp + 1 else if q = p then c1 else if q = pb then c1 + 1 else w q
/-- the end of an exchange -/
theorem xch {a' : Nat} {t : List AF} {rb : Nat} {σ3 : ae_S} (hw : w R = cR ∧ w S = cR + 1 ∧ cR + 1 < c0 ∧ n ≤ 16) (hab : (x :: t).length ≤ n ∧ a < n) (hall : ∀ j q, j < n → f j = some q → ∃ x, Fw σ w q (c0 + 2 * j) x) (hl : ∀ j y, (x :: t)[j]? = some y → ∃ q, f (ix n a j) = some q ∧ Fw σ w q (c0 + 2 * ix n a j) y)
    (hr : f a = some r) (wr : w r = c0 + 2 * a) (wb : w rb = c0 + 2 * a + 1) (hX : FX σ r rb x.1 x.2) (wp : w p = cp) (wpb : w pb = cp + 1) (hP : FX σ p pb y.1 y.2) (hc1 : ¬ RC cR c0 n cp) (hc2 : ¬ RC cR c0 n (cp + 1))
    (s : Sa (fun c => c = cR ∨ c = cR + 1) σ w σ3 w) (hR : σ3.2[R]? = some (.inr (6, [.ref S, .int (nI a'), .int (nI t.length)]))) (hS : σ3.2[S]? = some (.inl (6, rfs n (va_up f a (some p))))) (ha' : a' = if t.length = 0 then 0 else if a + 1 < n then a + 1 else 0) :
    ∃ w', RW σ3 w' R S cR n c0 t ∧ Fw σ3 w' r cp x ∧ Sa (fun c => RC cR c0 n c ∨ c = cp ∨ c = cp + 1) σ w σ3 w' := by
  unfold RC at hc1 hc2
  have hlen : t.length + 1 ≤ n := hab.1
  have s2 : Sa (fun c => c = cR ∨ c = cR + 1 ∨ c = c0 + 2 * a ∨ c = c0 + 2 * a + 1 ∨ c = cp ∨ c = cp + 1) σ w σ3 (swp w r rb p pb cp (c0 + 2 * a)) := ⟨s.1, fun q hq hn => ⟨(s.2 q hq (fun z => hn (by omega))).1, by
    unfold swp
    rw [if_neg (fun e => hn (by rw [e]; omega)), if_neg (fun e => hn (by rw [e]; omega)), if_neg (fun e => hn (by rw [e]; omega)), if_neg (fun e => hn (by rw [e]; omega))]⟩⟩
  have dne : ∀ u v : Nat, w u ≠ w v → u ≠ v := fun u v h e => h (by rw [e])
  have fr : Fw σ3 (swp w r rb p pb cp (c0 + 2 * a)) r cp x := ⟨if_pos rfl, rb, by unfold swp; rw [if_neg (dne _ _ (by omega)), if_pos rfl], hX.sa s (by omega) (by omega)⟩
  have fp : Fw σ3 (swp w r rb p pb cp (c0 + 2 * a)) p (c0 + 2 * a) y := ⟨by unfold swp; rw [if_neg (dne _ _ (by omega)), if_neg (dne _ _ (by omega)), if_pos rfl], pb, by unfold swp; rw [if_neg (dne _ _ (by omega)), if_neg (dne _ _ (by omega)), if_neg (dne _ _ (by omega)), if_pos rfl], hP.sa s (by omega) (by omega)⟩
  have wc : ∀ q, w q = cR ∨ w q = cR + 1 → swp w r rb p pb cp (c0 + 2 * a) q = w q := fun q hq => by
    unfold swp
    rw [if_neg (dne _ _ (by omega)), if_neg (dne _ _ (by omega)), if_neg (dne _ _ (by omega)), if_neg (dne _ _ (by omega))]
  refine ⟨swp w r rb p pb cp (c0 + 2 * a), ⟨⟨(wc R (Or.inl hw.1)).trans hw.1, (wc S (Or.inr hw.2.1)).trans hw.2.1, hw.2.2⟩, a', va_up f a (some p), hR, hS, ⟨by omega, ?_⟩, fun j q hj hq => ?_, fun j z hz => ?_⟩, fr, s2.mono (fun c z => by unfold RC; omega)⟩
  · rw [ha']
    split
    · exact Or.inr rfl
    · split <;> omega
  · by_cases e : j = a
    · rw [show va_up f a (some p) j = some p by simp [va_up, e]] at hq
      cases hq
      rw [e]
      exact ⟨y, fp⟩
    · rw [show va_up f a (some p) j = f j by simp [va_up, e]] at hq
      obtain ⟨z, hz⟩ := hall j q hj hq
      exact ⟨z, hz.sa s2 (by omega) (by omega)⟩
  · have hj := (List.getElem?_eq_some_iff.mp hz).1
    obtain ⟨q, h6, h7⟩ := hl (j + 1) z (by simpa using hz)
    have hne : ix n a (j + 1) ≠ a := fun e => by
      have e0 : ix n a 0 = a := by
        unfold ix
        rw [if_pos (by omega)]
        rfl
      have := ix_inj (Or.inl hab.2) (by omega) (by omega) (e.trans e0.symm)
      omega
    have e2 : ix n a' j = ix n a (j + 1) := by
      rw [ha', if_neg (by omega)]
      exact ix_s hab.2 (by omega)
    have hlt := ix_lt (n := n) (a := a) (j := j + 1) (Or.inl hab.2) (by omega)
    rw [e2]
    exact ⟨q, by rw [show va_up f a (some p) (ix n a (j + 1)) = f (ix n a (j + 1)) by simp [va_up, hne]]; exact h6, h7.sa s2 (by omega) (by omega)⟩
theorem c_61x (h : RW σ w R S cR n c0 l) (hP : Fw σ w p cp y) (hc1 : ¬ RC cR c0 n cp) (hc2 : ¬ RC cR c0 n (cp + 1)) : hE ra (d + 1) 61 [.ref R, .ref p] σ (pR (fun σ' q => (l = [] ∧ q = some p ∧ σ' = σ) ∨ ∃ x t r w', l = x :: t ∧ q = some r ∧ RW σ' w' R S cR n c0 t ∧ Fw σ' w' r cp x ∧ Sa (fun c => RC cR c0 n c ∨ c = cp ∨ c = cp + 1) σ w σ' w')) := by
  obtain ⟨hw, a, f, h1, hs, hab, hall, hl⟩ := h
  obtain ⟨wp, pb, wpb, hP⟩ := hP
  cases l with
  | nil =>
    refine h_in rfl rfl (Nat.le_of_ble_eq_true rfl) ?_
    refine h_st rfl rfl ?_
    refine h_st rfl (e_get h1 rfl) ?_
    refine h_st rfl rfl ?_
    refine h_pc (if_pos (by decide)) ?_
    refine h_st rfl rfl ?_
    exact h_rt rfl rfl (⟨_, some p, rfl, Or.inl ⟨rfl, rfl, rfl⟩⟩)
  | cons x t =>
    have hlen : t.length + 1 ≤ n := hab.1
    have han : a < n := by omega
    have e0 : ix n a 0 = a := by
      unfold ix
      rw [if_pos (by omega)]
      rfl
    obtain ⟨r, hr, wr, rb, wb, hX⟩ := hl 0 x rfl
    rw [e0] at hr wr wb
    have hin : ¬ (nI a < 0 ∨ n ≤ (nI a).toNatClampNeg) := nI_in han (by omega)
    have ea : (nI a).toNatClampNeg = a := nI_clamp (by omega)
    have hr' : f (nI a).toNatClampNeg = some r := by rw [ea]; exact hr
    have dne : ∀ u v : Nat, w u ≠ w v → u ≠ v := fun u v h e => h (by rw [e])
    have eRS : R ≠ S := dne _ _ (by omega)
    refine h_in rfl rfl (Nat.le_of_ble_eq_true rfl) ?_
    refine h_st rfl rfl ?_
    refine h_st rfl (e_get h1 rfl) ?_
    refine h_st rfl rfl ?_
    refine h_pc (if_neg (fun z9 => (nI_ne0 (n := t.length + 1) (by omega) (by omega)) (of_decide_eq_true z9))) ?_
    refine h_st rfl rfl ?_
    refine h_st rfl (e_get h1 rfl) ?_
    refine h_st rfl rfl ?_
    refine h_st rfl (e_get h1 rfl) ?_
    refine h_st rfl ((e_aa hs (by decide) hin).trans (by rw [hr'])) ?_
    refine h_st rfl rfl ?_
    refine h_st rfl rfl ?_
    refine h_st rfl (e_get h1 rfl) ?_
    refine h_st rfl rfl ?_
    refine h_st rfl (e_get h1 rfl) ?_
    refine h_st rfl ((e_aa hs (by decide) hin).trans (by rw [hr'])) ?_
    refine h_st rfl rfl ?_
    refine h_st rfl rfl ?_
    refine h_st rfl (e_get h1 rfl) ?_
    refine h_st rfl rfl ?_
    refine h_st rfl (e_get h1 rfl) ?_
    refine h_st rfl rfl ?_
    refine h_st rfl (e_aas hs hP.1 (by decide) hin) ?_
    refine h_st rfl rfl ?_
    refine h_st rfl rfl ?_
    refine h_st rfl (e_get ((st_ne (Ne.symm eRS)).trans h1) rfl) ?_
    refine h_st rfl rfl ?_
    refine h_st rfl rfl ?_
    refine h_st rfl (e_put ((st_ne (Ne.symm eRS)).trans h1) rfl (Nat.le_of_ble_eq_true rfl)) ?_
    rw [ea]
    have g1 : ((σ.2.set S (.inl (6, rfs n (va_up f a (some p))))).set R (.inr (6, [.ref S, .int (nI a), .int (nI t.length)])))[R]? = some (.inr (6, [.ref S, .int (nI a), .int (nI t.length)])) := st_get (σ := (σ.1, σ.2.set S (.inl (6, rfs n (va_up f a (some p)))))) (y := .inr (6, [.ref S, .int (nI a), .int (nI (x :: t).length)])) ((st_ne (Ne.symm eRS)).trans h1)
    have g2 : ((σ.2.set S (.inl (6, rfs n (va_up f a (some p))))).set R (.inr (6, [.ref S, .int (nI a), .int (nI t.length)])))[S]? = some (.inl (6, rfs n (va_up f a (some p)))) := (st_ne (σ := (σ.1, σ.2.set S (.inl (6, rfs n (va_up f a (some p)))))) eRS).trans (st_get hs)
    have s1 : Sa (fun c => c = cR ∨ c = cR + 1) σ w (σ.1, (σ.2.set S (.inl (6, rfs n (va_up f a (some p))))).set R (.inr (6, [.ref S, .int (nI a), .int (nI t.length)]))) w := ⟨by simp, fun q _ hn => ⟨(st_ne (σ := (σ.1, σ.2.set S (.inl (6, rfs n (va_up f a (some p)))))) (fun e => hn (by rw [← e]; omega))).trans (st_ne (fun e => hn (by rw [← e]; omega))), rfl⟩⟩
    generalize hσ : ((σ.1, (σ.2.set S (.inl (6, rfs n (va_up f a (some p))))).set R (.inr (6, [.ref S, .int (nI a), .int (nI t.length)]))) : ae_S) = σ3 at s1
    have g1 : σ3.2[R]? = some (.inr (6, [.ref S, .int (nI a), .int (nI t.length)])) := by rw [← hσ]; exact g1
    have g2 : σ3.2[S]? = some (.inl (6, rfs n (va_up f a (some p)))) := by rw [← hσ]; exact g2
    have fin : ∀ a', a' = (if t.length = 0 then 0 else if a + 1 < n then a + 1 else 0) → ∃ w', RW (σ3.1, σ3.2.set R (.inr (6, [.ref S, .int (nI a'), .int (nI t.length)]))) w' R S cR n c0 t ∧ Fw (σ3.1, σ3.2.set R (.inr (6, [.ref S, .int (nI a'), .int (nI t.length)]))) w' r cp x ∧ Sa (fun c => RC cR c0 n c ∨ c = cp ∨ c = cp + 1) σ w (σ3.1, σ3.2.set R (.inr (6, [.ref S, .int (nI a'), .int (nI t.length)]))) w' := fun a' ha' => by
      have s3 := Sa.set (σ := σ3) (w := w) (p := R) (y := .inr (6, [.ref S, .int (nI a'), .int (nI t.length)]))
      rw [hw.1] at s3
      exact xch hw ⟨hab.1, han⟩ hall hl hr wr wb hX wp wpb hP hc1 hc2 (s1.trans (s3.mono (fun c z => Or.inl z))) (st_get g1) ((st_ne eRS).trans g2) ha'
    refine hG_eq (σ1 := σ3) (by rw [← hσ]; show ((σ.1, (σ.2.set S _).set R (.inr (6, [.ref S, .int (nI a), .int (nI (t.length + 1) - 1)]))) : ae_S) = _; rw [nI_pred]) ?_
    refine h_st rfl rfl ?_
    refine h_st rfl rfl ?_
    refine h_st rfl (e_get g1 rfl) ?_
    refine h_st rfl rfl ?_
    refine h_br (fun q1 => ?_) (fun q1 => ?_)
    · refine h_st rfl rfl ?_
      refine h_st rfl rfl ?_
      refine h_st rfl (e_put g1 rfl (Nat.le_of_ble_eq_true rfl)) ?_
      refine h_st rfl rfl ?_
      exact h_rt rfl rfl (⟨_, some r, rfl, Or.inr (by obtain ⟨w', f1, f2, f3⟩ := fin 0 (by rw [if_pos (Decidable.of_not_not (fun z => nI_ne0 (by omega) (by omega) q1))]); exact ⟨x, t, r, w', rfl, rfl, f1, f2, f3⟩)⟩)
    · have ht0 : ¬ t.length = 0 := fun z => q1 (by rw [z]; rfl)
      refine h_st rfl rfl ?_
      refine h_st rfl (e_get g1 rfl) ?_
      refine h_st rfl rfl ?_
      refine h_st rfl rfl ?_
      refine h_st rfl rfl ?_
      refine h_st rfl (e_get g1 rfl) ?_
      refine h_st rfl (e_len g2 (by decide)) ?_
      refine h_st rfl rfl ?_
      refine h_br (fun q2 => ?_) (fun q2 => ?_)
      · refine h_st rfl rfl ?_
        refine h_st rfl (e_get g1 rfl) ?_
        refine h_st rfl rfl ?_
        refine h_st rfl rfl ?_
        refine h_st rfl (e_put g1 rfl (Nat.le_of_ble_eq_true rfl)) ?_
        refine hG_eq (σ1 := (σ3.1, σ3.2.set R (.inr (6, [.ref S, .int (nI (a + 1)), .int (nI t.length)])))) (by rw [← nI_1]; rfl) ?_
        refine h_st rfl rfl ?_
        exact h_rt rfl rfl (⟨_, some r, rfl, Or.inr (by obtain ⟨w', f1, f2, f3⟩ := fin (a + 1) (by rw [if_neg ht0, if_pos (lt_of_nI (by omega) (by omega) (show nI a + 1 < nI n from q2))]); exact ⟨x, t, r, w', rfl, rfl, f1, f2, f3⟩)⟩)
      · refine h_st rfl rfl ?_
        refine h_st rfl rfl ?_
        refine h_st rfl (e_put g1 rfl (Nat.le_of_ble_eq_true rfl)) ?_
        refine h_st rfl rfl ?_
        exact h_rt rfl rfl (⟨_, some r, rfl, Or.inr (by obtain ⟨w', f1, f2, f3⟩ := fin 0 (by rw [if_neg ht0, if_neg (fun z => q2 (show nI a + 1 < nI n from by rw [nI_1]; exact nI_lt z (by omega)))]); exact ⟨x, t, r, w', rfl, rfl, f1, f2, f3⟩)⟩)
end SX4
