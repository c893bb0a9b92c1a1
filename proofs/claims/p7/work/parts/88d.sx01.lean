section SX1
variable {ra : ae_R} {d : Nat} {σ σ0 : ae_S} {p pb n : Nat} {f : Nat → Int32}
theorem i8m (x : Int32) : x.toInt8.toInt32 &&& 255 = x &&& 255 := by
  apply Int32.toBitVec_inj.mp
  rw [Int32.toBitVec_and, Int32.toBitVec_and, Int8.toBitVec_toInt32, Int32.toBitVec_toInt8]
  apply BitVec.eq_of_getLsbD_eq
  intro i hi
  rw [BitVec.getLsbD_and, BitVec.getLsbD_and]
  by_cases h : i < 8
  · rw [BitVec.getLsbD_signExtend, BitVec.getLsbD_signExtend]
    simp [h, hi, show i < 7 + 1 by omega]
  · have h15 : ((255 : Int32).toBitVec).getLsbD i = false := by
      rw [show ((255 : Int32).toBitVec).getLsbD i = Nat.testBit 255 i from rfl]
      apply Nat.testBit_lt_two_pow
      exact Nat.lt_of_lt_of_le (by decide : 255 < 2 ^ 8) (Nat.pow_le_pow_right (by decide) (by omega))
    rw [h15, Bool.and_false, Bool.and_false]
theorem a255 (x : Int32) : x &&& 255 &&& 255 = x &&& 255 := by
  apply Int32.toBitVec_inj.mp
  rw [Int32.toBitVec_and, Int32.toBitVec_and, BitVec.and_assoc, BitVec.and_self]
/-- a frame object, its size and its bytes -/
def FX (σ : ae_S) (p pb n : Nat) (f : Nat → Int32) : Prop := σ.2[p]? = some (.inr (2, [.ref pb, .int (nI n)])) ∧ (n ≤ 200 ∧ p ≠ pb) ∧ ∃ g, σ.2[pb]? = some (.inl (1, 200, .inl g)) ∧ (∀ j, j < 200 → fits .byte (.int (g j)) = true) ∧ ∀ j, j < n → g j &&& 255 = f j
theorem FX.fr (h : FX σ p pb n f) : FR σ p pb n := by
  obtain ⟨h1, h2, g, h3, h4, _⟩ := h
  exact ⟨h1, h2, g, h3, h4⟩
theorem FX.of (h : FR σ p pb n) : ∃ f, FX σ p pb n f := by
  obtain ⟨h1, h2, g, h3, h4⟩ := h
  exact ⟨fun j => g j &&& 255, h1, h2, g, h3, h4, fun _ _ => rfl⟩
theorem FX.same {σ' : ae_S} (h : FX σ p pb n f) (e1 : σ'.2[p]? = σ.2[p]?) (e2 : σ'.2[pb]? = σ.2[pb]?) : FX σ' p pb n f := by
  obtain ⟨h1, h2, g, h3, h4⟩ := h
  exact ⟨e1.trans h1, h2, g, e2.trans h3, h4⟩
theorem FX.cg {f' : Nat → Int32} (h : FX σ p pb n f) (e : ∀ j, j < n → f' j = f j) : FX σ p pb n f' := by
  obtain ⟨h1, h2, g, h3, h4, h5⟩ := h
  exact ⟨h1, h2, g, h3, h4, fun j hj => (h5 j hj).trans (e j hj).symm⟩
theorem FX.rg (h : FX σ p pb n f) {j : Nat} (hj : j < n) : f j &&& 255 = f j := by
  obtain ⟨h1, h2, g, h3, h4, h5⟩ := h
  rw [← h5 j hj, a255]
section BX
variable {mid pc np : Nat} {L : ae_Ls} {kk : List Value} {P : ae_S × ae_O → Prop}
theorem x_bas {j x : Int32} (ht : ae_tab (at0 mid) pc = some (.inl (o_bas np))) (h : FX σ p pb n f) (hj : ¬ (j < 0 ∨ 200 ≤ j.toNatClampNeg)) (hc : ∀ σ', FX σ' p pb n (upd f j.toNatClampNeg (x &&& 255)) → Op p pb σ σ' → hG ra d mid σ' L kk np P) : hG ra d mid σ L (.int x :: .int j :: .ref pb :: kk) pc P := by
  obtain ⟨h1, h2, g, hf, hb, hv⟩ := h
  refine h_st ht (e_bas1 hf hj) (hc _ ⟨(st_ne (Ne.symm h2.2)).trans h1, h2, _, st_get hf, fun i hi => ?_, fun i hi => ?_⟩ ⟨rfl, List.length_set, fun q _ a => st_ne (Ne.symm a)⟩)
  · by_cases e : i = j.toNatClampNeg
    · rw [e, pk_us, vp_nar_byte]
      exact pk_fb x
    · rw [pk_un e]
      exact hb i hi
  · by_cases e : i = j.toNatClampNeg
    · rw [e, pk_us, pk_us, vp_nar_byte]
      exact i8m x
    · rw [pk_un e, pk_un e]
      exact hv i hi
theorem x_put {v : Int32} {n' : Nat} (ht : ae_tab (at0 mid) pc = some (.inl (o_put 2 1 k_int np))) (h : FX σ p pb n f) (hn : n' ≤ 200) (hv : v = nI n') (hc : ∀ σ' f', FX σ' p pb n' f' → Op p pb σ σ' → hG ra d mid σ' L kk np P) : hG ra d mid σ L (.int v :: .ref p :: kk) pc P := by
  obtain ⟨h1, h2, g, hf, hb, _⟩ := h
  subst hv
  exact h_st ht (e_put h1 rfl (Nat.le_of_ble_eq_true rfl)) (hc _ (fun j => g j &&& 255) ⟨st_get h1, ⟨hn, h2.2⟩, g, (st_ne h2.2).trans hf, hb, fun _ _ => rfl⟩ ⟨rfl, List.length_set, fun q a _ => st_ne (Ne.symm a)⟩)
end BX
/-- a byte is put -/
def ub (f : Nat → Int32) (k : Nat) (v : Int32) : Nat → Int32 := upd f k (v &&& 255)
theorem c_17x (h : FX σ p pb n f) {j : Nat} {i : Int32} (ei : i = nI j) (hj : j < n) (x : Int32) : hE ra (d + 1) 17 [.ref p, .int i, .int x] σ (pV (fun σ' => FX σ' p pb n (ub f j x) ∧ Op p pb σ σ')) := by
  have hn := h.2.1
  subst ei
  refine h_in rfl rfl (Nat.le_of_ble_eq_true rfl) ?_
  refine h_st rfl rfl ?_
  refine h_st rfl rfl ?_
  refine h_pc (if_neg (fun z9 => (nI_pos (by omega)) (of_decide_eq_true z9))) ?_
  refine h_st rfl rfl ?_
  refine h_st rfl rfl ?_
  refine h_st rfl (e_get h.1 rfl) ?_
  refine h_st rfl rfl ?_
  refine h_pc (if_neg (fun z9 => (nI_ge hj (by omega)) (of_decide_eq_true z9))) ?_
  refine h_st rfl rfl ?_
  refine h_st rfl (e_get h.1 rfl) ?_
  refine h_st rfl rfl ?_
  refine h_st rfl rfl ?_
  refine h_st rfl rfl ?_
  refine x_bas rfl h (nI_in (show j < 200 by omega) (by decide)) (fun σ2 h2 o2 => ?_)
  rw [nI_clamp (by omega), i8m] at h2
  exact h_rv rfl (⟨_, rfl, h2, o2⟩)
theorem c_18x (h : FX σ p pb n f) {j : Nat} {i : Int32} (ei : i = nI j) (hj : j + 1 < n) (x : Int32) : hE ra (d + 2) 18 [.ref p, .int i, .int x] σ (pV (fun σ' => FX σ' p pb n (ub (ub f j (x >>> ((8 : Int32) &&& 31))) (j + 1) x) ∧ Op p pb σ σ')) := by
  have hn := h.2.1
  subst ei
  have ho := Op.refl (p := p) (pb := pb) (σ := σ)
  refine h_in rfl rfl (Nat.le_of_ble_eq_true rfl) ?_
  refine h_st rfl rfl ?_
  refine h_st rfl rfl ?_
  refine h_st rfl rfl ?_
  refine h_st rfl rfl ?_
  refine h_st rfl rfl ?_
  refine h_cv3 rfl (Nat.le_of_ble_eq_true rfl) (e_rcv (h.1)) rfl (c_17x h (j := j) (rfl) (by omega) _) (fun σ2 hq => ?_)
  obtain ⟨h2, o2⟩ := hq
  replace ho := ho.trans o2
  replace h := h2
  clear h2 o2
  refine h_st rfl rfl ?_
  refine h_st rfl rfl ?_
  refine h_st rfl rfl ?_
  refine h_st rfl rfl ?_
  refine h_st rfl rfl ?_
  refine h_cv3 rfl (Nat.le_of_ble_eq_true rfl) (e_rcv (h.1)) rfl (c_17x h (j := j + 1) (nI_1 j) (by omega) _) (fun σ2 hq => ?_)
  obtain ⟨h2, o2⟩ := hq
  replace ho := ho.trans o2
  replace h := h2
  clear h2 o2
  exact h_rv rfl (⟨_, rfl, h, ho⟩)
/-- which fragment it is -/
def tel (f : Nat → Int32) (nu pl mo : Int32) : Nat → Int32 := ub (ub (ub (ub f 18 (nu >>> ((8 : Int32) &&& 31))) 19 nu) 20 (if mo = 0 then 0 else 32)) 21 (pl / 8)
theorem c_19x (h : FX σ p pb n f) (hn : 64 ≤ n) (nu pl mo : Int32) : hE ra (d + 3) 19 [.ref p, .int nu, .int pl, .int mo] σ (pV (fun σ' => FX σ' p pb n (tel f nu pl mo) ∧ Op p pb σ σ')) := by
  have ho := Op.refl (p := p) (pb := pb) (σ := σ)
  refine h_in rfl rfl (Nat.le_of_ble_eq_true rfl) ?_
  refine h_st rfl rfl ?_
  refine h_st rfl rfl ?_
  refine h_st rfl rfl ?_
  refine h_cv3 rfl (Nat.le_of_ble_eq_true rfl) (e_rcv (h.1)) rfl (c_18x h (j := 18) (rfl) (by omega) _) (fun σ2 hq => ?_)
  obtain ⟨h2, o2⟩ := hq
  replace ho := ho.trans o2
  replace h := h2
  clear h2 o2
  refine h_st rfl rfl ?_
  refine h_st rfl rfl ?_
  refine h_st rfl rfl ?_
  refine h_st rfl rfl ?_
  refine h_br (fun z => ?_) (fun z => ?_)
  · refine h_st rfl rfl ?_
    refine h_cv3 rfl (Nat.le_of_ble_eq_true rfl) (e_rcv (h.1)) rfl (c_17x h (j := 20) (rfl) (by omega) _) (fun σ2 hq => ?_)
    obtain ⟨h2, o2⟩ := hq
    replace ho := ho.trans o2
    replace h := h2
    clear h2 o2
    refine h_st rfl rfl ?_
    refine h_st rfl rfl ?_
    refine h_st rfl rfl ?_
    refine h_st rfl rfl ?_
    refine h_st rfl (e_dv (by decide)) ?_
    refine h_cv3 rfl (Nat.le_of_ble_eq_true rfl) (e_rcv (h.1)) rfl (c_17x h (j := 21) (rfl) (by omega) _) (fun σ2 hq => ?_)
    obtain ⟨h2, o2⟩ := hq
    replace ho := ho.trans o2
    replace h := h2
    clear h2 o2
    exact h_rv rfl (⟨_, rfl, by unfold tel; rw [if_pos z]; exact h, ho⟩)
  · refine h_st rfl rfl ?_
    refine h_st rfl rfl ?_
    refine h_cv3 rfl (Nat.le_of_ble_eq_true rfl) (e_rcv (h.1)) rfl (c_17x h (j := 20) (rfl) (by omega) _) (fun σ2 hq => ?_)
    obtain ⟨h2, o2⟩ := hq
    replace ho := ho.trans o2
    replace h := h2
    clear h2 o2
    refine h_st rfl rfl ?_
    refine h_st rfl rfl ?_
    refine h_st rfl rfl ?_
    refine h_st rfl rfl ?_
    refine h_st rfl (e_dv (by decide)) ?_
    refine h_cv3 rfl (Nat.le_of_ble_eq_true rfl) (e_rcv (h.1)) rfl (c_17x h (j := 21) (rfl) (by omega) _) (fun σ2 hq => ?_)
    obtain ⟨h2, o2⟩ := hq
    replace ho := ho.trans o2
    replace h := h2
    clear h2 o2
    exact h_rv rfl (⟨_, rfl, by unfold tel; rw [if_neg z]; exact h, ho⟩)
/-- two bytes -/
def pa (f : Nat → Int32) (k : Nat) : Int32 := f k <<< ((8 : Int32) &&& 31) ||| f (k + 1)
theorem c_35x (h : FX σ p pb n f) {j : Nat} {i : Int32} (ei : i = nI j) (hj : j < n) : hE ra (d + 1) 35 [.ref p, .int i] σ (pI (fun σ' y => σ' = σ ∧ y = f j)) := by
  subst ei
  obtain ⟨h1, h2, g, hf, hb, hv⟩ := h
  refine h_in rfl rfl (Nat.le_of_ble_eq_true rfl) ?_
  refine h_st rfl rfl ?_
  refine h_st rfl rfl ?_
  refine h_pc (if_neg (fun z9 => (nI_pos (by omega)) (of_decide_eq_true z9))) ?_
  refine h_st rfl rfl ?_
  refine h_st rfl rfl ?_
  refine h_st rfl (e_get h1 rfl) ?_
  refine h_st rfl rfl ?_
  refine h_pc (if_neg (fun z9 => (nI_ge hj (by omega)) (of_decide_eq_true z9))) ?_
  refine h_st rfl rfl ?_
  refine h_st rfl (e_get h1 rfl) ?_
  refine h_st rfl rfl ?_
  refine h_st rfl (e_ba hf (Or.inl rfl) (nI_in (show j < 200 by omega) (by decide))) ?_
  refine h_st rfl rfl ?_
  refine h_st rfl rfl ?_
  refine h_st rfl rfl ?_
  exact h_rt rfl rfl (⟨_, _, rfl, rfl, by rw [nI_clamp (by omega)]; exact hv j hj⟩)
theorem c_35n (h : FX σ p pb n f) {x : Int32} (hx : x < 0 ∨ nI n ≤ x) : hE ra (d + 1) 35 [.ref p, .int x] σ (pI (fun σ' y => σ' = σ ∧ y = -1)) := by
  obtain ⟨h1, h2, g, hf, hb, hv⟩ := h
  refine h_in rfl rfl (Nat.le_of_ble_eq_true rfl) ?_
  refine h_st rfl rfl ?_
  refine h_st rfl rfl ?_
  refine h_br (fun q1 => ?_) (fun q1 => ?_)
  · refine h_st rfl rfl ?_
    exact h_rt rfl rfl (⟨_, _, rfl, rfl, rfl⟩)
  · refine h_st rfl rfl ?_
    refine h_st rfl rfl ?_
    refine h_st rfl (e_get h1 rfl) ?_
    refine h_st rfl rfl ?_
    refine h_pc (if_pos (decide_eq_true (hx.elim (fun z => absurd z q1) id))) ?_
    refine h_st rfl rfl ?_
    exact h_rt rfl rfl (⟨_, _, rfl, rfl, rfl⟩)
theorem c_23x (h : FX σ p pb n f) {j : Nat} {i : Int32} (ei : i = nI j) (hj : j + 1 < n) : hE ra (d + 1) 23 [.ref p, .int i] σ (pI (fun σ' y => σ' = σ ∧ y = pa f j)) := by
  subst ei
  obtain ⟨h1, h2, g, hf, hb, hv⟩ := h
  have hc : ¬ nI n ≤ nI j + 1 := by rw [nI_1]; exact nI_ge hj (by omega)
  have i2 : ¬ (nI j + 1 < 0 ∨ 200 ≤ (nI j + 1).toNatClampNeg) := by rw [nI_1]; exact nI_in (by omega) (by decide)
  refine h_in rfl rfl (Nat.le_of_ble_eq_true rfl) ?_
  refine h_st rfl rfl ?_
  refine h_st rfl rfl ?_
  refine h_pc (if_neg (fun z9 => (nI_pos (by omega)) (of_decide_eq_true z9))) ?_
  refine h_st rfl rfl ?_
  refine h_st rfl rfl ?_
  refine h_st rfl rfl ?_
  refine h_st rfl rfl ?_
  refine h_st rfl (e_get h1 rfl) ?_
  refine h_st rfl rfl ?_
  refine h_pc (if_neg (fun z9 => (hc) (of_decide_eq_true z9))) ?_
  refine h_st rfl rfl ?_
  refine h_st rfl (e_get h1 rfl) ?_
  refine h_st rfl rfl ?_
  refine h_st rfl (e_ba hf (Or.inl rfl) (nI_in (show j < 200 by omega) (by decide))) ?_
  refine h_st rfl rfl ?_
  refine h_st rfl rfl ?_
  refine h_st rfl rfl ?_
  refine h_st rfl rfl ?_
  refine h_st rfl rfl ?_
  refine h_st rfl (e_get h1 rfl) ?_
  refine h_st rfl rfl ?_
  refine h_st rfl rfl ?_
  refine h_st rfl rfl ?_
  refine h_st rfl (e_ba hf (Or.inl rfl) i2) ?_
  refine h_st rfl rfl ?_
  refine h_st rfl rfl ?_
  refine h_st rfl rfl ?_
  refine h_st rfl rfl ?_
  exact h_rt rfl rfl (⟨_, _, rfl, rfl, by show (g (nI j).toNatClampNeg &&& 255) <<< ((8 : Int32) &&& 31) ||| (g (nI j + 1).toNatClampNeg &&& 255) = _; unfold pa; rw [nI_clamp (show j < 2 ^ 31 by omega), nI_1, nI_clamp (show j + 1 < 2 ^ 31 by omega), hv j (by omega), hv (j + 1) hj]⟩)
/-- the sum of the pairs of the head but its own -/
def sma (f : Nat → Int32) : Nat → Int32
  | 0 => 0
  | j + 1 => if j = 5 then sma f j else sma f j + pa f (14 + 2 * j)
def fo (x : Int32) : Int32 := (x >>> ((16 : Int32) &&& 31)) + (x &&& 65535)
def smc (f : Nat → Int32) : Int32 := (fo (fo (sma f 10)) ^^^ -1) &&& 65535
theorem c_22lx (h : FX σ p pb n f) (hn : 64 ≤ n) {P : ae_S × ae_O → Prop} (hx : hG ra (d + 1) 22 σ [some (.ref p), some (.int (sma f 10)), some (.int (nI (14 + 2 * 10)))] [] 31 P) : ∀ (m j : Nat), j + m = 10 → hG ra (d + 1) 22 σ [some (.ref p), some (.int (sma f j)), some (.int (nI (14 + 2 * j)))] [] 5 P := by
  intro m
  induction m with
  | zero =>
    intro j hj
    have hj : j = 10 := by omega
    subst hj
    refine h_st rfl rfl ?_
    refine h_st rfl rfl ?_
    refine h_st rfl rfl ?_
    refine h_pc (if_pos (decide_eq_true (nI_le (Nat.le_refl 34) (by decide)))) ?_
    exact hx
  | succ m ih =>
    intro j hj
    have e2 : nI (14 + 2 * j) + 2 = nI (14 + 2 * (j + 1)) := by rw [show (2 : Int32) = nI 2 from rfl, nI_add]; rfl
    have ih1 := ih (j + 1) (by omega)
    rw [← e2] at ih1
    refine h_st rfl rfl ?_
    refine h_st rfl rfl ?_
    refine h_st rfl rfl ?_
    refine h_pc (if_neg (fun z9 => (nI_ge (show 14 + 2 * j < 34 by omega) (by decide)) (of_decide_eq_true z9))) ?_
    refine h_st rfl rfl ?_
    refine h_st rfl rfl ?_
    refine h_st rfl rfl ?_
    refine h_br (fun z => ?_) (fun z => ?_)
    · refine h_st rfl rfl ?_
      refine h_st rfl rfl ?_
      rw [show sma f (j + 1) = sma f j from by rw [sma, if_pos (by have := (nI_eq (b := 24) (by omega) (by decide)).mp z; omega)]] at ih1; exact ih1
    · refine h_st rfl rfl ?_
      refine h_st rfl rfl ?_
      refine h_st rfl rfl ?_
      refine h_ci2 rfl (Nat.le_of_ble_eq_true rfl) (e_rcv (h.1)) rfl (c_23x h (j := 14 + 2 * j) rfl (by omega)) (fun σ' y hq => ?_)
      obtain ⟨rfl, rfl⟩ := hq
      refine h_st rfl rfl ?_
      refine h_st rfl rfl ?_
      refine h_st rfl rfl ?_
      refine h_st rfl rfl ?_
      rw [show sma f (j + 1) = sma f j + pa f (14 + 2 * j) from by rw [sma, if_neg (fun e => z (by rw [e]; rfl))]] at ih1; exact ih1
theorem c_22x (h : FX σ p pb n f) (hn : 64 ≤ n) : hE ra (d + 2) 22 [.ref p] σ (pI (fun σ' y => σ' = σ ∧ y = smc f)) := by
  refine h_in rfl rfl (Nat.le_of_ble_eq_true rfl) ?_
  refine h_st rfl rfl ?_
  refine h_st rfl rfl ?_
  refine h_st rfl rfl ?_
  refine h_st rfl rfl ?_
  refine c_22lx h hn ?_ 10 0 rfl
  refine h_st rfl rfl ?_
  refine h_st rfl rfl ?_
  refine h_st rfl rfl ?_
  refine h_st rfl rfl ?_
  refine h_st rfl rfl ?_
  refine h_st rfl rfl ?_
  refine h_st rfl rfl ?_
  refine h_st rfl rfl ?_
  refine h_st rfl rfl ?_
  refine h_st rfl rfl ?_
  refine h_st rfl rfl ?_
  refine h_st rfl rfl ?_
  refine h_st rfl rfl ?_
  refine h_st rfl rfl ?_
  refine h_st rfl rfl ?_
  refine h_st rfl rfl ?_
  refine h_st rfl rfl ?_
  refine h_st rfl rfl ?_
  refine h_st rfl rfl ?_
  refine h_st rfl rfl ?_
  refine h_st rfl rfl ?_
  exact h_rt rfl rfl (⟨_, _, rfl, rfl, rfl⟩)
def ckt : Nat → Int32 := fun j => rv_3.getD j 0
/-- half a byte of the check -/
def nib (c : Int32) : Int32 := (c.toUInt32 >>> ((4 : Int32).toUInt32 &&& Int32.toUInt32 31)).toInt32 ^^^ ckt (c &&& 15).toNatClampNeg
def crc (f : Nat → Int32) : Nat → Int32
  | 0 => -1
  | j + 1 => nib (nib (crc f j ^^^ f j))
def chk (n : Nat) (f : Nat → Int32) : Int32 := crc f (n - 4) ^^^ -1
theorem c_24lx (hr : ra 3 = (16, ckt)) (h4 : 4 ≤ n) (h : FX σ p pb n f) {P : ae_S × ae_O → Prop} (hx : hG ra d 24 σ [some (.ref p), some (.int (crc f (n - 4))), some (.int (nI (n - 4)))] [] 59 P) : ∀ (m j : Nat), j + m = n - 4 → hG ra d 24 σ [some (.ref p), some (.int (crc f j)), some (.int (nI j))] [] 4 P := by
  obtain ⟨h1, h2, g, hf, hb, hv⟩ := h
  have e4 : nI n - 4 = nI (n - 4) := pk_sub (a := n) (b := 4) (by omega)
  intro m
  induction m with
  | zero =>
    intro j hj
    have hj : j = n - 4 := by omega
    subst hj
    refine h_st rfl rfl ?_
    refine h_st rfl rfl ?_
    refine h_st rfl (e_get h1 rfl) ?_
    refine h_st rfl rfl ?_
    refine h_st rfl rfl ?_
    refine h_st rfl rfl ?_
    refine h_pc (if_pos (decide_eq_true ((by show nI n - 4 ≤ _; rw [e4]; exact nI_le (Nat.le_refl _) (by omega))))) ?_
    exact hx
  | succ m ih =>
    intro j hj
    have ih1 := ih (j + 1) (by omega)
    rw [← nI_1] at ih1
    have e3 : ckt = (ra 3).2 := by rw [hr]
    have eg : g (nI j).toNatClampNeg &&& 255 = f j := by rw [nI_clamp (by omega)]; exact hv j (by omega)
    rw [crc, ← eg] at ih1
    unfold nib at ih1
    rw [e3] at ih1
    refine h_st rfl rfl ?_
    refine h_st rfl rfl ?_
    refine h_st rfl (e_get h1 rfl) ?_
    refine h_st rfl rfl ?_
    refine h_st rfl rfl ?_
    refine h_st rfl rfl ?_
    refine h_pc (if_neg (fun z9 => (fun q => absurd (show nI n - 4 ≤ nI j from q) (by rw [e4]; exact nI_ge (by omega) (by omega))) (of_decide_eq_true z9))) ?_
    refine h_st rfl rfl ?_
    refine h_st rfl rfl ?_
    refine h_st rfl (e_get h1 rfl) ?_
    refine h_st rfl rfl ?_
    refine h_st rfl (e_ba hf (Or.inl rfl) (nI_in (by omega) (by decide))) ?_
    refine h_st rfl rfl ?_
    refine h_st rfl rfl ?_
    refine h_st rfl rfl ?_
    refine h_st rfl rfl ?_
    refine h_st rfl rfl ?_
    refine h_st rfl rfl ?_
    refine h_st rfl rfl ?_
    refine h_st rfl rfl ?_
    refine h_st rfl rfl ?_
    refine h_st rfl rfl ?_
    refine h_st rfl rfl ?_
    refine h_st rfl (e_ro (by decide) (by rw [hr]; exact pk_andIn _ 4 (by decide) (by decide))) ?_
    refine h_st rfl rfl ?_
    refine h_st rfl rfl ?_
    refine h_st rfl rfl ?_
    refine h_st rfl rfl ?_
    refine h_st rfl rfl ?_
    refine h_st rfl rfl ?_
    refine h_st rfl rfl ?_
    refine h_st rfl rfl ?_
    refine h_st rfl rfl ?_
    refine h_st rfl (e_ro (by decide) (by rw [hr]; exact pk_andIn _ 4 (by decide) (by decide))) ?_
    refine h_st rfl rfl ?_
    refine h_st rfl rfl ?_
    refine h_st rfl rfl ?_
    refine h_st rfl rfl ?_
    exact ih1
theorem c_24x (hr : ra 3 = (16, ckt)) (h : FX σ p pb n f) (hn : 64 ≤ n) : hE ra (d + 1) 24 [.ref p] σ (pI (fun σ' y => σ' = σ ∧ y = chk n f)) := by
  refine h_in rfl rfl (Nat.le_of_ble_eq_true rfl) ?_
  refine h_st rfl rfl ?_
  refine h_st rfl rfl ?_
  refine h_st rfl rfl ?_
  refine h_st rfl rfl ?_
  refine c_24lx hr (by omega) h ?_ (n - 4) 0 (by omega)
  refine h_st rfl rfl ?_
  refine h_st rfl rfl ?_
  refine h_st rfl rfl ?_
  exact h_rt rfl rfl (⟨_, _, rfl, rfl, rfl⟩)
/-- the bytes of the check, put -/
def cks (n : Nat) (c : Int32) (f : Nat → Int32) : Nat → Nat → Int32
  | 0 => f
  | j + 1 => ub (cks n c f j) (n - 4 + j) (c >>> ((8 * nI j) &&& 31))
/-- the sum, the sequence number and the check are put -/
def sel1 (n : Nat) (f : Nat → Int32) (s : Int32) : Nat → Int32 := ub (ub (ub f 24 (smc f >>> ((8 : Int32) &&& 31))) 25 (smc f)) (n - 5) s
def sel (n : Nat) (f : Nat → Int32) (s : Int32) : Nat → Int32 := cks n (chk n (sel1 n f s)) (sel1 n f s) 4
theorem c_21lx (hn : 64 ≤ n) {x y : Int32} {P : ae_S × ae_O → Prop} (hx : ∀ σ, FX σ p pb n (cks n y f 4) → Op p pb σ0 σ → hG ra (d + 1) 21 σ [some (.ref p), some (.int x), some (.int y), some (.int (nI 4))] [] 59 P) : ∀ (m j : Nat) (σ : ae_S), j + m = 4 → FX σ p pb n (cks n y f j) → Op p pb σ0 σ → hG ra (d + 1) 21 σ [some (.ref p), some (.int x), some (.int y), some (.int (nI j))] [] 30 P := by
  intro m
  induction m with
  | zero =>
    intro j σ hj h ho
    have hj : j = 4 := by omega
    subst hj
    refine h_st rfl rfl ?_
    refine h_st rfl rfl ?_
    refine h_st rfl rfl ?_
    refine h_pc (if_pos (decide_eq_true (nI_le (Nat.le_refl 4) (by decide)))) ?_
    exact hx _ h ho
  | succ m ih =>
    intro j σ hj h ho
    have ih1 := fun σ h1 h2 => ih (j + 1) σ (by omega) h1 h2
    simp only [← nI_1] at ih1
    have e4 : nI n - 4 + nI j = nI (n - 4 + j) := by rw [show (4 : Int32) = nI 4 from rfl, pk_sub (by omega), nI_add]
    refine h_st rfl rfl ?_
    refine h_st rfl rfl ?_
    refine h_st rfl rfl ?_
    refine h_pc (if_neg (fun z9 => (nI_ge (show j < 4 by omega) (by decide)) (of_decide_eq_true z9))) ?_
    refine h_st rfl rfl ?_
    refine h_st rfl rfl ?_
    refine h_st rfl (e_get h.1 rfl) ?_
    refine h_st rfl rfl ?_
    refine h_st rfl rfl ?_
    refine h_st rfl rfl ?_
    refine h_st rfl rfl ?_
    refine h_st rfl rfl ?_
    refine h_st rfl rfl ?_
    refine h_st rfl rfl ?_
    refine h_st rfl rfl ?_
    refine h_st rfl rfl ?_
    refine h_cv3 rfl (Nat.le_of_ble_eq_true rfl) (e_rcv (h.1)) rfl (c_17x h (j := n - 4 + j) (e4) (by omega) _) (fun σ2 hq => ?_)
    obtain ⟨h2, o2⟩ := hq
    replace ho := ho.trans o2
    replace h := h2
    clear h2 o2
    refine h_st rfl rfl ?_
    refine h_st rfl rfl ?_
    exact ih1 _ h ho
theorem c_21x (hr : ra 3 = (16, ckt)) (h : FX σ p pb n f) (hn : 64 ≤ n) (x : Int32) : hE ra (d + 3) 21 [.ref p, .int x] σ (pV (fun σ' => FX σ' p pb n (sel n f x) ∧ Op p pb σ σ')) := by
  have e5 : nI n - 4 - 1 = nI (n - 5) := by rw [show (4 : Int32) = nI 4 from rfl, pk_sub (by omega), show (1 : Int32) = nI 1 from rfl, pk_sub (by omega)]; rfl
  have ho := Op.refl (p := p) (pb := pb) (σ := σ)
  refine h_in rfl rfl (Nat.le_of_ble_eq_true rfl) ?_
  refine h_st rfl rfl ?_
  refine h_st rfl rfl ?_
  refine h_st rfl rfl ?_
  refine h_ci1 rfl (Nat.le_of_ble_eq_true rfl) (e_rcv (h.1)) rfl (c_22x h hn) (fun σ2 y hq => ?_)
  obtain ⟨rfl, rfl⟩ := hq
  refine h_cv3 rfl (Nat.le_of_ble_eq_true rfl) (e_rcv (h.1)) rfl (c_18x h (j := 24) (rfl) (by omega) _) (fun σ2 hq => ?_)
  obtain ⟨h2, o2⟩ := hq
  replace ho := ho.trans o2
  replace h := h2
  clear h2 o2
  refine h_st rfl rfl ?_
  refine h_st rfl rfl ?_
  refine h_st rfl (e_get h.1 rfl) ?_
  refine h_st rfl rfl ?_
  refine h_st rfl rfl ?_
  refine h_st rfl rfl ?_
  refine h_st rfl rfl ?_
  refine h_st rfl rfl ?_
  refine h_cv3 rfl (Nat.le_of_ble_eq_true rfl) (e_rcv (h.1)) rfl (c_17x h (j := n - 5) (e5) (by omega) _) (fun σ2 hq => ?_)
  obtain ⟨h2, o2⟩ := hq
  replace ho := ho.trans o2
  replace h := h2
  clear h2 o2
  refine h_st rfl rfl ?_
  refine h_ci1 rfl (Nat.le_of_ble_eq_true rfl) (e_rcv (h.1)) rfl (c_24x hr h hn) (fun σ3 y hq => ?_)
  obtain ⟨rfl, rfl⟩ := hq
  refine h_st rfl rfl ?_
  refine h_st rfl rfl ?_
  refine h_st rfl rfl ?_
  refine c_21lx hn (fun σ h ho => ?_) 4 0 _ rfl h ho
  exact h_rv rfl (⟨_, rfl, h, ho⟩)
def zr (f : Nat → Int32) (j : Nat) : Nat → Int32 := fun i => if i < j then 0 else f i
theorem zr_s (f : Nat → Int32) (j : Nat) : ∀ i, zr f (j + 1) i = upd (zr f j) j (0 &&& 255) i := fun i => by
  by_cases e : i = j
  · rw [e, pk_us]
    unfold zr
    rw [if_pos (by omega)]
    rfl
  · rw [pk_un e]
    unfold zr
    by_cases h : i < j
    · rw [if_pos h, if_pos (by omega)]
    · rw [if_neg h, if_neg (by omega)]
def fsz (len : Nat) : Nat := if len + 39 < 64 then 64 else len + 39
theorem fsz_ge (len : Nat) : 64 ≤ fsz len ∧ len + 39 ≤ fsz len := by
  unfold fsz
  split <;> omega
theorem fsz_le {len : Nat} (h : len ≤ 161) : fsz len ≤ 200 := by
  unfold fsz
  split <;> omega
theorem fsz_mm {len : Nat} (h : len ≤ 161) : (if (if (64 : Int32) < nI len + 39 then nI len + 39 else 64) < 200 then (if (64 : Int32) < nI len + 39 then nI len + 39 else 64) else 200) = nI (fsz len) := by
  have e : nI len + 39 = nI (len + 39) := by rw [show (39 : Int32) = nI 39 from rfl, nI_add]
  rw [e]
  have h1 : ((64 : Int32) < nI (len + 39)) ↔ 64 < len + 39 := nI_ltI (a := 64) (by decide) (by omega)
  have m1 : (if (64 : Int32) < nI (len + 39) then nI (len + 39) else 64) = nI (fsz len) := by
    unfold fsz
    by_cases c : 64 < len + 39
    · rw [if_pos (h1.mpr c), if_neg (by omega)]
    · rw [if_neg (fun z => c (h1.mp z))]
      by_cases c2 : len + 39 < 64
      · rw [if_pos c2]
        rfl
      · rw [if_neg c2, show len + 39 = 64 by omega]
        rfl
  rw [m1]
  have hl := fsz_le h
  have h2 : (nI (fsz len) < (200 : Int32)) ↔ fsz len < 200 := nI_ltI (b := 200) (by omega) (by decide)
  by_cases c : fsz len < 200
  · rw [if_pos (h2.mpr c)]
  · rw [if_neg (fun z => c (h2.mp z)), show fsz len = 200 by omega]
    rfl
/-- the head -/
def bgn (l e nt len : Int32) : Nat → Int32 := ub (ub (ub (ub (ub (ub (ub (ub (ub (ub (ub (ub (ub (ub (ub (ub (ub (ub (fun _ => 0) 0 3) 5 l) 6 2) 10 e) 11 (if nt = 0 then 32 else 64)) 12 8) 14 69) 16 ((20 + len) >>> ((8 : Int32) &&& 31))) 17 (20 + len)) 22 1) 23 17) 26 10) 27 1) 28 e) 29 1) 30 224) 31 224) 33 l
theorem c_16lx {f0 : Nat → Int32} {a1 a2 a3 a4 : Int32} {P : ae_S × ae_O → Prop} (hx : ∀ σ, FX σ p pb n (zr f0 n) → Op p pb σ0 σ → hG ra (d + 2) 16 σ [some (.ref p), some (.int a1), some (.int a2), some (.int a3), some (.int a4), some (.int (nI n))] [] 46 P) : ∀ (m j : Nat) (σ : ae_S), j + m = n → FX σ p pb n (zr f0 j) → Op p pb σ0 σ → hG ra (d + 2) 16 σ [some (.ref p), some (.int a1), some (.int a2), some (.int a3), some (.int a4), some (.int (nI j))] [] 23 P := by
  intro m
  induction m with
  | zero =>
    intro j σ hj h ho
    have hj : j = n := by omega
    subst hj
    have hk := h.2.1
    refine h_st rfl rfl ?_
    refine h_st rfl rfl ?_
    refine h_st rfl (e_get h.1 rfl) ?_
    refine h_st rfl rfl ?_
    refine h_pc (if_pos (decide_eq_true (nI_le (Nat.le_refl _) (by omega)))) ?_
    exact hx _ h ho
  | succ m ih =>
    intro j σ hj h ho
    have hk := h.2.1
    have ih1 := fun σ h1 h2 => ih (j + 1) σ (by omega) h1 h2
    simp only [← nI_1] at ih1
    refine h_st rfl rfl ?_
    refine h_st rfl rfl ?_
    refine h_st rfl (e_get h.1 rfl) ?_
    refine h_st rfl rfl ?_
    refine h_pc (if_neg (fun z9 => (nI_ge (show j < n by omega) (by omega)) (of_decide_eq_true z9))) ?_
    refine h_st rfl rfl ?_
    refine h_st rfl (e_get h.1 rfl) ?_
    refine h_st rfl rfl ?_
    refine h_st rfl rfl ?_
    refine x_bas rfl h (nI_in (show j < 200 by omega) (by decide)) (fun σ2 h2 o2 => ?_)
    rw [nI_clamp (by omega)] at h2
    refine h_st rfl rfl ?_
    refine h_st rfl rfl ?_
    exact ih1 _ (h2.cg (fun i _ => zr_s f0 j i)) (ho.trans o2)
theorem c_16x (h : FX σ p pb n f) {len : Nat} (hl : len ≤ 161) (l e nt : Int32) : hE ra (d + 3) 16 [.ref p, .int l, .int e, .int nt, .int (nI len)] σ (pV (fun σ' => FX σ' p pb (fsz len) (bgn l e nt (nI len)) ∧ Op p pb σ σ')) := by
  have hg := fsz_ge len
  have hl2 := fsz_le hl
  have ho := Op.refl (p := p) (pb := pb) (σ := σ)
  refine h_in rfl rfl (Nat.le_of_ble_eq_true rfl) ?_
  refine h_st rfl rfl ?_
  refine h_st rfl rfl ?_
  refine h_st rfl rfl ?_
  refine h_st rfl rfl ?_
  refine h_st rfl rfl ?_
  refine h_st rfl rfl ?_
  refine h_st rfl rfl ?_
  refine h_st rfl rfl ?_
  refine x_put rfl h hl2 (fsz_mm hl) (fun σ2 f2 h2 o2 => ?_)
  replace ho := ho.trans o2
  replace h := h2
  clear h2 o2
  refine h_st rfl rfl ?_
  refine h_st rfl rfl ?_
  refine c_16lx (f0 := f2) (fun σ h ho => ?_) (fsz len) 0 _ (by omega) (h.cg (fun i _ => by unfold zr; rw [if_neg (by omega)])) ho
  replace h := h.cg (f' := fun _ => 0) (fun i hi => by unfold zr; rw [if_pos hi])
  refine h_st rfl rfl ?_
  refine h_st rfl rfl ?_
  refine h_st rfl rfl ?_
  refine h_cv3 rfl (Nat.le_of_ble_eq_true rfl) (e_rcv (h.1)) rfl (c_17x h (j := 0) (rfl) (by omega) _) (fun σ2 hq => ?_)
  obtain ⟨h2, o2⟩ := hq
  replace ho := ho.trans o2
  replace h := h2
  clear h2 o2
  refine h_st rfl rfl ?_
  refine h_st rfl rfl ?_
  refine h_st rfl rfl ?_
  refine h_cv3 rfl (Nat.le_of_ble_eq_true rfl) (e_rcv (h.1)) rfl (c_17x h (j := 5) (rfl) (by omega) _) (fun σ2 hq => ?_)
  obtain ⟨h2, o2⟩ := hq
  replace ho := ho.trans o2
  replace h := h2
  clear h2 o2
  refine h_st rfl rfl ?_
  refine h_st rfl rfl ?_
  refine h_st rfl rfl ?_
  refine h_cv3 rfl (Nat.le_of_ble_eq_true rfl) (e_rcv (h.1)) rfl (c_17x h (j := 6) (rfl) (by omega) _) (fun σ2 hq => ?_)
  obtain ⟨h2, o2⟩ := hq
  replace ho := ho.trans o2
  replace h := h2
  clear h2 o2
  refine h_st rfl rfl ?_
  refine h_st rfl rfl ?_
  refine h_st rfl rfl ?_
  refine h_cv3 rfl (Nat.le_of_ble_eq_true rfl) (e_rcv (h.1)) rfl (c_17x h (j := 10) (rfl) (by omega) _) (fun σ2 hq => ?_)
  obtain ⟨h2, o2⟩ := hq
  replace ho := ho.trans o2
  replace h := h2
  clear h2 o2
  refine h_st rfl rfl ?_
  refine h_st rfl rfl ?_
  refine h_st rfl rfl ?_
  refine h_st rfl rfl ?_
  refine h_br (fun z => ?_) (fun z => ?_)
  · refine h_st rfl rfl ?_
    refine h_cv3 rfl (Nat.le_of_ble_eq_true rfl) (e_rcv (h.1)) rfl (c_17x h (j := 11) (rfl) (by omega) _) (fun σ2 hq => ?_)
    obtain ⟨h2, o2⟩ := hq
    replace ho := ho.trans o2
    replace h := h2
    clear h2 o2
    refine h_st rfl rfl ?_
    refine h_st rfl rfl ?_
    refine h_st rfl rfl ?_
    refine h_cv3 rfl (Nat.le_of_ble_eq_true rfl) (e_rcv (h.1)) rfl (c_17x h (j := 12) (rfl) (by omega) _) (fun σ2 hq => ?_)
    obtain ⟨h2, o2⟩ := hq
    replace ho := ho.trans o2
    replace h := h2
    clear h2 o2
    refine h_st rfl rfl ?_
    refine h_st rfl rfl ?_
    refine h_st rfl rfl ?_
    refine h_cv3 rfl (Nat.le_of_ble_eq_true rfl) (e_rcv (h.1)) rfl (c_17x h (j := 14) (rfl) (by omega) _) (fun σ2 hq => ?_)
    obtain ⟨h2, o2⟩ := hq
    replace ho := ho.trans o2
    replace h := h2
    clear h2 o2
    refine h_st rfl rfl ?_
    refine h_st rfl rfl ?_
    refine h_st rfl rfl ?_
    refine h_st rfl rfl ?_
    refine h_st rfl rfl ?_
    refine h_cv3 rfl (Nat.le_of_ble_eq_true rfl) (e_rcv (h.1)) rfl (c_18x h (j := 16) (rfl) (by omega) _) (fun σ2 hq => ?_)
    obtain ⟨h2, o2⟩ := hq
    replace ho := ho.trans o2
    replace h := h2
    clear h2 o2
    refine h_st rfl rfl ?_
    refine h_st rfl rfl ?_
    refine h_st rfl rfl ?_
    refine h_cv3 rfl (Nat.le_of_ble_eq_true rfl) (e_rcv (h.1)) rfl (c_17x h (j := 22) (rfl) (by omega) _) (fun σ2 hq => ?_)
    obtain ⟨h2, o2⟩ := hq
    replace ho := ho.trans o2
    replace h := h2
    clear h2 o2
    refine h_st rfl rfl ?_
    refine h_st rfl rfl ?_
    refine h_st rfl rfl ?_
    refine h_cv3 rfl (Nat.le_of_ble_eq_true rfl) (e_rcv (h.1)) rfl (c_17x h (j := 23) (rfl) (by omega) _) (fun σ2 hq => ?_)
    obtain ⟨h2, o2⟩ := hq
    replace ho := ho.trans o2
    replace h := h2
    clear h2 o2
    refine h_st rfl rfl ?_
    refine h_st rfl rfl ?_
    refine h_st rfl rfl ?_
    refine h_cv3 rfl (Nat.le_of_ble_eq_true rfl) (e_rcv (h.1)) rfl (c_17x h (j := 26) (rfl) (by omega) _) (fun σ2 hq => ?_)
    obtain ⟨h2, o2⟩ := hq
    replace ho := ho.trans o2
    replace h := h2
    clear h2 o2
    refine h_st rfl rfl ?_
    refine h_st rfl rfl ?_
    refine h_st rfl rfl ?_
    refine h_cv3 rfl (Nat.le_of_ble_eq_true rfl) (e_rcv (h.1)) rfl (c_17x h (j := 27) (rfl) (by omega) _) (fun σ2 hq => ?_)
    obtain ⟨h2, o2⟩ := hq
    replace ho := ho.trans o2
    replace h := h2
    clear h2 o2
    refine h_st rfl rfl ?_
    refine h_st rfl rfl ?_
    refine h_st rfl rfl ?_
    refine h_cv3 rfl (Nat.le_of_ble_eq_true rfl) (e_rcv (h.1)) rfl (c_17x h (j := 28) (rfl) (by omega) _) (fun σ2 hq => ?_)
    obtain ⟨h2, o2⟩ := hq
    replace ho := ho.trans o2
    replace h := h2
    clear h2 o2
    refine h_st rfl rfl ?_
    refine h_st rfl rfl ?_
    refine h_st rfl rfl ?_
    refine h_cv3 rfl (Nat.le_of_ble_eq_true rfl) (e_rcv (h.1)) rfl (c_17x h (j := 29) (rfl) (by omega) _) (fun σ2 hq => ?_)
    obtain ⟨h2, o2⟩ := hq
    replace ho := ho.trans o2
    replace h := h2
    clear h2 o2
    refine h_st rfl rfl ?_
    refine h_st rfl rfl ?_
    refine h_st rfl rfl ?_
    refine h_cv3 rfl (Nat.le_of_ble_eq_true rfl) (e_rcv (h.1)) rfl (c_17x h (j := 30) (rfl) (by omega) _) (fun σ2 hq => ?_)
    obtain ⟨h2, o2⟩ := hq
    replace ho := ho.trans o2
    replace h := h2
    clear h2 o2
    refine h_st rfl rfl ?_
    refine h_st rfl rfl ?_
    refine h_st rfl rfl ?_
    refine h_cv3 rfl (Nat.le_of_ble_eq_true rfl) (e_rcv (h.1)) rfl (c_17x h (j := 31) (rfl) (by omega) _) (fun σ2 hq => ?_)
    obtain ⟨h2, o2⟩ := hq
    replace ho := ho.trans o2
    replace h := h2
    clear h2 o2
    refine h_st rfl rfl ?_
    refine h_st rfl rfl ?_
    refine h_st rfl rfl ?_
    refine h_cv3 rfl (Nat.le_of_ble_eq_true rfl) (e_rcv (h.1)) rfl (c_17x h (j := 33) (rfl) (by omega) _) (fun σ2 hq => ?_)
    obtain ⟨h2, o2⟩ := hq
    replace ho := ho.trans o2
    replace h := h2
    clear h2 o2
    exact h_rv rfl (⟨_, rfl, by unfold bgn; rw [if_neg z]; exact h, ho⟩)
  · refine h_st rfl rfl ?_
    refine h_st rfl rfl ?_
    refine h_cv3 rfl (Nat.le_of_ble_eq_true rfl) (e_rcv (h.1)) rfl (c_17x h (j := 11) (rfl) (by omega) _) (fun σ2 hq => ?_)
    obtain ⟨h2, o2⟩ := hq
    replace ho := ho.trans o2
    replace h := h2
    clear h2 o2
    refine h_st rfl rfl ?_
    refine h_st rfl rfl ?_
    refine h_st rfl rfl ?_
    refine h_cv3 rfl (Nat.le_of_ble_eq_true rfl) (e_rcv (h.1)) rfl (c_17x h (j := 12) (rfl) (by omega) _) (fun σ2 hq => ?_)
    obtain ⟨h2, o2⟩ := hq
    replace ho := ho.trans o2
    replace h := h2
    clear h2 o2
    refine h_st rfl rfl ?_
    refine h_st rfl rfl ?_
    refine h_st rfl rfl ?_
    refine h_cv3 rfl (Nat.le_of_ble_eq_true rfl) (e_rcv (h.1)) rfl (c_17x h (j := 14) (rfl) (by omega) _) (fun σ2 hq => ?_)
    obtain ⟨h2, o2⟩ := hq
    replace ho := ho.trans o2
    replace h := h2
    clear h2 o2
    refine h_st rfl rfl ?_
    refine h_st rfl rfl ?_
    refine h_st rfl rfl ?_
    refine h_st rfl rfl ?_
    refine h_st rfl rfl ?_
    refine h_cv3 rfl (Nat.le_of_ble_eq_true rfl) (e_rcv (h.1)) rfl (c_18x h (j := 16) (rfl) (by omega) _) (fun σ2 hq => ?_)
    obtain ⟨h2, o2⟩ := hq
    replace ho := ho.trans o2
    replace h := h2
    clear h2 o2
    refine h_st rfl rfl ?_
    refine h_st rfl rfl ?_
    refine h_st rfl rfl ?_
    refine h_cv3 rfl (Nat.le_of_ble_eq_true rfl) (e_rcv (h.1)) rfl (c_17x h (j := 22) (rfl) (by omega) _) (fun σ2 hq => ?_)
    obtain ⟨h2, o2⟩ := hq
    replace ho := ho.trans o2
    replace h := h2
    clear h2 o2
    refine h_st rfl rfl ?_
    refine h_st rfl rfl ?_
    refine h_st rfl rfl ?_
    refine h_cv3 rfl (Nat.le_of_ble_eq_true rfl) (e_rcv (h.1)) rfl (c_17x h (j := 23) (rfl) (by omega) _) (fun σ2 hq => ?_)
    obtain ⟨h2, o2⟩ := hq
    replace ho := ho.trans o2
    replace h := h2
    clear h2 o2
    refine h_st rfl rfl ?_
    refine h_st rfl rfl ?_
    refine h_st rfl rfl ?_
    refine h_cv3 rfl (Nat.le_of_ble_eq_true rfl) (e_rcv (h.1)) rfl (c_17x h (j := 26) (rfl) (by omega) _) (fun σ2 hq => ?_)
    obtain ⟨h2, o2⟩ := hq
    replace ho := ho.trans o2
    replace h := h2
    clear h2 o2
    refine h_st rfl rfl ?_
    refine h_st rfl rfl ?_
    refine h_st rfl rfl ?_
    refine h_cv3 rfl (Nat.le_of_ble_eq_true rfl) (e_rcv (h.1)) rfl (c_17x h (j := 27) (rfl) (by omega) _) (fun σ2 hq => ?_)
    obtain ⟨h2, o2⟩ := hq
    replace ho := ho.trans o2
    replace h := h2
    clear h2 o2
    refine h_st rfl rfl ?_
    refine h_st rfl rfl ?_
    refine h_st rfl rfl ?_
    refine h_cv3 rfl (Nat.le_of_ble_eq_true rfl) (e_rcv (h.1)) rfl (c_17x h (j := 28) (rfl) (by omega) _) (fun σ2 hq => ?_)
    obtain ⟨h2, o2⟩ := hq
    replace ho := ho.trans o2
    replace h := h2
    clear h2 o2
    refine h_st rfl rfl ?_
    refine h_st rfl rfl ?_
    refine h_st rfl rfl ?_
    refine h_cv3 rfl (Nat.le_of_ble_eq_true rfl) (e_rcv (h.1)) rfl (c_17x h (j := 29) (rfl) (by omega) _) (fun σ2 hq => ?_)
    obtain ⟨h2, o2⟩ := hq
    replace ho := ho.trans o2
    replace h := h2
    clear h2 o2
    refine h_st rfl rfl ?_
    refine h_st rfl rfl ?_
    refine h_st rfl rfl ?_
    refine h_cv3 rfl (Nat.le_of_ble_eq_true rfl) (e_rcv (h.1)) rfl (c_17x h (j := 30) (rfl) (by omega) _) (fun σ2 hq => ?_)
    obtain ⟨h2, o2⟩ := hq
    replace ho := ho.trans o2
    replace h := h2
    clear h2 o2
    refine h_st rfl rfl ?_
    refine h_st rfl rfl ?_
    refine h_st rfl rfl ?_
    refine h_cv3 rfl (Nat.le_of_ble_eq_true rfl) (e_rcv (h.1)) rfl (c_17x h (j := 31) (rfl) (by omega) _) (fun σ2 hq => ?_)
    obtain ⟨h2, o2⟩ := hq
    replace ho := ho.trans o2
    replace h := h2
    clear h2 o2
    refine h_st rfl rfl ?_
    refine h_st rfl rfl ?_
    refine h_st rfl rfl ?_
    refine h_cv3 rfl (Nat.le_of_ble_eq_true rfl) (e_rcv (h.1)) rfl (c_17x h (j := 33) (rfl) (by omega) _) (fun σ2 hq => ?_)
    obtain ⟨h2, o2⟩ := hq
    replace ho := ho.trans o2
    replace h := h2
    clear h2 o2
    exact h_rv rfl (⟨_, rfl, by unfold bgn; rw [if_pos (Decidable.of_not_not z)]; exact h, ho⟩)
end SX1
