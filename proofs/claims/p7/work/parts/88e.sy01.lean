section SY1
/-- the bytes up to n are bytes -/
def byt (g : Nat → Int32) (n : Nat) : Prop := ∀ k, k < n → ∃ b, b < 256 ∧ g k = nI b
theorem or_nI {A B C : Nat} (hA : A < 2 ^ 32) (hB : B < 2 ^ 32) (hC : C < 2 ^ 32) (h : A ||| B = C) : nI A ||| nI B = nI C := by
  apply Int32.toBitVec_inj.mp
  apply BitVec.eq_of_toNat_eq
  rw [Int32.toBitVec_or, BitVec.toNat_or, pk_tn hA, pk_tn hB, pk_tn hC, h]
set_option maxRecDepth 4000 in
theorem or_bv (a b : Nat) (ha : a < 256) (hb : b < 256) : nI (a * 256) ||| nI b = nI (a * 256 + b) := by
  have hA : a * 256 < 4294967296 := by omega
  have hB : b < 4294967296 := by omega
  have hC : a * 256 + b < 4294967296 := by omega
  refine or_nI (A := a * 256) (B := b) (C := a * 256 + b) hA hB hC ?_
  have := Nat.shiftLeft_add_eq_or_of_lt (b := b) (i := 8) (by omega) a
  rw [Nat.shiftLeft_eq] at this
  exact this.symm
theorem pa_nI {g : Nat → Int32} {k a b : Nat} (ha : g k = nI a) (hb : g (k + 1) = nI b) (h1 : a < 256) (h2 : b < 256) : pa g k = nI (256 * a + b) ∧ 256 * g k + g (k + 1) = nI (256 * a + b) := by
  refine ⟨?_, ?_⟩
  · unfold pa
    rw [ha, hb, pk_shlN ((8 : Int32) &&& 31) 8 (by decide) (by omega), or_bv a b (by omega) h2, Nat.mul_comm]
  · rw [ha, hb, show (256 : Int32) = nI 256 from rfl, pk_mul, nI_add]
/-- the sum as the reference makes it -/
def smr (g : Nat → Int32) : Nat → Int32
  | 0 => 0
  | j + 1 => if j = 5 then smr g j else if smr g j + (256 * g (14 + 2 * j) + g (14 + 2 * j + 1)) ≤ 65535 then smr g j + (256 * g (14 + 2 * j) + g (14 + 2 * j + 1)) else smr g j + (256 * g (14 + 2 * j) + g (14 + 2 * j + 1)) - 65535
theorem sums {g : Nat → Int32} (h : byt g 34) : ∀ j, j ≤ 10 → ∃ S, S ≤ 65535 * (if j ≤ 5 then j else j - 1) ∧ sma g j = nI S ∧ smr g j = nI (md S)
  | 0, _ => ⟨0, Nat.zero_le _, rfl, rfl⟩
  | j + 1, hj => by
    obtain ⟨S, hS, e1, e2⟩ := sums h j (by omega)
    by_cases c : j = 5
    · refine ⟨S, (by rw [if_pos (by omega)] at hS; rw [if_neg (by omega)]; omega), ?_, ?_⟩
      · rw [sma, if_pos c, e1]
      · rw [smr, if_pos c, e2]
    · obtain ⟨a, ha, ea⟩ := h (14 + 2 * j) (by omega)
      obtain ⟨b, hb, eb⟩ := h (14 + 2 * j + 1) (by omega)
      obtain ⟨p1, p2⟩ := pa_nI ea eb ha hb
      have hm := md_le S
      refine ⟨S + (256 * a + b), (by split at hS <;> split <;> omega), ?_, ?_⟩
      · rw [sma, if_neg c, e1, p1, nI_add]
      · rw [smr, if_neg c, e2, p2, nI_add, md_add (by omega)]
        have e65 : (65535 : Int32) = nI 65535 := rfl
        by_cases c2 : md S + (256 * a + b) > 65535
        · rw [if_pos c2, if_neg (by rw [e65]; exact nI_ge (by omega) (by omega)), e65, pk_sub (by omega)]
        · rw [if_neg c2, if_pos (by rw [e65]; exact nI_le (by omega) (by decide))]
theorem fo_nI {S : Nat} (h : S < 2 ^ 31) : fo (nI S) = nI (S / 65536 + S % 65536) := by
  unfold fo
  rw [pk_shrN h ((16 : Int32) &&& 31) 16 (by decide), pk_andN (by omega) (m := 65535) 16 (by decide), nI_add]
theorem not16 {x : Nat} (h : x ≤ 65535) : (nI x ^^^ -1) &&& 65535 = nI (65535 - x) := by
  apply Int32.toBitVec_inj.mp
  apply BitVec.eq_of_getLsbD_eq
  intro i hi
  rw [Int32.toBitVec_and, Int32.toBitVec_xor, BitVec.getLsbD_and, BitVec.getLsbD_xor]
  have e1 : (nI x).toBitVec.getLsbD i = x.testBit i := by
    show (BitVec.ofNat 32 x).getLsbD i = _
    rw [BitVec.getLsbD_ofNat]
    simp [hi]
  have e2 : (nI (65535 - x)).toBitVec.getLsbD i = (65535 - x).testBit i := by
    show (BitVec.ofNat 32 (65535 - x)).getLsbD i = _
    rw [BitVec.getLsbD_ofNat]
    simp [hi]
  have e3 : ((-1 : Int32).toBitVec).getLsbD i = true := by
    show (BitVec.allOnes 32).getLsbD i = true
    rw [BitVec.getLsbD_allOnes]
    simp [hi]
  have e4 : ((65535 : Int32).toBitVec).getLsbD i = decide (i < 16) := by
    show (65535#32).getLsbD i = _
    rw [show (65535#32).getLsbD i = Nat.testBit (2 ^ 16 - 1) i from rfl, Nat.testBit_two_pow_sub_one]
  rw [e1, e2, e3, e4, show 65535 - x = 2 ^ 16 - (x + 1) by omega, Nat.testBit_two_pow_sub_succ (by omega)]
  cases x.testBit i <;> cases decide (i < 16) <;> rfl
/-- both sums are one -/
theorem sum_eq {g : Nat → Int32} (h : byt g 34) : 65535 - smr g 10 = smc g ∧ ∃ s, s ≤ 65535 ∧ smc g = nI s := by
  obtain ⟨S, hS, e1, e2⟩ := sums h 10 (Nat.le_refl _)
  rw [if_neg (by decide)] at hS
  have hm := md_le S
  have e3 : smc g = nI (65535 - md S) := by
    unfold smc
    rw [e1, fo_nI (by omega), fo_nI (by omega), md_fold (by omega), not16 hm]
  refine ⟨?_, 65535 - md S, by omega, e3⟩
  rw [e2, e3, show (65535 : Int32) = nI 65535 from rfl, pk_sub hm]
/-- one bit of the check -/
def bst (c b : Int32) : Int32 := if c &&& 1 = b then (c.toUInt32 >>> ((1 : Int32).toUInt32 &&& Int32.toUInt32 31)).toInt32 else (c.toUInt32 >>> ((1 : Int32).toUInt32 &&& Int32.toUInt32 31)).toInt32 ^^^ (-306674912)
def crb (g : Nat → Int32) : Nat → Int32
  | 0 => -1
  | j + 1 => bst (crb g j) ((g (j / 8) >>> (nI (j % 8) &&& 31)) &&& 1)
theorem ush_bv (c : Int32) (s : Int32) (k : Nat) (hs : ((s.toUInt32 &&& Int32.toUInt32 31).toBitVec % 32).toNat = k) : (c.toUInt32 >>> (s.toUInt32 &&& Int32.toUInt32 31)).toInt32.toBitVec = c.toBitVec >>> k := by
  apply BitVec.eq_of_toNat_eq
  rw [pk_ushr c s k hs, BitVec.toNat_ushiftRight, Nat.shiftRight_eq_div_pow]
theorem bst_bv (c : Int32) (b : Bool) : (bst c (if b = true then 1 else 0)).toBitVec = sm c.toBitVec b := by
  have e1 : (c &&& 1) = (if c.toBitVec.getLsbD 0 = true then 1 else 0) := by
    apply Int32.toBitVec_inj.mp
    apply BitVec.eq_of_getLsbD_eq
    intro i hi
    rw [Int32.toBitVec_and, BitVec.getLsbD_and]
    have e1 : ((1 : Int32).toBitVec).getLsbD i = decide (i = 0) := by
      rw [show ((1 : Int32).toBitVec).getLsbD i = Nat.testBit 1 i from rfl]
      cases i with
      | zero => rfl
      | succ i => simp [Nat.testBit_succ]
    rw [e1]
    cases i with
    | zero =>
      cases c.toBitVec.getLsbD 0 <;> rfl
    | succ i =>
      have e0 : ∀ q : Bool, ((if q = true then (1 : Int32) else 0).toBitVec).getLsbD (i + 1) = false := fun q => by
        cases q
        · show (0#32).getLsbD (i + 1) = false
          simp
        · show (1#32).getLsbD (i + 1) = false
          simp
      rw [e0]
      simp
  have e3 : (-306674912 : Int32).toBitVec = cP := by decide
  unfold bst sm
  rw [e1]
  cases h1 : c.toBitVec.getLsbD 0 <;> cases b
  · rw [if_pos rfl, ush_bv c 1 1 (by decide)]
    simp
  · rw [if_neg (by decide), Int32.toBitVec_xor, ush_bv c 1 1 (by decide), e3]
    simp
  · rw [if_neg (by decide), Int32.toBitVec_xor, ush_bv c 1 1 (by decide), e3]
    simp
  · rw [if_pos rfl, ush_bv c 1 1 (by decide)]
    simp
theorem bit_nI {b i : Nat} (hb : b < 256) (hi : i < 8) : (nI b >>> (nI i &&& 31)) &&& 1 = (if ((nI b).toBitVec >>> i).getLsbD 0 = true then 1 else 0) := by
  have e0 : nI i &&& 31 = nI i := by
    rw [pk_andN (by omega) (m := 31) 5 (by decide), Nat.mod_eq_of_lt (by omega)]
  have e1 : nI b >>> nI i = nI (b / 2 ^ i) := by
    rcases (show i = 0 ∨ i = 1 ∨ i = 2 ∨ i = 3 ∨ i = 4 ∨ i = 5 ∨ i = 6 ∨ i = 7 by omega) with e | e | e | e | e | e | e | e <;> subst e <;> exact pk_shrN (by omega) _ _ (by decide)
  have hle : b / 2 ^ i ≤ b := Nat.div_le_self _ _
  rw [e0, e1, pk_andN (by omega) (m := 1) 1 (by decide)]
  have e2 : ((nI b).toBitVec >>> i).getLsbD 0 = decide (b / 2 ^ i % 2 = 1) := by
    rw [BitVec.getLsbD_ushiftRight]
    show (BitVec.ofNat 32 b).getLsbD (i + 0) = _
    rw [BitVec.getLsbD_ofNat, Nat.add_zero, Nat.testBit_eq_decide_div_mod_eq]
    simp [show i < 32 by omega]
  rw [e2]
  have h2 : b / 2 ^ i % 2 ^ 1 = b / 2 ^ i % 2 := rfl
  rw [h2]
  rcases Nat.mod_two_eq_zero_or_one (b / 2 ^ i) with z | z
  · rw [z]
    rfl
  · rw [z]
    rfl
theorem crb_n {g : Nat → Int32} {j b : Nat} (hg : g j = nI b) (hb : b < 256) : ∀ n, n ≤ 8 → ∀ m, m + n = 8 → smn n (crb g (8 * j + m)).toBitVec ((nI b).toBitVec >>> m) = (crb g (8 * j + 8)).toBitVec
  | 0, _, m, hm => by
    rw [show m = 8 by omega]
    rfl
  | n + 1, hn, m, hm => by
    have ih := crb_n hg hb n (by omega) (m + 1) (by omega)
    rw [← ih, smn, ← BitVec.shiftRight_add]
    congr 1
    show sm _ _ = (bst (crb g (8 * j + m)) ((g ((8 * j + m) / 8) >>> (nI ((8 * j + m) % 8) &&& 31)) &&& 1)).toBitVec
    rw [show (8 * j + m) / 8 = j by omega, show (8 * j + m) % 8 = m by omega, hg, bit_nI hb (by omega), bst_bv]
theorem T_ckt : ∀ r, r < 16 → (ckt r).toBitVec = T16 r := by decide
theorem nib_bv (c : Int32) : (nib c).toBitVec = (c.toBitVec >>> 4) ^^^ T16 (c.toBitVec &&& 15#32).toNat := by
  obtain ⟨r, hr, er⟩ := pk_andE c (m := 15) 4 (by decide)
  have e2 : (c.toBitVec &&& 15#32).toNat = r := by
    have : (c &&& 15).toBitVec.toNat = r := by rw [er, pk_tn (by omega)]
    rw [Int32.toBitVec_and] at this
    exact this
  unfold nib
  rw [Int32.toBitVec_xor, ush_bv c 4 4 (by decide), er, nI_clamp (by omega), T_ckt r (by omega), e2]
/-- both checks are one -/
theorem crc_eq {g : Nat → Int32} {n : Nat} (h : byt g n) : ∀ j, j ≤ n → crb g (8 * j) = crc g j
  | 0, _ => rfl
  | j + 1, hj => by
    have ih := crc_eq h j (by omega)
    obtain ⟨b, hb, eb⟩ := h j (by omega)
    apply Int32.toBitVec_inj.mp
    have e := crb_n eb hb 8 (Nat.le_refl _) 0 rfl
    rw [Nat.add_zero, ih, BitVec.ushiftRight_zero] at e
    rw [show 8 * (j + 1) = 8 * j + 8 by omega, ← e, crc_byte _ _ (by rw [pk_tn (by omega)]; exact hb), crc, nib_bv, nib_bv, Int32.toBitVec_xor, eb]
end SY1
