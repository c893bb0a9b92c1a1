section CRC
def cP : BitVec 32 := 0xEDB88320#32
/-- a step of the check sum over one bit -/
def s0 (c : BitVec 32) : BitVec 32 := (c >>> 1) ^^^ (if c.getLsbD 0 then cP else 0#32)
theorem s0_xor (a b : BitVec 32) : s0 (a ^^^ b) = s0 a ^^^ s0 b := by
  unfold s0
  rw [BitVec.ushiftRight_xor_distrib, BitVec.getLsbD_xor]
  have hz : ∀ i, (0#32).getLsbD i = false := fun i => by simp
  cases a.getLsbD 0 <;> cases b.getLsbD 0 <;> (apply BitVec.eq_of_getLsbD_eq; intro i hi; simp only [BitVec.getLsbD_xor, Bool.false_xor, Bool.true_xor, Bool.not_true, Bool.not_false, if_true, Bool.false_eq_true, if_false, hz]; cases (a >>> 1).getLsbD i <;> cases (b >>> 1).getLsbD i <;> cases cP.getLsbD i <;> rfl)
def T16 (r : Nat) : BitVec 32 := ([0x00000000#32, 0x1DB71064#32, 0x3B6E20C8#32, 0x26D930AC#32, 0x76DC4190#32, 0x6B6B51F4#32, 0x4DB26158#32, 0x5005713C#32, 0xEDB88320#32, 0xF00F9344#32, 0xD6D6A3E8#32, 0xCB61B38C#32, 0x9B64C2B0#32, 0x86D3D2D4#32, 0xA00AE278#32, 0xBDBDF21C#32] : List (BitVec 32)).getD r 0#32
theorem s4_lo : ∀ r : Nat, r < 16 → s0 (s0 (s0 (s0 (BitVec.ofNat 32 r)))) = T16 r := by decide +kernel
theorem s0_even {q : BitVec 32} (h : q.getLsbD 0 = false) : s0 q = q >>> 1 := by
  unfold s0
  rw [h]
  simp
theorem s4_hi (c : BitVec 32) (h0 : c.getLsbD 0 = false) (h1 : c.getLsbD 1 = false) (h2 : c.getLsbD 2 = false) (h3 : c.getLsbD 3 = false) : s0 (s0 (s0 (s0 c))) = c >>> 4 := by
  have e2 : s0 (c >>> 1) = c >>> 2 := by
    rw [s0_even (by rw [BitVec.getLsbD_ushiftRight]; exact h1), ← BitVec.shiftRight_add]
  have e3 : s0 (c >>> 2) = c >>> 3 := by
    rw [s0_even (by rw [BitVec.getLsbD_ushiftRight]; exact h2), ← BitVec.shiftRight_add]
  have e4 : s0 (c >>> 3) = c >>> 4 := by
    rw [s0_even (by rw [BitVec.getLsbD_ushiftRight]; exact h3), ← BitVec.shiftRight_add]
  rw [s0_even h0, e2, e3, e4]
theorem and_xor (c m : BitVec 32) : (c &&& ~~~m) ^^^ (c &&& m) = c := by
  apply BitVec.eq_of_getLsbD_eq
  intro i hi
  simp only [BitVec.getLsbD_xor, BitVec.getLsbD_and, BitVec.getLsbD_not, hi]
  cases c.getLsbD i <;> cases m.getLsbD i <;> rfl
/-- four steps are one of the table -/
theorem s4 (c : BitVec 32) : s0 (s0 (s0 (s0 c))) = (c >>> 4) ^^^ T16 (c &&& 15#32).toNat := by
  have e := and_xor c 15#32
  have hlt : (c &&& 15#32).toNat < 16 := by
    rw [BitVec.toNat_and]
    exact Nat.lt_succ_of_le Nat.and_le_right
  have hlo : s0 (s0 (s0 (s0 (c &&& 15#32)))) = T16 (c &&& 15#32).toNat := by
    have := s4_lo _ hlt
    rwa [BitVec.ofNat_toNat, BitVec.setWidth_eq] at this
  have hhi : s0 (s0 (s0 (s0 (c &&& ~~~15#32)))) = c >>> 4 := by
    rw [s4_hi]
    · apply BitVec.eq_of_getLsbD_eq
      intro i hi
      rw [BitVec.getLsbD_ushiftRight, BitVec.getLsbD_ushiftRight, BitVec.getLsbD_and, BitVec.getLsbD_not]
      by_cases h : 4 + i < 32
      · have h15 : (15#32).getLsbD (4 + i) = false := by
          rw [show (15#32).getLsbD (4 + i) = Nat.testBit 15 (4 + i) from rfl]
          apply Nat.testBit_lt_two_pow
          exact Nat.lt_of_lt_of_le (by decide : 15 < 2 ^ 4) (Nat.pow_le_pow_right (by decide) (by omega))
        rw [h15]
        simp [h]
      · rw [BitVec.getLsbD_of_ge c (4 + i) (by omega)]
        rfl
    all_goals (rw [BitVec.getLsbD_and]; simp)
  rw [← hlo, ← hhi, ← s0_xor, ← s0_xor, ← s0_xor, ← s0_xor, e]
/-- a step with a bit of data -/
def sm (c : BitVec 32) (d : Bool) : BitVec 32 := (c >>> 1) ^^^ (if (c.getLsbD 0 ^^ d) then cP else 0#32)
theorem s0_st (c b : BitVec 32) : s0 (c ^^^ b) = sm c (b.getLsbD 0) ^^^ (b >>> 1) := by
  unfold s0 sm
  rw [BitVec.ushiftRight_xor_distrib, BitVec.getLsbD_xor, BitVec.xor_assoc, BitVec.xor_assoc, BitVec.xor_comm (b >>> 1)]
def smn : Nat → BitVec 32 → BitVec 32 → BitVec 32
  | 0, c, _ => c
  | n + 1, c, b => smn n (sm c (b.getLsbD 0)) (b >>> 1)
def s0n : Nat → BitVec 32 → BitVec 32
  | 0, c => c
  | n + 1, c => s0n n (s0 c)
theorem smn_eq : ∀ (n : Nat) (c b : BitVec 32), s0n n (c ^^^ b) = smn n c b ^^^ (b >>> n)
  | 0, c, b => by
    show c ^^^ b = c ^^^ (b >>> 0)
    rw [BitVec.ushiftRight_zero]
  | n + 1, c, b => by
    show s0n n (s0 (c ^^^ b)) = smn n (sm c (b.getLsbD 0)) (b >>> 1) ^^^ (b >>> (n + 1))
    rw [s0_st, smn_eq n, ← BitVec.shiftRight_add, Nat.add_comm 1 n]
/-- a byte: eight bits one by one, or two steps of the table -/
theorem crc_byte (c b : BitVec 32) (hb : b.toNat < 256) : smn 8 c b = ((((c ^^^ b) >>> 4) ^^^ T16 ((c ^^^ b) &&& 15#32).toNat) >>> 4) ^^^ T16 ((((c ^^^ b) >>> 4) ^^^ T16 ((c ^^^ b) &&& 15#32).toNat) &&& 15#32).toNat := by
  have h := smn_eq 8 c b
  have hz : b >>> 8 = 0#32 := by
    apply BitVec.eq_of_toNat_eq
    rw [BitVec.toNat_ushiftRight, Nat.shiftRight_eq_div_pow]
    show b.toNat / 256 = 0
    omega
  rw [hz, BitVec.xor_zero] at h
  rw [← h, ← s4, ← s4]
  rfl
end CRC
section SUM
/-- the sum with the carry put back -/
def md (S : Nat) : Nat := if S = 0 then 0 else (S - 1) % 65535 + 1
theorem md_fold {S : Nat} (h : S ≤ 600000) : (S / 65536 + S % 65536) / 65536 + (S / 65536 + S % 65536) % 65536 = md S := by
  unfold md
  split
  · omega
  · omega
theorem md_add {S a : Nat} (ha : a ≤ 65535) : md (S + a) = if md S + a > 65535 then md S + a - 65535 else md S + a := by
  unfold md
  by_cases h : S = 0
  · subst h
    rw [if_pos rfl, Nat.zero_add]
    split
    · subst a
      rw [if_neg (by omega)]
    · rw [if_neg (by omega)]
      omega
  · rw [if_neg h, if_neg (by omega)]
    split <;> omega
theorem md_le (S : Nat) : md S ≤ 65535 := by
  unfold md
  split <;> omega
end SUM
