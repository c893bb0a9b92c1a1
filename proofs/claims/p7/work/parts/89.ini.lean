section INI
def allB (p : Nat → Bool) (n : Nat) : Nat → Nat → Bool
  | 0, s => decide (n ≤ s) || p s
  | d + 1, s => decide (n ≤ s) || (allB p n d s && allB p n d (s + 2 ^ d))
theorem allB_sp {p : Nat → Bool} {n : Nat} : ∀ (d s : Nat), allB p n d s = true → ∀ j, s ≤ j → j < s + 2 ^ d → j < n → p j = true
  | 0, s, h, j, h1, h2, h3 => by
    have e : j = s := by
      rw [Nat.pow_zero] at h2
      omega
    subst e
    unfold allB at h
    rw [Bool.or_eq_true] at h
    exact h.resolve_left (fun z => absurd (of_decide_eq_true z) (by omega))
  | d + 1, s, h, j, h1, h2, h3 => by
    unfold allB at h
    rw [Bool.or_eq_true] at h
    have h := h.resolve_left (fun z => absurd (of_decide_eq_true z) (by omega))
    rw [Bool.and_eq_true] at h
    rw [Nat.pow_succ] at h2
    by_cases e : j < s + 2 ^ d
    · exact allB_sp d s h.1 j h1 e h3
    · exact allB_sp d (s + 2 ^ d) h.2 j (by omega) (by omega) h3
def vb (σ : ae_S) (q t n d : Nat) : Bool := match σ.2[q]? with
  | some (.inl (t', n', .inl f)) => t' == t && n' == n && allB (fun j => f j == 0) n d 0
  | _ => false
theorem vb_eq {σ : ae_S} {q t n d : Nat} (h : vb σ q t n d = true) (hn : n ≤ 2 ^ d) : ∃ f, σ.2[q]? = some (.inl (t, n, .inl f)) ∧ ∀ j, j < n → f j = 0 := by
  unfold vb at h
  split at h
  · rename_i t' n' f he
    rw [Bool.and_eq_true, Bool.and_eq_true] at h
    refine ⟨f, by rw [he, beq_iff_eq.mp h.1.1, beq_iff_eq.mp h.1.2], fun j hj => ?_⟩
    exact beq_iff_eq.mp (allB_sp d 0 h.2 j (Nat.zero_le _) (by omega) hj)
  · cases h
theorem fz3_b7 : vb fz3 7 1 1000 10 = true := by decide +kernel
theorem fz3_b210 : vb fz3 210 0 128 7 = true := by decide +kernel
theorem fz3_b194 : vb fz3 194 0 80000 17 = true := by decide +kernel
theorem fz3_w : Wt1 fz3 ≤ 1528 ∧ Wt2 fz3 ≤ 501948 := by decide +kernel
def rn (i : Nat) : Nat := if i % 12 < 4 then 16 else 4
def rm (i : Nat) : Nat := if i % 12 < 4 then 0 else 4
theorem rn_le (i : Nat) : rn i ≤ 16 := by
  unfold rn
  split <;> omega
theorem rm_le (i : Nat) : rm i ≤ 16 := by
  unfold rm
  split <;> omega
def kl (i : Nat) : Nat → Nat
  | 0 => 16
  | 1 => 5
  | 2 => 6
  | 3 => 100 + rn i
  | 4 => 200 + rn i
  | 5 => 100 + rm i
  | _ => 200 + rm i
def kz (p : Nat) : Nat := if p < 8 then p + 1 else if p < 176 then kl ((p - 8) / 7) ((p - 8) % 7) else 0
theorem kz_l {i r : Nat} (hi : i < 24) (hr : r < 7) : kz (8 + r + 7 * i) = kl i r := by
  unfold kz
  rw [if_neg (by omega), if_pos (by omega)]
  have e1 : (8 + r + 7 * i - 8) / 7 = i := by omega
  have e2 : (8 + r + 7 * i - 8) % 7 = r := by omega
  rw [e1, e2]
theorem ty0 : Ty fz3 kz := by
  obtain ⟨f1, f2, f3, f5, hc, hlen, h0, hk1, hf1, hk2, hf2, hk3, hf3, h4, hk5, hf5, h6⟩ := fr_cls fz3_ok
  obtain ⟨f7, hk7, hf7⟩ := vb_eq fz3_b7 (by decide)
  intro p hp
  by_cases h8 : p < 8
  · have hp8 : p = 0 ∨ p = 1 ∨ p = 2 ∨ p = 3 ∨ p = 4 ∨ p = 5 ∨ p = 6 ∨ p = 7 := by omega
    rcases hp8 with rfl | rfl | rfl | rfl | rfl | rfl | rfl | rfl
    · exact ⟨_, h0, ok_1 ⟨_, rfl⟩⟩
    · exact ⟨_, hk1, ok_2 ⟨_, rfl, fun j q hj hq => by rw [hf1 j hj] at hq; cases hq⟩⟩
    · refine ⟨_, hk2, ok_3 ⟨_, rfl, fun j hj => ⟨_, hf2 j hj, ?_⟩⟩⟩
      exact kz_l (r := 0) hj (by decide)
    · exact ⟨_, hk3, ok_4 ⟨_, rfl⟩⟩
    · exact ⟨_, h4, ok_5 ⟨5, 0, rfl, by decide, rfl⟩⟩
    · exact ⟨_, hk5, ok_6 ⟨_, rfl, fun j hj => by rw [hf5 j hj]; decide⟩⟩
    · exact ⟨_, h6, ok_7 ⟨7, 0, rfl, by decide, rfl⟩⟩
    · exact ⟨_, hk7, ok_8 ⟨_, rfl, fun j hj => by rw [hf7 j hj]; decide⟩⟩
  · by_cases h176 : p < 176
    · obtain ⟨i, r, hi, hr, rfl⟩ : ∃ i r, i < 24 ∧ r < 7 ∧ p = 8 + r + 7 * i := ⟨(p - 8) / 7, (p - 8) % 7, by omega, by omega, by omega⟩
      obtain ⟨fb, fp, fh, l1, l2, l3, l4, l5, l6, l7, l8, l9, l10⟩ := fr_line fz3_ok hi
      rw [kz_l hi hr]
      have hr7 : r = 0 ∨ r = 1 ∨ r = 2 ∨ r = 3 ∨ r = 4 ∨ r = 5 ∨ r = 6 := by omega
      have n16 := rn_le i
      have m16 := rm_le i
      rcases hr7 with rfl | rfl | rfl | rfl | rfl | rfl | rfl
      · exact ⟨_, l1, ok_16 ⟨rn i, rm i, _, _, _, _, _, _, _, _, _, rfl, ⟨n16, m16⟩, kz_l (r := 3) hi (by decide), kz_l (r := 5) hi (by decide), kz_l (r := 1) hi (by decide)⟩⟩
      · exact ⟨_, l2, ok_5 ⟨_, 0, rfl, by decide, kz_l (r := 2) hi (by decide)⟩⟩
      · exact ⟨_, l3, ok_6 ⟨_, rfl, fun j hj => by rw [l4 j hj]; decide⟩⟩
      · exact ⟨_, l5, ok_R n16 ⟨_, 0, 0, rfl, ⟨Nat.zero_le _, Or.inr rfl⟩, kz_l (r := 4) hi (by decide)⟩⟩
      · refine ⟨_, l6, ok_S n16 ⟨fp, rfl, fun j q hj hq => ?_⟩⟩
        rw [l7 j (by omega)] at hq
        cases hq
      · exact ⟨_, l8, ok_R m16 ⟨_, 0, 0, rfl, ⟨Nat.zero_le _, Or.inr rfl⟩, kz_l (r := 6) hi (by decide)⟩⟩
      · refine ⟨_, l9, ok_S m16 ⟨fh, rfl, fun j q hj hq => ?_⟩⟩
        have : rm i ≤ 4 := by
          unfold rm
          split <;> omega
        rw [l10 j (by omega)] at hq
        cases hq
    · exact absurd (by unfold kz; rw [if_neg h8, if_neg h176]) hp
theorem kz_0 {p : Nat} (h : 176 ≤ p) : kz p = 0 := by
  unfold kz
  rw [if_neg (by omega), if_neg (by omega)]
theorem s00 : S0 kz := ⟨rfl, rfl, rfl, rfl, rfl, rfl⟩
/-- what a row of ints holds -/
def cf (σ : ae_S) (q : Nat) : Nat → Int32 := match σ.2[q]? with
  | some (.inl (_, _, .inl f)) => f
  | _ => fun _ => 0
theorem cf_eq {σ : ae_S} {q t n : Nat} {f : Nat → Int32} (h : σ.2[q]? = some (.inl (t, n, .inl f))) : cf σ q = f := by
  unfold cf
  rw [h]
theorem cz {p t n m : Nat} {v : Int32} (hq : (p, t, n, m, v) ∈ rf_A) : ∀ j, j < m → cf fz3 p j = v := by
  obtain ⟨f, h1, h2⟩ := rf_a (fr_rf fz3_ok) hq
  rw [cf_eq h1]
  exact h2
theorem rs0 : RS false fz3 (cf fz3) fz3 0 0 0 (cf fz3) := by
  refine ⟨⟨rfl, rfl, fun _ _ => rfl⟩, rf_o (fr_rf fz3_ok), fun q hq => ?_, fun z => by cases z⟩
  obtain ⟨f, h1, h2⟩ := rf_a (fr_rf fz3_ok) (p := q.1) (t := q.2.1) (n := q.2.2.1) (m := q.2.2.2.1) (v := q.2.2.2.2) hq
  rw [cf_eq h1]
  exact h1
theorem rp0 : RP (cf fz3) 0 [] [] := by
  obtain ⟨f1, a1, b1⟩ := vb_eq fz3_b194 (by decide)
  obtain ⟨f2, a2, b2⟩ := vb_eq fz3_b210 (by decide)
  have z0 : ∀ n, 0 < n → rg 0 n := fun n hn => ⟨0, hn, rfl⟩
  refine ⟨⟨fun l hl => ?_, fun l hl hi => absurd (cz m177 l hl) hi⟩, fun l hl => ?_, fun i hi => ?_, ⟨fun r hr => ⟨0, Nat.zero_le _, cz m198 r hr, fun j hj => absurd hj (Nat.not_lt_zero _)⟩, fun l hl => Or.inl (cz m199 l hl), fun f hf hl => ?_, fun f hf hu => absurd (cz m196 f hf) hu⟩, fun l hl => ⟨?_, Or.inl (cz m202 l hl)⟩, ⟨fun k hk => Or.inl (cz m204 k hk), fun k hk => ?_, fun k hk => ?_, fun i hi => ?_⟩, z0 _ (by decide)⟩
  · rw [cz m180 l hl]
    exact z0 _ (by decide)
  · rw [cz m189 l hl]
    exact z0 _ (by decide)
  · rw [cf_eq a1, b1 i hi]
    exact z0 _ (by decide)
  · rcases hl with (⟨r, j, m, q1, q2, q3, q4, q5⟩ | ⟨l, q1, q2⟩) | hl
    · rw [cz m198 r q1] at q4
      have : 0 = m := nI_inj (by decide) (by omega) q4
      omega
    · rw [cz m199 l q1] at q2
      exact absurd q2.symm (nI_nm1 (by omega))
    · cases hl
  · rw [cz m201 l hl]
    decide
  · rw [cz m207 k hk]
    exact z0 _ (by decide)
  · rw [cz m209 k hk]
    exact z0 _ (by decide)
  · rw [cf_eq a2, b2 i hi]
    exact z0 _ (by decide)
end INI
