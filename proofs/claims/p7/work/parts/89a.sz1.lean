section SZ1
/-- the abstract network at its beginning -/
def a0 : AN := (0, fun _ => none, fun _ => ([], [], none, none), fun _ _ => none)
def wl (i : Nat) : Nat → Nat
  | 0 => 100 * i
  | 1 => 100 * i + 10
  | 2 => 100 * i + 11
  | 3 => 100 * i + 1
  | 4 => 100 * i + 2
  | 5 => 100 * i + 3
  | _ => 100 * i + 4
def w8 : Nat → Nat
  | 0 => 2404
  | 1 => 2405
  | 2 => 2406
  | 3 => 2407
  | 4 => 2400
  | 5 => 2401
  | 6 => 2402
  | _ => 2403
def wz (p : Nat) : Nat := if p < 8 then w8 p else wl ((p - 8) / 7) ((p - 8) % 7)
theorem wz_l {i r p : Nat} (hr : r < 7) (e : p = 8 + r + 7 * i) : wz p = wl i r := by
  subst e
  unfold wz
  rw [if_neg (by omega)]
  have e1 : (8 + r + 7 * i - 8) / 7 = i := by omega
  have e2 : (8 + r + 7 * i - 8) % 7 = r := by omega
  rw [e1, e2]
theorem cn0 : ∃ f, CN fz3 wz f a0 := by
  obtain ⟨f1, f2, f3, f5, hc, hlen, h0, hk1, hf1, hk2, hf2, hk3, hf3, h4, hk5, hf5, h6⟩ := fr_cls fz3_ok
  obtain ⟨f7, hk7, hf7⟩ := vb_eq fz3_b7 (by decide)
  refine ⟨f1, ⟨⟨h0, rfl⟩, ⟨f2, hk2, hf2⟩, rfl, ⟨f3, hk3⟩, rfl⟩, ⟨⟨0, fun _ => 0, h4, ⟨by decide, by decide⟩, f5, hk5, fun j hj => by rw [hf5 j hj]; decide, fun j hj => absurd hj (Nat.not_lt_zero _)⟩, rfl, rfl⟩, ⟨⟨0, fun _ => 0, h6, ⟨by decide, by decide⟩, f7, hk7, fun j hj => by rw [hf7 j hj]; decide, fun j hj => absurd hj (Nat.not_lt_zero _)⟩, rfl, rfl⟩, fun i hi => ?_, ⟨hk1, rfl⟩, fun l hl => ⟨fun _ => hf1 l hl, fun k hk => ?_⟩⟩
  · obtain ⟨fb, fp, fh, l1, l2, l3, l4, l5, l6, l7, l8, l9, l10⟩ := fr_line fz3_ok hi
    have n16 := cp0_le i
    have m4 := cp1_le i
    refine ⟨9 + 7 * i, 0, 0, 0, 0, 0, (0, fun _ => 0), ⟨wz_l (r := 0) (by decide) (by omega), l1, ⟨⟨wz_l (r := 3) (by decide) (by omega), wz_l (r := 4) (by decide) (by omega), by omega, n16⟩, 0, fp, l5, l6, ⟨Nat.zero_le _, Or.inr rfl⟩, fun j q hj hq => ?_, fun j x hj => ?_⟩, ⟨⟨wz_l (r := 5) (by decide) (by omega), wz_l (r := 6) (by decide) (by omega), by omega, by omega⟩, 0, fh, l8, l9, ⟨Nat.zero_le _, Or.inr rfl⟩, fun j q hj hq => ?_, fun j x hj => ?_⟩, wz_l (r := 1) (by decide) (by omega), 10 + 7 * i, wz_l (r := 2) (by decide) (by omega), l2, ⟨Nat.zero_le _, by omega⟩, fb, l3, fun j hj => by rw [l4 j hj]; decide, fun j hj => absurd hj (Nat.not_lt_zero _)⟩, Or.inl ⟨rfl, rfl⟩, Or.inl ⟨rfl, rfl⟩, fun y hy => ?_⟩
    · rw [l7 j (by omega)] at hq
      cases hq
    · cases hj
    · rw [l10 j (by omega)] at hq
      cases hq
    · cases hj
    · rcases hy with hy | hy <;> cases hy
  · cases hk
theorem rr0 : RR (cf fz3) (fun _ => 0) a0 := by
  refine ⟨fun i hi => ⟨⟨⟨cz m198 (2 * i) (by omega), Nat.zero_le _, fun j x hj => ?_⟩, Nat.zero_le _⟩, ⟨⟨cz m198 (2 * i + 1) (by omega), Nat.zero_le _, fun j x hj => ?_⟩, Nat.zero_le _⟩, Or.inl ⟨rfl, cz m199 i hi⟩, Or.inl ⟨rfl, cz m202 i hi⟩⟩, fun l hl => ⟨fun _ => ⟨cz m177 l hl, cz m185 l hl, cz m186 l hl, cz m187 l hl, cz m189 l hl⟩, fun k hk => ?_⟩, fun l e hl he => ⟨fun _ => ⟨cz m203 _ (by omega), cz m203 _ (by omega), cz m204 _ (by omega), cz m205 _ (by omega), cz m206 _ (by omega), cz m209 _ (by omega), cz m212 _ (by omega)⟩, fun k hk => ?_, fun p hp => ?_⟩⟩
  · cases hj
  · cases hj
  · cases hk
  · cases hk
  · cases hp
theorem aw0 : AW a0 := fun l k hk => by cases hk
section AWX
variable {a : AN}
theorem aw_lk (h : AW a) (l so ga mo ta fl : Int32) : AW (lkA a l so ga mo ta fl) := by
  by_cases hok : okL l so ga mo ta fl
  · have hok0 := hok
    obtain ⟨y1, y2, y3, y4, y5, y6, y7, y8, ⟨y9, y10, y11⟩, y12, y13⟩ := hok
    obtain ⟨li, hli, rfl⟩ := i_ix (n := 8) (by decide) y1 y2
    obtain ⟨s, hso, rfl⟩ := i_ix (n := 4) (by decide) y3 y4
    obtain ⟨gn, hgn, rfl⟩ := i_ix (x := ga) (n := 10) (by decide) (fun z => y5 (Int32.lt_of_lt_of_le z (by decide))) (fun z => y6 (Int32.lt_of_lt_of_le (by decide) z))
    obtain ⟨m, hmo, rfl⟩ := nI_of2 (x := mo) (M := 128) (n := 128) (by decide) (fun z => y7 (Int32.lt_trans z (by decide))) (Int32.not_lt.mp y8)
    cases hk : nK a li with
    | some k =>
      rw [lk_ex rfl hli hk]
      exact h
    | none =>
      rw [lk_ok hok0 rfl rfl rfl hli hso hmo hk]
      intro j k hj
      by_cases c : j = li
      · subst c
        have hj : updK (nK a) j _ j = some k := hj
        rw [updK_s] at hj
        injection hj with hj
        subst hj
        have h2 : 2 ^ gn ≤ 512 := Nat.le_trans (Nat.pow_le_pow_right (by decide) (show gn ≤ 9 by omega)) (by decide)
        refine ⟨2 ^ gn, sh_ga gn hgn, h2, hmo, fun nt => ⟨m * (2 ^ gn + 64), ?_, Nat.le_refl _⟩⟩
        show nI m * ((1 : Int32) <<< (nI gn &&& 31) + 64) = _
        rw [sh_ga gn hgn, top_eq]
      · have hj : updK (nK a) li _ j = some k := hj
        rw [updK_n c] at hj
        exact h j k hj
  · rw [lk_no hok]
    exact h
theorem aw_wr (h : AW a) (v sz sd : Int32) : AW (wrA a v sz sd) := by
  unfold wrA
  cases hk : kat a v with
  | none => exact h
  | some r =>
    obtain ⟨l, k⟩ := r
    obtain ⟨hl, rfl, hk2⟩ := kat_inv hk
    show AW (if _ then a else if _ then a else _)
    split
    · exact h
    · split
      · exact h
      · exact wa_setK h (wk_same (h l k hk2) rfl rfl)
theorem aw_rd (h : AW a) (e v : Int32) : AW (rdA a e v) := by
  unfold rdA
  cases hp : pat a e v with
  | none => exact h
  | some r =>
    obtain ⟨l, en, p⟩ := r
    show AW (if _ then a else _)
    split
    · exact h
    · exact wa_eqK h rfl
theorem aw_hm (h : AW a) (u v pl mk : Int32) : AW (hmA a u v pl mk) := by
  unfold hmA
  split
  · exact wa_eqK h rfl
  · exact h
theorem aw_bb (h : AW a) (u e v s n : Int32) : AW (bbA a u e v s n) := by
  unfold bbA
  split
  · exact wa_eqK h rfl
  · exact h
theorem nt_lk (l so ga mo ta fl : Int32) : nT (lkA a l so ga mo ta fl) = nT a := by
  unfold lkA
  by_cases hok : okL l so ga mo ta fl
  · rw [if_pos hok]
    split <;> rfl
  · rw [if_neg hok]
theorem nt_wr (v sz sd : Int32) : nT (wrA a v sz sd) = nT a := by
  unfold wrA
  cases kat a v with
  | none => rfl
  | some r =>
    obtain ⟨l, k⟩ := r
    show nT (if _ then a else if _ then a else _) = _
    split
    · rfl
    · split <;> rfl
theorem nt_rd (e v : Int32) : nT (rdA a e v) = nT a := by
  unfold rdA
  cases pat a e v with
  | none => rfl
  | some r =>
    obtain ⟨l, en, p⟩ := r
    show nT (if _ then a else _) = _
    split <;> rfl
theorem nt_hm (u v pl mk : Int32) : nT (hmA a u v pl mk) = nT a := by
  unfold hmA
  split <;> rfl
theorem nt_bb (u e v s n : Int32) : nT (bbA a u e v s n) = nT a := by
  unfold bbA
  split <;> rfl
end AWX
end SZ1
