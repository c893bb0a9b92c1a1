section SX6
variable {ra : ae_R} {d : Nat} {σ σ0 σ1 σ2 : ae_S} {w w0 w1 w2 : Nat → Nat} {C C' : Nat → Prop} {i : Nat} {x y : AF} {pl hl : List AF} {fr : Nat} {b g e hp mk : Int32}
/-- a line: plain row, high row, the frame on it and how many ticks it goes, harm: place and mask -/
abbrev ALn : Type := List AF × List AF × Option (AF × Nat) × Option (Nat × Int32)
def onC (o : Option (AF × Nat)) (x : AF) (b g : Int32) : Prop := (o = none ∧ b = 0) ∨ ∃ t, o = some (x, t) ∧ b = 1 ∧ g = nI (8 * t) ∧ 8 * t < x.1 ∧ 64 ≤ x.1
def hmC (o : Option (Nat × Int32)) (e hp mk : Int32) : Prop := (o = none ∧ e = 0) ∨ ∃ h, o = some (h, mk) ∧ e = 1 ∧ hp = nI h ∧ h < 2 ^ 31
def LN (σ : ae_S) (w : Nat → Nat) (i : Nat) (A : ALn) : Prop := ∃ fr b g e hp mk x, LW σ w i A.1 A.2.1 fr b g e hp mk x ∧ onC A.2.2.1 x b g ∧ hmC A.2.2.2 e hp mk ∧ ∀ y, y ∈ A.1 ∨ y ∈ A.2.1 → 64 ≤ y.1
theorem LN.sa {A : ALn} (h : LN σ w i A) (hs : Sa C σ w σ1 w1) (hc : ∀ c, LC i c → ¬ C c) : LN σ1 w1 i A := by
  obtain ⟨fr, b, g, e, hp, mk, x, h1, h2⟩ := h
  exact ⟨fr, b, g, e, hp, mk, x, h1.sa hs hc, h2⟩
def spo (x : AF) (h : Nat) (mk : Int32) : AF := (x.1, ub x.2 (h % x.1) (x.2 (h % x.1) ^^^ mk))
/-- a line that is free takes the next frame -/
def ld (A : ALn) : ALn := match tk A.1 A.2.1 with
  | (none, p, h) => (p, h, none, A.2.2.2)
  | (some y, p, h) => match A.2.2.2 with
    | none => (p, h, some (y, 0), none)
    | some (k, mk) => if mk = 0 then (match tk p h with
      | (none, p', h') => (p', h', none, none)
      | (some z, p', h') => (p', h', some (z, 0), none)) else (p, h, some (spo y k mk, 0), none)
theorem tk_mem : ((∀ y, y ∈ pl ∨ y ∈ hl → 64 ≤ y.1) → (∀ y, y ∈ (tk pl hl).2.1 ∨ y ∈ (tk pl hl).2.2 → 64 ≤ y.1) ∧ ∀ y, (tk pl hl).1 = some y → 64 ≤ y.1) := by
  intro h
  cases hl with
  | cons z t =>
    refine ⟨fun y hy => h y (hy.elim Or.inl (fun z => Or.inr (List.mem_cons_of_mem _ z))), fun y hy => ?_⟩
    injection hy with hy
    rw [← hy]
    exact h z (Or.inr List.mem_cons_self)
  | nil =>
    cases pl with
    | nil => exact ⟨fun y hy => h y hy, fun y hy => absurd hy (by simp [tk])⟩
    | cons z t =>
      refine ⟨fun y hy => h y (hy.elim (fun z => Or.inl (List.mem_cons_of_mem _ z)) Or.inr), fun y hy => ?_⟩
      injection hy with hy
      rw [← hy]
      exact h z (Or.inl List.mem_cons_self)
theorem LW.rcv {as : List Value} (h : LW σ w i pl hl fr b g e hp mk x) : ae_rcv σ (some 3) (.ref (8 + 7 * i) :: as) = true := e_rcv h.2.1
theorem c_59x {A : ALn} (h : LN σ w i A) (ho : A.2.2.1 = none) : hE ra (d + 3) 59 [.ref (8 + 7 * i)] σ (pI (fun σ' _ => ∃ w', LN σ' w' i (ld A) ∧ Sa (LC i) σ w σ' w')) := by
  obtain ⟨fr, b, g, e, hp, mk, x, h, hon, hhm, h64⟩ := h
  obtain ⟨m1, m2⟩ := tk_mem h64
  refine h_in rfl rfl (Nat.le_of_ble_eq_true rfl) ?_
  refine h_st rfl rfl ?_
  refine h_cv1 rfl (Nat.le_of_ble_eq_true rfl) (h.rcv) rfl (c_60x h) (fun σ2 hq => ?_)
  obtain ⟨w1, fr1, x1, b1, h1, ht, s1⟩ := hq
  refine h_st rfl rfl ?_
  refine h_st rfl (e_get h1.2.1 rfl) ?_
  rcases ht with ⟨et, eb⟩ | ⟨et, eb⟩
  · subst eb
    refine h_st rfl rfl ?_
    refine h_pc (if_pos (by decide)) ?_
    have el : ld A = ((tk A.1 A.2.1).2.1, (tk A.1 A.2.1).2.2, none, A.2.2.2) := by
      unfold ld
      generalize tk A.1 A.2.1 = z at et
      obtain ⟨z1, z2, z3⟩ := z
      cases et
      rfl
    refine h_st rfl rfl ?_
    exact h_rt rfl rfl (⟨_, _, rfl, w1, by rw [el]; exact ⟨fr1, 0, 0, e, hp, mk, x1, h1, Or.inl ⟨rfl, rfl⟩, hhm, m1⟩, s1⟩)
  · subst eb
    have hx64 := m2 x1 et
    refine h_st rfl rfl ?_
    refine h_pc (if_neg (by decide)) ?_
    refine h_st rfl rfl ?_
    refine h_st rfl (e_get h1.2.1 rfl) ?_
    rcases hhm with ⟨eh, ee⟩ | ⟨k, eh, ee, ehp, hk⟩
    · subst ee
      have el : ld A = ((tk A.1 A.2.1).2.1, (tk A.1 A.2.1).2.2, some (x1, 0), none) := by
        unfold ld
        rw [eh]
        generalize tk A.1 A.2.1 = z at et
        obtain ⟨z1, z2, z3⟩ := z
        cases et
        rfl
      refine h_st rfl rfl ?_
      refine h_pc (if_neg (by decide)) ?_
      refine h_st rfl rfl ?_
      exact h_rt rfl rfl (⟨_, _, rfl, w1, by rw [el]; exact ⟨fr1, 1, 0, 0, hp, mk, x1, h1, Or.inr ⟨0, rfl, rfl, rfl, by omega, hx64⟩, Or.inl ⟨rfl, rfl⟩, m1⟩, s1⟩)
    · subst ee
      subst ehp
      obtain ⟨h2, s2⟩ := h1.put (fr' := fr1) (b' := 1) (g' := 0) (e' := 0) (hp' := nI k) (mk' := mk) rfl
      refine h_st rfl rfl ?_
      refine h_pc (if_pos (by decide)) ?_
      refine h_st rfl rfl ?_
      refine h_st rfl rfl ?_
      refine h_st rfl (e_put h1.2.1 rfl (Nat.le_of_ble_eq_true rfl)) ?_
      refine hG_eq (σ1 := (σ2.1, σ2.2.set (8 + 7 * i) (LC0 i fr1 1 0 0 (nI k) mk))) rfl ?_
      refine h_st rfl rfl ?_
      refine h_st rfl (e_get h2.2.1 rfl) ?_
      by_cases hmk : mk = 0
      · have el : ld A = (match tk (tk A.1 A.2.1).2.1 (tk A.1 A.2.1).2.2 with | (none, p', h') => (p', h', none, none) | (some z, p', h') => (p', h', some (z, 0), none)) := by
          unfold ld
          rw [eh]
          generalize tk A.1 A.2.1 = z at et
          obtain ⟨z1, z2, z3⟩ := z
          cases et
          exact if_pos hmk
        obtain ⟨m3, m4⟩ := tk_mem m1
        refine h_st rfl rfl ?_
        refine h_pc (if_pos (decide_eq_true (hmk))) ?_
        refine h_st rfl rfl ?_
        refine h_cv1 rfl (Nat.le_of_ble_eq_true rfl) (h2.rcv) rfl (c_60x h2) (fun σ3 hq => ?_)
        obtain ⟨w3, fr3, x3, b3, h3, ht3, s3⟩ := hq
        refine h_st rfl rfl ?_
        refine h_rt rfl rfl ⟨_, _, rfl, w3, ?_, s1.trans (s2.trans s3)⟩
        rw [el]
        generalize tk (tk A.1 A.2.1).2.1 (tk A.1 A.2.1).2.2 = z at h3 ht3 m3 m4
        obtain ⟨z1, z2, z3⟩ := z
        rcases ht3 with ⟨e3, eb3⟩ | ⟨e3, eb3⟩
        · cases e3
          subst eb3
          exact ⟨fr3, 0, 0, 0, nI k, mk, x3, h3, Or.inl ⟨rfl, rfl⟩, Or.inl ⟨rfl, rfl⟩, m3⟩
        · cases e3
          subst eb3
          have := m4 x3 rfl
          exact ⟨fr3, 1, 0, 0, nI k, mk, x3, h3, Or.inr ⟨0, rfl, rfl, rfl, by omega, this⟩, Or.inl ⟨rfl, rfl⟩, m3⟩
      · have el : ld A = ((tk A.1 A.2.1).2.1, (tk A.1 A.2.1).2.2, some (spo x1 k mk, 0), none) := by
          unfold ld
          rw [eh]
          generalize tk A.1 A.2.1 = z at et
          obtain ⟨z1, z2, z3⟩ := z
          cases et
          exact if_neg hmk
        obtain ⟨v1, v2, v3, v4, v5, pb, v6, v7⟩ := h2
        refine h_st rfl rfl ?_
        refine h_pc (if_neg (fun z9 => (hmk) (of_decide_eq_true z9))) ?_
        refine h_st rfl rfl ?_
        refine h_st rfl (e_get v2 rfl) ?_
        refine h_st rfl rfl ?_
        refine h_st rfl (e_get v2 rfl) ?_
        refine h_st rfl rfl ?_
        refine h_st rfl (e_get v2 rfl) ?_
        refine h_cv3 rfl (Nat.le_of_ble_eq_true rfl) (e_rcv (v7.1)) rfl (c_62x v7 hx64 rfl hk mk) (fun σ3 hq => ?_)
        obtain ⟨f3, o3⟩ := hq
        have s3 := Sa.op (w := w1) o3
        rw [v5, v6] at s3
        have b0 := cp0_le i
        have b1 := cp1_le i
        have h3 : LW σ3 w1 i (tk A.1 A.2.1).2.1 (tk A.1 A.2.1).2.2 fr1 1 0 0 (nI k) mk (spo x1 k mk) := ⟨v1, s3.at v2 (by omega), v3.sa s3 (fun c z => by unfold RC at z; omega), v4.sa s3 (fun c z => by unfold RC at z; omega), v5, pb, v6, f3⟩
        refine h_st rfl rfl ?_
        refine h_rt rfl rfl ⟨_, _, rfl, w1, ?_, s1.trans (s2.trans (s3.mono (fun c z => by unfold LC; omega)))⟩
        rw [el]
        exact ⟨fr1, 1, 0, 0, nI k, mk, spo x1 k mk, h3, Or.inr ⟨0, rfl, rfl, rfl, by show 0 < x1.1; omega, hx64⟩, Or.inl ⟨rfl, rfl⟩, m1⟩
/-- a line whose frame is told anew -/
def won (A : ALn) (o : Option (AF × Nat)) : ALn := (A.1, A.2.1, o, A.2.2.2)
theorem c_32x {A : ALn} (h : LN σ w i A) : hE ra (d + 1) 32 [.ref (8 + 7 * i)] σ (pI (fun σ' v => Sa (LC i) σ w σ' w ∧ ((v = 0 ∧ A.2.2.1 = none ∧ σ' = σ) ∨ (v = 0 ∧ ∃ x t, A.2.2.1 = some (x, t) ∧ 8 * (t + 1) < x.1 ∧ LN σ' w i (won A (some (x, t + 1)))) ∨ (v = 1 ∧ ∃ x t, A.2.2.1 = some (x, t) ∧ x.1 ≤ 8 * (t + 1) ∧ LN σ' w i (won A none) ∧ ∃ fr b g e hp mk pb, σ'.2[8 + 7 * i]? = some (LC0 i fr b g e hp mk) ∧ w fr = 100 * i + 10 ∧ w pb = 100 * i + 10 + 1 ∧ FX σ' fr pb x.1 x.2 ∧ 64 ≤ x.1)))) := by
  obtain ⟨fr, b, g, e, hp, mk, x, h, hon, hhm, h64⟩ := h
  rcases hon with ⟨eo, eb⟩ | ⟨t, eo, eb, eg, ht, hx⟩
  · subst eb
    refine h_in rfl rfl (Nat.le_of_ble_eq_true rfl) ?_
    refine h_st rfl rfl ?_
    refine h_st rfl (e_get h.2.1 rfl) ?_
    refine h_st rfl rfl ?_
    refine h_pc (if_neg (by decide)) ?_
    refine h_st rfl rfl ?_
    exact h_rt rfl rfl (⟨_, _, rfl, Sa.refl, Or.inl ⟨rfl, eo, rfl⟩⟩)
  · subst eb
    subst eg
    obtain ⟨k1, k2, k3, k4, k5, pb, k6, k7⟩ := h
    have hx2 := k7.2.1.1
    have e8 : nI (8 * t) + 8 = nI (8 * (t + 1)) := by rw [show (8 : Int32) = nI 8 from rfl, nI_add]; rfl
    have hkF : ∀ y : ae_C, y = LC0 i fr 1 (nI (8 * (t + 1))) e hp mk → (σ.2.set (8 + 7 * i) y)[8 + 7 * i]? = some (LC0 i fr 1 (nI (8 * (t + 1))) e hp mk) := fun y hy => by rw [hy]; exact st_get k2
    obtain ⟨g1, s1⟩ := LW.put (fr' := fr) (b' := 1) (g' := nI (8 * (t + 1))) (e' := e) (hp' := hp) (mk' := mk) ⟨k1, k2, k3, k4, k5, pb, k6, k7⟩ rfl
    refine h_in rfl rfl (Nat.le_of_ble_eq_true rfl) ?_
    refine h_st rfl rfl ?_
    refine h_st rfl (e_get k2 rfl) ?_
    refine h_st rfl rfl ?_
    refine h_pc (if_pos (by decide)) ?_
    refine h_st rfl rfl ?_
    refine h_st rfl rfl ?_
    refine h_st rfl (e_get k2 rfl) ?_
    refine h_st rfl rfl ?_
    refine h_st rfl rfl ?_
    refine h_st rfl (e_put k2 rfl (Nat.le_of_ble_eq_true rfl)) ?_
    refine hG_eq (σ1 := (σ.1, σ.2.set (8 + 7 * i) (LC0 i fr 1 (nI (8 * (t + 1))) e hp mk))) (by rw [← e8]; rfl) ?_
    generalize hσ : ((σ.1, σ.2.set (8 + 7 * i) (LC0 i fr 1 (nI (8 * (t + 1))) e hp mk)) : ae_S) = σ1 at g1 s1
    obtain ⟨v1, v2, v3, v4, v5, pb1, v6, v7⟩ := g1
    have g1 : LW σ1 w i A.1 A.2.1 fr 1 (nI (8 * (t + 1))) e hp mk x := ⟨v1, v2, v3, v4, v5, pb1, v6, v7⟩
    refine h_st rfl rfl ?_
    refine h_st rfl rfl ?_
    refine h_st rfl (e_get v2 rfl) ?_
    refine h_st rfl rfl ?_
    refine h_st rfl (e_get v2 rfl) ?_
    refine h_st rfl (e_get v7.1 rfl) ?_
    refine h_st rfl rfl ?_
    refine h_br (fun q => ?_) (fun q => ?_)
    · have hge : x.1 ≤ 8 * (t + 1) := (nI_leI (by omega) (by omega)).mp q
      refine h_st rfl rfl ?_
      refine h_st rfl (e_put v2 rfl (Nat.le_of_ble_eq_true rfl)) ?_
      refine h_st rfl rfl ?_
      refine h_st rfl (e_get (st_get v2) rfl) ?_
      refine h_st rfl rfl ?_
      refine h_pc (if_neg (by decide)) ?_
      refine h_st rfl rfl ?_
      refine h_st rfl rfl ?_
      exact h_rt rfl rfl (⟨_, _, rfl, (by obtain ⟨g2, s2⟩ := g1.put (fr' := fr) (b' := 0) (g' := nI (8 * (t + 1))) (e' := e) (hp' := hp) (mk' := mk) rfl; obtain ⟨u1, u2, u3, u4, u5, pb2, u6, u7⟩ := g2; exact ⟨s1.trans s2, Or.inr (Or.inr ⟨rfl, x, t, eo, hge, ⟨fr, 0, nI (8 * (t + 1)), e, hp, mk, x, ⟨u1, u2, u3, u4, u5, pb2, u6, u7⟩, Or.inl ⟨rfl, rfl⟩, hhm, h64⟩, fr, 0, nI (8 * (t + 1)), e, hp, mk, pb2, u2, u5, u6, u7, hx⟩)⟩)⟩)
    · have hlt : 8 * (t + 1) < x.1 := Nat.lt_of_not_le (fun z => q (nI_le z (by omega)))
      refine h_st rfl rfl ?_
      refine h_st rfl rfl ?_
      refine h_st rfl (e_put v2 rfl (Nat.le_of_ble_eq_true rfl)) ?_
      refine h_st rfl rfl ?_
      refine h_st rfl (e_get (st_get v2) rfl) ?_
      refine h_st rfl rfl ?_
      refine h_pc (if_pos (by decide)) ?_
      refine h_st rfl rfl ?_
      exact h_rt rfl rfl (⟨_, _, rfl, (by obtain ⟨g2, s2⟩ := g1.put (fr' := fr) (b' := 1) (g' := nI (8 * (t + 1))) (e' := e) (hp' := hp) (mk' := mk) rfl; exact ⟨s1.trans s2, Or.inr (Or.inl ⟨rfl, x, t, eo, hlt, fr, 1, nI (8 * (t + 1)), e, hp, mk, x, g2, Or.inr ⟨t + 1, rfl, rfl, rfl, hlt, hx⟩, hhm, h64⟩)⟩)⟩)
end SX6
