section SP6
variable {ra : ae_R} {d : Nat} {σ : ae_S}
theorem k_77 {x : Int32} : hE ra (d + 1) 77 [.int x] σ (pI (fun σ' y => σ' = σ ∧ y = x - x / 3 * 3)) := by
  refine h_in rfl rfl (Nat.le_of_ble_eq_true rfl) ?_
  refine h_st rfl rfl ?_
  refine h_st rfl rfl ?_
  refine h_st rfl (e_dv (by decide)) ?_
  exact h_rt rfl rfl (⟨_, _, rfl, rfl, rfl⟩)
theorem k_76a {a b : Int32} {sb : Nat} (hsb : sb < 3) (hb3 : b - b / 3 * 3 = nI sb) {P : ae_S × ae_O → Prop} (hx : ∀ x2 x3 : Int32, hG ra (d + 1) 76 σ [some (.int a), some (.int b), some (.int x2), some (.int x3)] [] 38 P) : ∀ (m j : Nat) (x2 : Int32), j + m = 3 → hG ra (d + 1) 76 σ [some (.int a), some (.int b), some (.int x2), some (.int (nI j))] [] 15 P := by
  intro m
  induction m with
  | zero =>
    intro j x2 hj
    have hj : j = 3 := by omega
    subst hj
    refine h_st rfl rfl ?_
    refine h_st rfl rfl ?_
    refine h_ci1 rfl (Nat.le_of_ble_eq_true rfl) rfl rfl (k_77) (fun σ' y hb => ?_)
    obtain ⟨rfl, rfl⟩ := hb
    refine h_st rfl rfl ?_
    refine h_pc (if_pos (decide_eq_true (by rw [hb3]; exact nI_le (by omega) (by decide)))) ?_
    exact hx _ _
  | succ m ih =>
    intro j x2 hj
    refine h_st rfl rfl ?_
    refine h_st rfl rfl ?_
    refine h_ci1 rfl (Nat.le_of_ble_eq_true rfl) rfl rfl (k_77) (fun σ' y hb => ?_)
    obtain ⟨rfl, rfl⟩ := hb
    refine h_st rfl rfl ?_
    refine h_br (fun _ => hx _ _) (fun _ => ?_)
    refine h_st rfl rfl ?_
    refine h_st rfl rfl ?_
    refine h_st rfl rfl ?_
    refine h_st rfl rfl ?_
    refine h_st rfl rfl ?_
    refine h_st rfl rfl ?_
    refine h_st rfl rfl ?_
    refine h_st rfl rfl ?_
    refine h_st rfl rfl ?_
    refine h_st rfl rfl ?_
    have ih1 := fun x => ih (j + 1) x (by omega)
    simp only [← nI_1] at ih1
    exact ih1 _
theorem k_76b {a b : Int32} {sb : Nat} (hsb : sb < 3) (hb3 : b - b / 3 * 3 = nI sb) {P : ae_S × ae_O → Prop} (hx : ∀ x2 x3 : Int32, hG ra (d + 1) 76 σ [some (.int a), some (.int b), some (.int x2), some (.int x3)] [] 66 P) : ∀ (j : Nat) (x2 : Int32), hG ra (d + 1) 76 σ [some (.int a), some (.int b), some (.int x2), some (.int (nI j))] [] 43 P := by
  intro j
  induction j with
  | zero =>
    intro x2
    refine h_st rfl rfl ?_
    refine h_st rfl rfl ?_
    refine h_ci1 rfl (Nat.le_of_ble_eq_true rfl) rfl rfl (k_77) (fun σ' y hb => ?_)
    obtain ⟨rfl, rfl⟩ := hb
    refine h_st rfl rfl ?_
    refine h_pc (if_pos (decide_eq_true (by rw [hb3]; exact nI_le (Nat.zero_le _) (by omega)))) ?_
    exact hx _ _
  | succ j ih =>
    intro x2
    refine h_st rfl rfl ?_
    refine h_st rfl rfl ?_
    refine h_ci1 rfl (Nat.le_of_ble_eq_true rfl) rfl rfl (k_77) (fun σ' y hb => ?_)
    obtain ⟨rfl, rfl⟩ := hb
    refine h_st rfl rfl ?_
    refine h_br (fun _ => hx _ _) (fun _ => ?_)
    refine h_st rfl rfl ?_
    refine h_st rfl rfl ?_
    refine h_st rfl rfl ?_
    refine h_st rfl rfl ?_
    refine h_st rfl rfl ?_
    refine h_st rfl rfl ?_
    refine h_st rfl rfl ?_
    refine h_st rfl rfl ?_
    refine h_st rfl rfl ?_
    refine h_st rfl rfl ?_
    have e := pk_m1 j
    have ih1 := ih
    simp only [← e] at ih1
    exact ih1 _
theorem k_76 {i j : Nat} (hi : i < 4) (hj : j < 4) : hE ra (d + 2) 76 [.int (nI i), .int (nI j)] σ (pI (fun σ' _ => σ' = σ)) := by
  have hb3 : nI j - nI j / 3 * 3 = nI (j % 3) := pk_rem (a := j) (d := 3) (by omega) (by decide) (by decide)
  have ha3 : nI i - nI i / 3 * 3 = nI (i % 3) := pk_rem (a := i) (d := 3) (by omega) (by decide) (by decide)
  have hj3 : j % 3 < 3 := Nat.mod_lt _ (by decide)
  have hi3 : i % 3 < 3 := Nat.mod_lt _ (by decide)
  refine h_in rfl rfl (Nat.le_of_ble_eq_true rfl) ?_
  refine h_st rfl rfl ?_
  refine h_st rfl rfl ?_
  refine h_st rfl rfl ?_
  refine h_st rfl rfl ?_
  refine h_st rfl rfl ?_
  refine h_st rfl rfl ?_
  refine h_st rfl rfl ?_
  refine h_st rfl rfl ?_
  refine h_st rfl rfl ?_
  refine h_st rfl rfl ?_
  refine h_st rfl rfl ?_
  refine h_ci1 rfl (Nat.le_of_ble_eq_true rfl) rfl rfl (k_77) (fun σ' y hb => ?_)
  obtain ⟨rfl, rfl⟩ := hb
  rw [ha3]
  refine h_st rfl rfl ?_
  refine k_76a hj3 hb3 (fun x2 x3 => ?_) (3 - i % 3) (i % 3) _ (by omega)
  refine h_st rfl rfl ?_
  refine h_ci1 rfl (Nat.le_of_ble_eq_true rfl) rfl rfl (k_77) (fun σ' y hb => ?_)
  obtain ⟨rfl, rfl⟩ := hb
  rw [ha3]
  refine h_st rfl rfl ?_
  refine k_76b hj3 hb3 (fun x2 x3 => ?_) (i % 3) _
  refine h_st rfl rfl ?_
  exact h_rt rfl rfl (⟨_, _, rfl, rfl⟩)
variable {σ0 : ae_S} {c : Nat × Nat} {p N N0 : Nat} {fs : List Value}
theorem St.dr {e : Nat} {T : List (Nat × ae_C)} {x : Nat × ae_C} (h : St σ0 e σ c N (T ++ [x])) : St σ0 e σ c N T := h.sub (fun q hq => List.mem_append_left _ hq)
theorem t_pk {mid pc np : Nat} {e : Nat} {T : List (Nat × ae_C)} {L : ae_Ls} {k : List Value} {P : ae_S × ae_O → Prop} {ci kk n : Nat} {ok : Value → Bool} {v : Value} (i : Nat) (ht : ae_tab (at0 mid) pc = some (.inl (o_put ci kk ok np))) (h : St σ0 e σ c N T) (hi : T[i]? = some (p, .inr (ci, fs))) (hd : ap p T i) (hv : ok v = true) (hln : fs.length = n) (hl : kk < n)
    (hc : ∀ σ' (fs' : List Value), fs'.length = n → (∀ q, kk ≠ q → fs'[q]? = fs[q]?) → fs'[kk]? = some v → St σ0 e σ' c N (T.set i (p, .inr (ci, fs'))) → hG ra d mid σ' L k np P) : hG ra d mid σ L (v :: .ref p :: k) pc P := t_put i ht h hi hd hv (hln ▸ hl) (fun σ' hs => hc σ' (fs.set kk v) (by rw [List.length_set]; exact hln) (fun q hq => List.getElem?_set_ne hq) (by rw [List.getElem?_set_self (hln ▸ hl)]) hs)
theorem q3a {x y cb j : Nat} (h1 : x ≤ y + 12 + 1008) (h2 : y ≤ cb + 1020 * j) : x ≤ cb + 1020 * (j + 1) := by
  rw [Nat.mul_succ, ← Nat.add_assoc]
  exact Nat.le_trans h1 (Nat.le_trans (Nat.le_of_eq (Nat.add_assoc y 12 1008)) (Nat.add_le_add_right h2 (12 + 1008)))
theorem St.gen {e ci n : Nat} {T : List (Nat × ae_C)} {N1 N2 N3 : Nat} (h : St σ0 e σ c N ((p, .inr (ci, fs)) :: T)) (hn : fs.length = n) (h7 : fs[7]? = some (.ref N1)) (h8 : fs[8]? = some (.ref N2)) (h9 : fs[9]? = some (.ref N3)) : ∃ fs' : List Value, fs'.length = n ∧ fs'[7]? = some (.ref N1) ∧ fs'[8]? = some (.ref N2) ∧ fs'[9]? = some (.ref N3) ∧ St σ0 e σ c N ((p, .inr (ci, fs')) :: T) := ⟨fs, hn, h7, h8, h9, h⟩
def T83 (p N0 : Nat) (fs : List Value) (f0 : Nat → Option Nat) (f1 : Nat → Int32) (f2 : Nat → Option Nat) : List (Nat × ae_C) := [(p, .inr (4, fs)), (N0, .inl (7, 4, .inr (.inr (.inr (.inr f0))))), (N0 + 1, .inl (0, 2, .inl f1)), (N0 + 2, .inl (8, 8, .inr (.inr (.inr (.inr f2)))))]
theorem k_83a {i : Nat} {l g m t f z : Int32} (h7 : fs[7]? = some (.ref N0)) (h5 : fs[5]? = some (.int z)) (hz : k_bool (.int z) = true) (hp : p < N0) (hi : i < 4) {f1 : Nat → Int32} {f2 : Nat → Option Nat} {ca cb : Nat} {P : ae_S × ae_O → Prop} (hx : ∀ σ c N f0 (x7 : Int32), St σ0 p σ c N (T83 p N0 fs f0 f1 f2) → N0 + 3 ≤ N → c.1 ≤ ca + 20 → c.2 ≤ cb + 4080 → hG ra (d + 2) 83 σ [some (.ref p), some (.int l), some (.int (nI i)), some (.int g), some (.int m), some (.int t), some (.int f), some (.int x7), some (.int (nI 4))] [] 167 P) : ∀ (m' j : Nat) (σ : ae_S) (c : Nat × Nat) (N : Nat) (f0 : Nat → Option Nat) (x7 : Int32), j + m' = 4 → St σ0 p σ c N (T83 p N0 fs f0 f1 f2) → N0 + 3 ≤ N → c.1 ≤ ca + 5 * j → c.2 ≤ cb + 1020 * j → hG ra (d + 2) 83 σ [some (.ref p), some (.int l), some (.int (nI i)), some (.int g), some (.int m), some (.int t), some (.int f), some (.int x7), some (.int (nI j))] [] 112 P := by
  intro m'
  induction m' with
  | zero =>
    intro j σ c N f0 x7 hj hs hN hc1 hc2
    have hj : j = 4 := by omega
    subst hj
    refine h_st rfl rfl ?_
    refine h_st rfl rfl ?_
    refine h_st rfl rfl ?_
    refine h_pc (if_pos (decide_eq_true (nI_le (Nat.le_refl 4) (by decide)))) ?_
    exact hx _ _ _ _ _ hs hN hc1 hc2
  | succ m' ih =>
    intro j σ c N f0 x7 hjm hs hN hc1 hc2
    have hj : j < 4 := by omega
    have ih1 := fun σ c N f0 x7 h1 h2 h3 h4 => ih (j + 1) σ c N f0 x7 (by omega) h1 h2 h3 h4
    simp only [← nI_1] at ih1
    refine h_st rfl rfl ?_
    refine h_st rfl rfl ?_
    refine h_st rfl rfl ?_
    refine h_pc (if_neg (fun z9 => (nI_ge hj (by decide)) (of_decide_eq_true z9))) ?_
    refine h_st rfl rfl ?_
    refine h_st rfl rfl ?_
    refine h_st rfl rfl ?_
    refine h_st rfl rfl ?_
    refine h_st rfl rfl ?_
    refine h_st rfl rfl ?_
    refine h_br (fun _ => ?_) (fun _ => ?_)
    · refine h_st rfl rfl ?_
      refine h_st rfl rfl ?_
      exact ih1 _ _ _ _ _ hs hN (by omega) (by omega)
    · refine h_st rfl rfl ?_
      refine h_st rfl rfl ?_
      refine h_st rfl rfl ?_
      refine h_ci2 rfl (Nat.le_of_ble_eq_true rfl) rfl rfl (k_76 hi hj) (fun σ' y hb => ?_)
      subst hb
      refine h_st rfl rfl ?_
      refine h_st rfl rfl ?_
      refine h_st rfl rfl ?_
      refine h_st rfl (e_get (hs.at 0 rfl) h7) ?_
      refine h_st rfl rfl ?_
      refine t_new rfl hs (fun σ hs2 => ?_)
      replace hs := hs2
      clear hs2
      refine h_st rfl rfl ?_
      refine h_st rfl rfl ?_
      refine h_st rfl (e_get (hs.at 0 rfl) h5) ?_
      refine h_st rfl rfl ?_
      refine h_st rfl rfl ?_
      refine h_st rfl rfl ?_
      refine h_cv3 rfl (Nat.le_of_ble_eq_true rfl) (e_rcv (hs.at 4 rfl)) rfl (k_84 hz (hs.at 4 rfl)) (fun σ2 hk => ?_)
      obtain ⟨c2, N2, fs2, hs2, hd1, hd2⟩ := hk
      have hN2 := hs2.2.2.1
      rw [hs.2.1] at hN2
      rw [hs.1] at hd1 hd2
      simp only at hd1 hd2
      replace hs := hs.call (i := 4) rfl (And.intro (by first | omega | (dsimp only; omega)) (And.intro (by first | omega | (dsimp only; omega)) (And.intro (by first | omega | (dsimp only; omega)) (And.intro (by first | omega | (dsimp only; omega)) trivial)))) hs2
      refine t_aas 1 rfl hs rfl (And.intro (by first | omega | (dsimp only; omega)) (And.intro (by first | omega | (dsimp only; omega)) (And.intro (by first | omega | (dsimp only; omega)) (And.intro (by first | omega | (dsimp only; omega)) trivial)))) (hs.at 4 rfl) (by decide) (nI_in hj (by decide)) (fun σ f hs2 => ?_)
      replace hs := hs2
      clear hs2
      refine h_st rfl rfl ?_
      refine h_st rfl rfl ?_
      have q1 : N0 + 3 ≤ N2 := by omega
      have q2 : c2.1 ≤ ca + 5 * (j + 1) := by omega
      have q3 : c2.2 ≤ cb + 1020 * (j + 1) := q3a hd2 hc2
      exact ih1 _ _ _ _ _ (St.dr (T := T83 p N0 fs _ f1 f2) (x := (_, .inr (5, fs2))) hs) q1 q2 q3
theorem k_83b {i : Nat} {l g m t f : Int32} (h9 : fs[9]? = some (.ref (N0 + 2))) (hp : p < N0) {f0 : Nat → Option Nat} {f1 : Nat → Int32} {ca cb : Nat} {x7 : Int32} {P : ae_S × ae_O → Prop} (hx : ∀ σ c N f2, St σ0 p σ c N (T83 p N0 fs f0 f1 f2) → N0 + 3 ≤ N → c.1 ≤ ca + 8 → c.2 ≤ cb + 48 → hG ra (d + 2) 83 σ [some (.ref p), some (.int l), some (.int (nI i)), some (.int g), some (.int m), some (.int t), some (.int f), some (.int x7), some (.int (nI 8))] [] 203 P) : ∀ (m' j : Nat) (σ : ae_S) (c : Nat × Nat) (N : Nat) (f2 : Nat → Option Nat), j + m' = 8 → St σ0 p σ c N (T83 p N0 fs f0 f1 f2) → N0 + 3 ≤ N → c.1 ≤ ca + j → c.2 ≤ cb + 6 * j → hG ra (d + 2) 83 σ [some (.ref p), some (.int l), some (.int (nI i)), some (.int g), some (.int m), some (.int t), some (.int f), some (.int x7), some (.int (nI j))] [] 176 P := by
  intro m'
  induction m' with
  | zero =>
    intro j σ c N f2 hj hs hN hc1 hc2
    have hj : j = 8 := by omega
    subst hj
    refine h_st rfl rfl ?_
    refine h_st rfl rfl ?_
    refine h_st rfl rfl ?_
    refine h_pc (if_pos (decide_eq_true (nI_le (Nat.le_refl 8) (by decide)))) ?_
    exact hx _ _ _ _ hs hN hc1 hc2
  | succ m' ih =>
    intro j σ c N f2 hjm hs hN hc1 hc2
    have hj : j < 8 := by omega
    have ih1 := fun σ c N f2 h1 h2 h3 h4 => ih (j + 1) σ c N f2 (by omega) h1 h2 h3 h4
    simp only [← nI_1] at ih1
    refine h_st rfl rfl ?_
    refine h_st rfl rfl ?_
    refine h_st rfl rfl ?_
    refine h_pc (if_neg (fun z9 => (nI_ge hj (by decide)) (of_decide_eq_true z9))) ?_
    refine h_st rfl rfl ?_
    refine h_st rfl (e_get (hs.at 0 rfl) h9) ?_
    refine h_st rfl rfl ?_
    refine t_new rfl hs (fun σ hs2 => ?_)
    replace hs := hs2
    clear hs2
    refine h_st rfl rfl ?_
    refine h_cv1 rfl (Nat.le_of_ble_eq_true rfl) (e_rcv (hs.at 4 rfl)) rfl (k_85 (hs.at 4 rfl)) (fun σ2 hk => ?_)
    obtain ⟨c2, N2, fs2, hs2, hd1, hd2⟩ := hk
    have hN2 := hs2.2.2.1
    rw [hs.2.1] at hN2
    rw [hs.1] at hd1 hd2
    simp only at hd1 hd2
    replace hs := hs.call (i := 4) rfl (And.intro (by first | omega | (dsimp only; omega)) (And.intro (by first | omega | (dsimp only; omega)) (And.intro (by first | omega | (dsimp only; omega)) (And.intro (by first | omega | (dsimp only; omega)) trivial)))) hs2
    refine t_aas 3 rfl hs rfl (And.intro (by first | omega | (dsimp only; omega)) (And.intro (by first | omega | (dsimp only; omega)) (And.intro (by first | omega | (dsimp only; omega)) (And.intro (by first | omega | (dsimp only; omega)) trivial)))) (hs.at 4 rfl) (by decide) (nI_in hj (by decide)) (fun σ f hs2 => ?_)
    replace hs := hs2
    clear hs2
    refine h_st rfl rfl ?_
    refine h_st rfl rfl ?_
    exact ih1 _ _ _ _ (St.dr (T := T83 p N0 fs f0 f1 _) (x := (_, .inr (1, fs2))) hs) (by omega) (by omega) (by omega)
theorem k_83c {i : Nat} {l g m t f x7 : Int32} (h8 : fs[8]? = some (.ref (N0 + 1))) (hp : p < N0) {f0 f2 : Nat → Option Nat} {P : ae_S × ae_O → Prop} (hx : ∀ σ f1, St σ0 p σ c N (T83 p N0 fs f0 f1 f2) → hG ra (d + 2) 83 σ [some (.ref p), some (.int l), some (.int (nI i)), some (.int g), some (.int m), some (.int t), some (.int f), some (.int x7), some (.int (nI 2))] [] 232 P) : ∀ (m' j : Nat) (σ : ae_S) (f1 : Nat → Int32), j + m' = 2 → St σ0 p σ c N (T83 p N0 fs f0 f1 f2) → hG ra (d + 2) 83 σ [some (.ref p), some (.int l), some (.int (nI i)), some (.int g), some (.int m), some (.int t), some (.int f), some (.int x7), some (.int (nI j))] [] 206 P := by
  intro m'
  induction m' with
  | zero =>
    intro j σ f1 hj hs
    have hj : j = 2 := by omega
    subst hj
    refine h_st rfl rfl ?_
    refine h_st rfl rfl ?_
    refine h_st rfl rfl ?_
    refine h_pc (if_pos (decide_eq_true (nI_le (Nat.le_refl 2) (by decide)))) ?_
    exact hx _ _ hs
  | succ m' ih =>
    intro j σ f1 hjm hs
    have hj : j < 2 := by omega
    have ih1 := fun σ f1 h1 => ih (j + 1) σ f1 (by omega) h1
    simp only [← nI_1] at ih1
    refine h_st rfl rfl ?_
    refine h_st rfl rfl ?_
    refine h_st rfl rfl ?_
    refine h_pc (if_neg (fun z9 => (nI_ge hj (by decide)) (of_decide_eq_true z9))) ?_
    refine h_st rfl rfl ?_
    refine h_st rfl (e_get (hs.at 0 rfl) h8) ?_
    refine h_st rfl rfl ?_
    refine h_st rfl rfl ?_
    refine h_st rfl rfl ?_
    refine h_st rfl rfl ?_
    refine h_st rfl rfl ?_
    refine h_st rfl rfl ?_
    refine t_ias 2 rfl hs rfl (And.intro (by first | omega | (dsimp only; omega)) (And.intro (by first | omega | (dsimp only; omega)) (And.intro (by first | omega | (dsimp only; omega)) trivial))) (nI_in hj (by decide)) (fun σ f hs2 => ?_)
    replace hs := hs2
    clear hs2
    refine h_st rfl rfl ?_
    refine h_st rfl rfl ?_
    exact ih1 _ _ hs
theorem k_83r {i : Nat} {l g m t f z : Int32} (h7 : fs[7]? = some (.ref N0)) (h5 : fs[5]? = some (.int z)) (hz : k_bool (.int z) = true) (hp : p < N0) (hi : i < 4) (h8 : fs[8]? = some (.ref (N0 + 1))) (h9 : fs[9]? = some (.ref (N0 + 2))) (hln : fs.length = 15) {f0 f2 : Nat → Option Nat} {f1 : Nat → Int32} {x7 x8 : Option Value} (hs : St σ0 p σ c N (T83 p N0 fs f0 f1 f2)) (hN : N0 + 3 ≤ N) (hc1 : c.1 ≤ σ0.1.1 + 3) (hc2 : c.2 ≤ σ0.1.2 + 14) : hG ra (d + 2) 83 σ [some (.ref p), some (.int l), some (.int (nI i)), some (.int g), some (.int m), some (.int t), some (.int f), x7, x8] [] 106 (pV (Mk σ0 p 4 31 4142)) := by
  refine h_st rfl rfl ?_
  refine h_st rfl rfl ?_
  refine h_st rfl rfl ?_
  refine h_st rfl rfl ?_
  refine k_83a h7 h5 hz hp hi (ca := σ0.1.1 + 3) (cb := σ0.1.2 + 14) (fun σ c N f0 x7 hs hN hc1 hc2 => ?_) 4 0 _ _ _ _ _ rfl hs hN hc1 hc2
  refine h_st rfl rfl ?_
  refine h_st rfl rfl ?_
  refine t_put 0 rfl hs rfl (And.intro (by first | omega | (dsimp only; omega)) (And.intro (by first | omega | (dsimp only; omega)) (And.intro (by first | omega | (dsimp only; omega)) trivial))) (rfl) (by omega) (fun σ hs2 => ?_)
  replace hs := hs2
  clear hs2
  refine h_st rfl rfl ?_
  refine h_st rfl rfl ?_
  have g8 : (fs.set 6 (.int x7))[8]? = some (.ref (N0 + 1)) := (List.getElem?_set_ne (by decide)).trans h8
  have g9 : (fs.set 6 (.int x7))[9]? = some (.ref (N0 + 2)) := (List.getElem?_set_ne (by decide)).trans h9
  refine k_83b g9 hp (ca := σ0.1.1 + 23) (cb := σ0.1.2 + 4094) (fun σ c N f2 hs hN hc1 hc2 => ?_) 8 0 _ _ _ _ rfl hs hN (by omega) (by omega)
  refine h_st rfl rfl ?_
  refine h_st rfl rfl ?_
  refine k_83c g8 hp (fun σ f1 hs => ?_) 2 0 _ _ rfl hs
  exact h_rv rfl (⟨_, rfl, _, _, _, hs.one 0 rfl, by omega, by omega⟩)
theorem k_83 {i : Nat} {l g m t f : Int32} (hi : i < 4) (hp : σ.2[p]? = some (.inr (4, cd_Link))) : hE ra (d + 3) 83 [.ref p, .int l, .int (nI i), .int g, .int m, .int t, .int f] σ (pV (Mk σ p 4 31 4142)) := by
  have hplt := (List.getElem?_eq_some_iff.mp hp).1
  have hs := St.ini hp
  refine h_in rfl rfl (Nat.le_of_ble_eq_true rfl) ?_
  refine h_st rfl rfl ?_
  refine h_st rfl rfl ?_
  refine h_st rfl rfl ?_
  refine h_st rfl rfl ?_
  refine t_nq rfl hs (by decide) (fun σ hs2 => ?_)
  replace hs := hs2
  clear hs2
  refine t_put 0 rfl hs rfl (And.intro (by first | omega | (dsimp only; omega)) trivial) (rfl) (Nat.le_of_ble_eq_true rfl) (fun σ hs2 => ?_)
  replace hs := hs2
  clear hs2
  refine h_st rfl rfl ?_
  refine h_st rfl rfl ?_
  refine t_na rfl hs (by decide) (fun σ hs2 => ?_)
  replace hs := hs2
  clear hs2
  refine t_put 0 rfl hs rfl (And.intro (by first | omega | (dsimp only; omega)) (And.intro (by first | omega | (dsimp only; omega)) trivial)) (rfl) (Nat.le_of_ble_eq_true rfl) (fun σ hs2 => ?_)
  replace hs := hs2
  clear hs2
  refine h_st rfl rfl ?_
  refine h_st rfl rfl ?_
  refine t_nq rfl hs (by decide) (fun σ hs2 => ?_)
  replace hs := hs2
  clear hs2
  refine t_put 0 rfl hs rfl (And.intro (by first | omega | (dsimp only; omega)) (And.intro (by first | omega | (dsimp only; omega)) (And.intro (by first | omega | (dsimp only; omega)) trivial))) (rfl) (Nat.le_of_ble_eq_true rfl) (fun σ hs2 => ?_)
  replace hs := hs2
  clear hs2
  obtain ⟨fs, hln, h7, h8, h9, hs⟩ := St.gen hs rfl rfl rfl rfl
  refine h_st rfl rfl ?_
  refine h_st rfl rfl ?_
  refine t_pk 0 rfl hs rfl (And.intro (by first | omega | (dsimp only; omega)) (And.intro (by first | omega | (dsimp only; omega)) (And.intro (by first | omega | (dsimp only; omega)) trivial))) (rfl) hln (Nat.le_of_ble_eq_true rfl) (fun σ fs hln2 hk hv hs2 => ?_)
  replace h7 := (hk 7 (by decide)).trans h7
  replace h8 := (hk 8 (by decide)).trans h8
  replace h9 := (hk 9 (by decide)).trans h9
  clear hk hv
  replace hln := hln2
  clear hln2
  replace hs : St _ _ _ _ _ [_, _, _, _] := hs2
  clear hs2
  refine h_st rfl rfl ?_
  refine h_st rfl rfl ?_
  refine t_pk 0 rfl hs rfl (And.intro (by first | omega | (dsimp only; omega)) (And.intro (by first | omega | (dsimp only; omega)) (And.intro (by first | omega | (dsimp only; omega)) trivial))) (rfl) hln (Nat.le_of_ble_eq_true rfl) (fun σ fs hln2 hk hv hs2 => ?_)
  replace h7 := (hk 7 (by decide)).trans h7
  replace h8 := (hk 8 (by decide)).trans h8
  replace h9 := (hk 9 (by decide)).trans h9
  clear hk hv
  replace hln := hln2
  clear hln2
  replace hs : St _ _ _ _ _ [_, _, _, _] := hs2
  clear hs2
  refine h_st rfl rfl ?_
  refine h_st rfl rfl ?_
  refine t_pk 0 rfl hs rfl (And.intro (by first | omega | (dsimp only; omega)) (And.intro (by first | omega | (dsimp only; omega)) (And.intro (by first | omega | (dsimp only; omega)) trivial))) (rfl) hln (Nat.le_of_ble_eq_true rfl) (fun σ fs hln2 hk hv hs2 => ?_)
  replace h7 := (hk 7 (by decide)).trans h7
  replace h8 := (hk 8 (by decide)).trans h8
  replace h9 := (hk 9 (by decide)).trans h9
  clear hk hv
  replace hln := hln2
  clear hln2
  replace hs : St _ _ _ _ _ [_, _, _, _] := hs2
  clear hs2
  refine h_st rfl rfl ?_
  refine h_st rfl rfl ?_
  refine t_pk 0 rfl hs rfl (And.intro (by first | omega | (dsimp only; omega)) (And.intro (by first | omega | (dsimp only; omega)) (And.intro (by first | omega | (dsimp only; omega)) trivial))) (rfl) hln (Nat.le_of_ble_eq_true rfl) (fun σ fs hln2 hk hv hs2 => ?_)
  replace h7 := (hk 7 (by decide)).trans h7
  replace h8 := (hk 8 (by decide)).trans h8
  replace h9 := (hk 9 (by decide)).trans h9
  clear hk hv
  replace hln := hln2
  clear hln2
  replace hs : St _ _ _ _ _ [_, _, _, _] := hs2
  clear hs2
  refine h_st rfl rfl ?_
  refine h_st rfl rfl ?_
  refine t_pk 0 rfl hs rfl (And.intro (by first | omega | (dsimp only; omega)) (And.intro (by first | omega | (dsimp only; omega)) (And.intro (by first | omega | (dsimp only; omega)) trivial))) (rfl) hln (Nat.le_of_ble_eq_true rfl) (fun σ fs hln2 hk hv hs2 => ?_)
  replace h7 := (hk 7 (by decide)).trans h7
  replace h8 := (hk 8 (by decide)).trans h8
  replace h9 := (hk 9 (by decide)).trans h9
  clear hk hv
  replace hln := hln2
  clear hln2
  replace hs : St _ _ _ _ _ [_, _, _, _] := hs2
  clear hs2
  refine h_st rfl rfl ?_
  refine h_st rfl rfl ?_
  refine t_pk 0 rfl hs rfl (And.intro (by first | omega | (dsimp only; omega)) (And.intro (by first | omega | (dsimp only; omega)) (And.intro (by first | omega | (dsimp only; omega)) trivial))) (rfl) hln (Nat.le_of_ble_eq_true rfl) (fun σ fs hln2 hk hv hs2 => ?_)
  replace h7 := (hk 7 (by decide)).trans h7
  replace h8 := (hk 8 (by decide)).trans h8
  replace h9 := (hk 9 (by decide)).trans h9
  clear hk hv
  replace hln := hln2
  clear hln2
  replace hs : St _ _ _ _ _ [_, _, _, _] := hs2
  clear hs2
  refine h_st rfl rfl ?_
  refine h_st rfl rfl ?_
  refine t_pk 0 rfl hs rfl (And.intro (by first | omega | (dsimp only; omega)) (And.intro (by first | omega | (dsimp only; omega)) (And.intro (by first | omega | (dsimp only; omega)) trivial))) (rfl) hln (Nat.le_of_ble_eq_true rfl) (fun σ fs hln2 hk hv hs2 => ?_)
  replace h7 := (hk 7 (by decide)).trans h7
  replace h8 := (hk 8 (by decide)).trans h8
  replace h9 := (hk 9 (by decide)).trans h9
  clear hk hv
  replace hln := hln2
  clear hln2
  replace hs : St _ _ _ _ _ [_, _, _, _] := hs2
  clear hs2
  refine h_st rfl rfl ?_
  refine h_st rfl rfl ?_
  refine t_pk 0 rfl hs rfl (And.intro (by first | omega | (dsimp only; omega)) (And.intro (by first | omega | (dsimp only; omega)) (And.intro (by first | omega | (dsimp only; omega)) trivial))) (rfl) hln (Nat.le_of_ble_eq_true rfl) (fun σ fs hln2 hk hv hs2 => ?_)
  replace h7 := (hk 7 (by decide)).trans h7
  replace h8 := (hk 8 (by decide)).trans h8
  replace h9 := (hk 9 (by decide)).trans h9
  clear hk hv
  replace hln := hln2
  clear hln2
  replace hs : St _ _ _ _ _ [_, _, _, _] := hs2
  clear hs2
  refine h_st rfl rfl ?_
  refine h_st rfl rfl ?_
  refine t_pk 0 rfl hs rfl (And.intro (by first | omega | (dsimp only; omega)) (And.intro (by first | omega | (dsimp only; omega)) (And.intro (by first | omega | (dsimp only; omega)) trivial))) (rfl) hln (Nat.le_of_ble_eq_true rfl) (fun σ fs hln2 hk hv hs2 => ?_)
  replace h7 := (hk 7 (by decide)).trans h7
  replace h8 := (hk 8 (by decide)).trans h8
  replace h9 := (hk 9 (by decide)).trans h9
  clear hk hv
  replace hln := hln2
  clear hln2
  replace hs : St _ _ _ _ _ [_, _, _, _] := hs2
  clear hs2
  refine h_st rfl rfl ?_
  refine h_st rfl rfl ?_
  refine h_st rfl rfl ?_
  refine h_st rfl rfl ?_
  refine h_st rfl rfl ?_
  refine h_br (fun hb1 => ?_) (fun hb1 => ?_)
  · refine h_st rfl rfl ?_
    refine t_pk 0 rfl hs rfl (And.intro (by first | omega | (dsimp only; omega)) (And.intro (by first | omega | (dsimp only; omega)) (And.intro (by first | omega | (dsimp only; omega)) trivial))) (rfl) hln (Nat.le_of_ble_eq_true rfl) (fun σ fs hln2 hk hv hs2 => ?_)
    replace h7 := (hk 7 (by decide)).trans h7
    replace h8 := (hk 8 (by decide)).trans h8
    replace h9 := (hk 9 (by decide)).trans h9
    clear hk hv
    replace hln := hln2
    clear hln2
    replace hs : St _ _ _ _ _ [_, _, _, _] := hs2
    clear hs2
    refine h_st rfl rfl ?_
    refine h_st rfl rfl ?_
    refine h_st rfl rfl ?_
    refine h_st rfl rfl ?_
    refine h_st rfl rfl ?_
    refine h_br (fun hb2 => ?_) (fun hb2 => ?_)
    · refine h_st rfl rfl ?_
      refine t_pk 0 rfl hs rfl (And.intro (by first | omega | (dsimp only; omega)) (And.intro (by first | omega | (dsimp only; omega)) (And.intro (by first | omega | (dsimp only; omega)) trivial))) (rfl) hln (Nat.le_of_ble_eq_true rfl) (fun σ fs hln2 hk hv hs2 => ?_)
      replace h7 := (hk 7 (by decide)).trans h7
      replace h8 := (hk 8 (by decide)).trans h8
      replace h9 := (hk 9 (by decide)).trans h9
      have h5 := hv
      clear hk hv
      replace hln := hln2
      clear hln2
      replace hs : St _ _ _ _ _ [_, _, _, _] := hs2
      clear hs2
      exact k_83r h7 h5 rfl hplt hi h8 h9 hln hs (Nat.le_refl _) (Nat.le_refl _) (Nat.le_refl _)
    · refine h_st rfl rfl ?_
      refine h_st rfl rfl ?_
      refine t_pk 0 rfl hs rfl (And.intro (by first | omega | (dsimp only; omega)) (And.intro (by first | omega | (dsimp only; omega)) (And.intro (by first | omega | (dsimp only; omega)) trivial))) (rfl) hln (Nat.le_of_ble_eq_true rfl) (fun σ fs hln2 hk hv hs2 => ?_)
      replace h7 := (hk 7 (by decide)).trans h7
      replace h8 := (hk 8 (by decide)).trans h8
      replace h9 := (hk 9 (by decide)).trans h9
      have h5 := hv
      clear hk hv
      replace hln := hln2
      clear hln2
      replace hs : St _ _ _ _ _ [_, _, _, _] := hs2
      clear hs2
      exact k_83r h7 h5 rfl hplt hi h8 h9 hln hs (Nat.le_refl _) (Nat.le_refl _) (Nat.le_refl _)
  · refine h_st rfl rfl ?_
    refine h_st rfl rfl ?_
    refine t_pk 0 rfl hs rfl (And.intro (by first | omega | (dsimp only; omega)) (And.intro (by first | omega | (dsimp only; omega)) (And.intro (by first | omega | (dsimp only; omega)) trivial))) (rfl) hln (Nat.le_of_ble_eq_true rfl) (fun σ fs hln2 hk hv hs2 => ?_)
    replace h7 := (hk 7 (by decide)).trans h7
    replace h8 := (hk 8 (by decide)).trans h8
    replace h9 := (hk 9 (by decide)).trans h9
    clear hk hv
    replace hln := hln2
    clear hln2
    replace hs : St _ _ _ _ _ [_, _, _, _] := hs2
    clear hs2
    refine h_st rfl rfl ?_
    refine h_st rfl rfl ?_
    refine h_st rfl rfl ?_
    refine h_st rfl rfl ?_
    refine h_st rfl rfl ?_
    refine h_br (fun hb2 => ?_) (fun hb2 => ?_)
    · refine h_st rfl rfl ?_
      refine t_pk 0 rfl hs rfl (And.intro (by first | omega | (dsimp only; omega)) (And.intro (by first | omega | (dsimp only; omega)) (And.intro (by first | omega | (dsimp only; omega)) trivial))) (rfl) hln (Nat.le_of_ble_eq_true rfl) (fun σ fs hln2 hk hv hs2 => ?_)
      replace h7 := (hk 7 (by decide)).trans h7
      replace h8 := (hk 8 (by decide)).trans h8
      replace h9 := (hk 9 (by decide)).trans h9
      have h5 := hv
      clear hk hv
      replace hln := hln2
      clear hln2
      replace hs : St _ _ _ _ _ [_, _, _, _] := hs2
      clear hs2
      exact k_83r h7 h5 rfl hplt hi h8 h9 hln hs (Nat.le_refl _) (Nat.le_refl _) (Nat.le_refl _)
    · refine h_st rfl rfl ?_
      refine h_st rfl rfl ?_
      refine t_pk 0 rfl hs rfl (And.intro (by first | omega | (dsimp only; omega)) (And.intro (by first | omega | (dsimp only; omega)) (And.intro (by first | omega | (dsimp only; omega)) trivial))) (rfl) hln (Nat.le_of_ble_eq_true rfl) (fun σ fs hln2 hk hv hs2 => ?_)
      replace h7 := (hk 7 (by decide)).trans h7
      replace h8 := (hk 8 (by decide)).trans h8
      replace h9 := (hk 9 (by decide)).trans h9
      have h5 := hv
      clear hk hv
      replace hln := hln2
      clear hln2
      replace hs : St _ _ _ _ _ [_, _, _, _] := hs2
      clear hs2
      exact k_83r h7 h5 rfl hplt hi h8 h9 hln hs (Nat.le_refl _) (Nat.le_refl _) (Nat.le_refl _)
end SP6
