section SX23
variable {ra : ae_R} {d : Nat} {σ σ0 σ1 σ2 σ' : ae_S} {w w0 w1 w2 : Nat → Nat} {C C' : Nat → Prop} {l q p : Nat} {f : Nat → Option Nat} {a : AN} {k : AK}
def k0 (i : Nat) (g : Int32) (mo : Nat) (hv qv t6 : Int32) : AK := ((i, g, mo, hv, qv, pths i t6 4, t6), ([], 0, 0, 0), fun _ => nI mo * (g + 64))
def NL (σ : ae_S) (p l : Nat) (k : AK) (t6 qv sk : Int32) (w : Nat → Nat) (σ' : ae_S) : Prop := σ.2.length ≤ σ'.2.length ∧ ∃ (w' : Nat → Nat) (po ac wa : Nat) (pf : Nat → Option Nat), LK σ' w' l p k po ac wa 0 (-1) ∧ σ'.2[po]? = some (.inl (7, rfs 4 pf)) ∧ (∀ e, e < 4 → ((t6 >>> (nI e &&& 31)) &&& 1 = 0 → pf e = none) ∧ (¬ (t6 >>> (nI e &&& 31)) &&& 1 = 0 → ∃ r, pf e = some r ∧ PT σ' w' (lb l + 20 + 40 * e) r (P0 qv sk))) ∧ ∀ q, q < σ.2.length → q ≠ p → σ'.2[q]? = σ.2[q]? ∧ w' q = w q
set_option maxRecDepth 8192 in
theorem c_83rz {i N mo N3 : Nat} {c : Nat × Nat} {g t6 f6 hv qv : Int32} {f1 : Nat → Int32} {x7 x8 : Option Value} (hi : i < 4) (hmo : 64 ≤ mo ∧ mo ≤ 128) (hqv : qv = 0 ∨ qv = 1) (hp : σ.2[p]? = some (.inr (4, cd_Link))) (hN : σ.2.length = N) (hN3 : N3 = N + 3) (hs : St σ p σ1 c N3 [(p, .inr (4, [.int (nI l), .int (nI i), .int g, .int (nI mo), .int hv, .int qv, .int 0, .ref N, .ref (N + 1), .ref (N + 1 + 1), .int 0, .int 0, .int 0, .int (-1), .int 0])), (N, .inl (7, rfs 4 (fun _ => none))), (N + 1, .inl (0, 2, .inl f1)), (N + 1 + 1, .inl (8, rfs 8 (fun _ => none)))]) : hG ra (d + 2) 83 σ1 [some (.ref p), some (.int (nI l)), some (.int (nI i)), some (.int g), some (.int (nI mo)), some (.int t6), some (.int f6), x7, x8] [] 106 (pV (NL σ p l (k0 i g mo hv qv t6) t6 qv (f6 >>> ((2 : Int32) &&& 31)) w)) := by
  have hplt := (List.getElem?_eq_some_iff.mp hp).1
  let w1 : Nat → Nat := fun q => if q = p then lb l else if q = N then lb l + 1 else if q = N + 1 then lb l + 2 else if q = N + 1 + 1 then lb l + 3 else w q
  have e0 : w1 p = lb l := if_pos rfl
  have e1 : w1 N = lb l + 1 := by show (if _ then _ else if _ then _ else _) = _; rw [if_neg (by omega), if_pos rfl]
  have e2 : w1 (N + 1) = lb l + 2 := by show (if _ then _ else if _ then _ else if _ then _ else _) = _; rw [if_neg (by omega), if_neg (by omega), if_pos rfl]
  have e3 : w1 (N + 1 + 1) = lb l + 3 := by show (if _ then _ else if _ then _ else if _ then _ else if _ then _ else _) = _; rw [if_neg (by omega), if_neg (by omega), if_neg (by omega), if_pos rfl]
  have e4 : ∀ q, q < N → q ≠ p → w1 q = w q := fun q h1 h2 => by show (if _ then _ else if _ then _ else if _ then _ else if _ then _ else _) = _; rw [if_neg h2, if_neg (by omega), if_neg (by omega), if_neg (by omega)]
  have hM : MK σ1 w1 σ w p N (lb l) := ⟨⟨e0, e1, e2, e3⟩, fun q h1 h2 => ⟨hs.2.2.2.2 q (by omega) h2, e4 q h1 h2⟩, by rw [hs.2.1]; omega, by omega⟩
  refine h_st rfl rfl ?_
  refine h_st rfl rfl ?_
  refine h_st rfl rfl ?_
  refine h_st rfl rfl ?_
  refine c_83az (σx := σ) (wx := w) (f6 := f6) (t6 := t6) hi hqv (fun σ2 w2 hM2 hk2 hac2 f02 hpo2 hpf2 hwn2 => ?_) 4 0 _ w1 rfl hM (hs.at 0 rfl) ⟨_, hs.at 2 rfl⟩ _ (hs.at 1 rfl) (fun e _ => ⟨fun h => absurd h (Nat.not_lt_zero _), fun _ => rfl⟩) (hs.at 3 rfl)
  have hN2 := hM2.2.2.1
  have s3 := Sa.set (σ := σ2) (w := w2) (p := p) (y := .inr (4, [.int (nI l), .int (nI i), .int g, .int (nI mo), .int hv, .int qv, .int (pths i t6 4), .ref N, .ref (N + 1), .ref (N + 1 + 1), .int 0, .int 0, .int 0, .int (-1), .int 0]))
  rw [hM2.1.1] at s3
  have hM3 : MK (σ2.1, σ2.2.set p (.inr (4, [.int (nI l), .int (nI i), .int g, .int (nI mo), .int hv, .int qv, .int (pths i t6 4), .ref N, .ref (N + 1), .ref (N + 1 + 1), .int 0, .int 0, .int 0, .int (-1), .int 0]))) w2 σ w p N (lb l) := hM2.sa (by rw [List.length_set]; exact Nat.le_refl _) (fun q hq => by by_cases c : q = p; exact Or.inl (Or.inl c); exact Or.inr (st_ne (Ne.symm c))) (fun _ _ => rfl)
  refine h_st rfl rfl ?_
  refine h_st rfl rfl ?_
  refine h_st rfl (e_put hk2 rfl (Nat.le_of_ble_eq_true rfl)) ?_
  refine h_st rfl rfl ?_
  refine h_st rfl rfl ?_
  refine c_83bz (σx := σ) (wx := w) (f6 := f6) (t6 := t6) (pa := pths i t6 4) (fun σ4 w4 hM4 hk4 hac4 f04 hpo4 hpf4 f24 hwn4 hwf4 => ?_) 8 0 _ w2 rfl hM3 (st_get hk2) (hac2.elim (fun fa z => ⟨fa, (st_ne (by omega)).trans z⟩)) f02 ((st_ne (by omega)).trans hpo2) (fun e he => ⟨((hpf2 e he).1 he).1, fun z => (((hpf2 e he).1 he).2 z).elim (fun r hr => ⟨r, hr.1, hr.2.sa s3 (fun c y => by unfold PC at y; omega)⟩)⟩) _ ((st_ne (by omega)).trans hwn2) (fun e h => absurd h (Nat.not_lt_zero _))
  obtain ⟨fa4, hfa4⟩ := hac4
  have hN4 := hM4.2.2.1
  refine h_st rfl rfl ?_
  refine h_st rfl rfl ?_
  refine c_83cz (σ := σ4) (t6 := t6) (f6 := f6) (cb := 0) (pa := pths i t6 4) hk4 (by omega) (fun σ6 fa hfa hfe hlen ho => ?_) 2 0 _ fa4 rfl hfa4 (fun e h => absurd h (Nat.not_lt_zero _)) rfl (fun _ _ => rfl)
  have s6 : Sa (fun c => c = lb l + 2) σ4 w4 σ6 w4 := ⟨by omega, fun q _ hn => ⟨ho q (fun e => hn (by rw [e]; exact hM4.1.2.2.1)), rfl⟩⟩
  have hlenx : σ.2.length ≤ σ6.2.length := by omega
  refine h_rv rfl ⟨_, rfl, hlenx, w4, N, N + 1, N + 1 + 1, f04, ⟨hM4.1, (ho p (by omega)).trans hk4, ⟨hi, hmo, by decide, Nat.zero_le _⟩, rfl, ⟨fa, hfa, hfe.1, hfe.2⟩, f24, (ho _ (by omega)).trans hwn4, fun j hj => ?_, fun j x hx => absurd (show ([] : List AG)[j]? = some x from hx) (by simp)⟩, (ho N (by omega)).trans hpo4, fun e he => ⟨(hpf4 e he).1, fun z => ?_⟩, fun q h1 h2 => ?_⟩
  · obtain ⟨r, hr1, hr2, hr3⟩ := hwf4 j hj
    exact ⟨r, _, _, _, _, _, _, hr1, hr2, s6.at hr3 (by omega)⟩
  · obtain ⟨r, hr1, hr2⟩ := (hpf4 e he).2 z
    exact ⟨r, hr1, hr2.sa s6 (fun c y => by unfold PC at y; omega)⟩
  · obtain ⟨z1, z2⟩ := hM4.2.1 q (by omega) h2
    exact ⟨(ho q (by omega)).trans z1, z2⟩
theorem c_83z {i mo : Nat} {m g t6 f6 l9 : Int32} (hm : m = nI mo) (hl9 : l9 = nI l) (hi : i < 4) (hmo : 64 ≤ mo ∧ mo ≤ 128) (hp : σ.2[p]? = some (.inr (4, cd_Link))) : hE ra (d + 3) 83 [.ref p, .int l9, .int (nI i), .int g, .int m, .int t6, .int f6] σ (pV (NL σ p l (k0 i g mo (if f6 &&& 1 = 0 then 0 else 1) (if f6 &&& 2 = 0 then 0 else 1) t6) t6 (if f6 &&& 2 = 0 then 0 else 1) (f6 >>> ((2 : Int32) &&& 31)) w)) := by
  subst hm
  subst hl9
  have hplt := (List.getElem?_eq_some_iff.mp hp).1
  have hs := St.ini hp
  refine h_in rfl rfl (Nat.le_of_ble_eq_true rfl) ?_
  refine h_st rfl rfl ?_
  refine h_st rfl rfl ?_
  refine h_st rfl rfl ?_
  refine h_st rfl rfl ?_
  refine t_nqN (n := 4) rfl hs (by decide) (by decide) (fun σ hs2 => ?_)
  replace hs := hs2
  clear hs2
  try dsimp only [List.set, List.cons_append, List.nil_append, cd_Link] at hs
  refine t_put 0 rfl hs rfl (And.intro (by first | omega | (dsimp only; omega)) trivial) (rfl) (Nat.le_of_ble_eq_true rfl) (fun σ hs2 => ?_)
  replace hs := hs2
  clear hs2
  try dsimp only [List.set, List.cons_append, List.nil_append, cd_Link] at hs
  refine h_st rfl rfl ?_
  refine h_st rfl rfl ?_
  refine t_naN (n := 2) rfl hs (by decide) (by decide) (fun σ hs2 => ?_)
  replace hs := hs2
  clear hs2
  try dsimp only [List.set, List.cons_append, List.nil_append, cd_Link] at hs
  refine t_put 0 rfl hs rfl (And.intro (by first | omega | (dsimp only; omega)) (And.intro (by first | omega | (dsimp only; omega)) trivial)) (rfl) (Nat.le_of_ble_eq_true rfl) (fun σ hs2 => ?_)
  replace hs := hs2
  clear hs2
  try dsimp only [List.set, List.cons_append, List.nil_append, cd_Link] at hs
  refine h_st rfl rfl ?_
  refine h_st rfl rfl ?_
  refine t_nqN (n := 8) rfl hs (by decide) (by decide) (fun σ hs2 => ?_)
  replace hs := hs2
  clear hs2
  try dsimp only [List.set, List.cons_append, List.nil_append, cd_Link] at hs
  refine t_put 0 rfl hs rfl (And.intro (by first | omega | (dsimp only; omega)) (And.intro (by first | omega | (dsimp only; omega)) (And.intro (by first | omega | (dsimp only; omega)) trivial))) (rfl) (Nat.le_of_ble_eq_true rfl) (fun σ hs2 => ?_)
  replace hs := hs2
  clear hs2
  try dsimp only [List.set, List.cons_append, List.nil_append, cd_Link] at hs
  refine h_st rfl rfl ?_
  refine h_st rfl rfl ?_
  refine t_put 0 rfl hs rfl (And.intro (by first | omega | (dsimp only; omega)) (And.intro (by first | omega | (dsimp only; omega)) (And.intro (by first | omega | (dsimp only; omega)) trivial))) (rfl) (Nat.le_of_ble_eq_true rfl) (fun σ hs2 => ?_)
  replace hs := hs2
  clear hs2
  try dsimp only [List.set, List.cons_append, List.nil_append, cd_Link] at hs
  refine h_st rfl rfl ?_
  refine h_st rfl rfl ?_
  refine t_put 0 rfl hs rfl (And.intro (by first | omega | (dsimp only; omega)) (And.intro (by first | omega | (dsimp only; omega)) (And.intro (by first | omega | (dsimp only; omega)) trivial))) (rfl) (Nat.le_of_ble_eq_true rfl) (fun σ hs2 => ?_)
  replace hs := hs2
  clear hs2
  try dsimp only [List.set, List.cons_append, List.nil_append, cd_Link] at hs
  refine h_st rfl rfl ?_
  refine h_st rfl rfl ?_
  refine t_put 0 rfl hs rfl (And.intro (by first | omega | (dsimp only; omega)) (And.intro (by first | omega | (dsimp only; omega)) (And.intro (by first | omega | (dsimp only; omega)) trivial))) (rfl) (Nat.le_of_ble_eq_true rfl) (fun σ hs2 => ?_)
  replace hs := hs2
  clear hs2
  try dsimp only [List.set, List.cons_append, List.nil_append, cd_Link] at hs
  refine h_st rfl rfl ?_
  refine h_st rfl rfl ?_
  refine t_put 0 rfl hs rfl (And.intro (by first | omega | (dsimp only; omega)) (And.intro (by first | omega | (dsimp only; omega)) (And.intro (by first | omega | (dsimp only; omega)) trivial))) (rfl) (Nat.le_of_ble_eq_true rfl) (fun σ hs2 => ?_)
  replace hs := hs2
  clear hs2
  try dsimp only [List.set, List.cons_append, List.nil_append, cd_Link] at hs
  refine h_st rfl rfl ?_
  refine h_st rfl rfl ?_
  refine t_put 0 rfl hs rfl (And.intro (by first | omega | (dsimp only; omega)) (And.intro (by first | omega | (dsimp only; omega)) (And.intro (by first | omega | (dsimp only; omega)) trivial))) (rfl) (Nat.le_of_ble_eq_true rfl) (fun σ hs2 => ?_)
  replace hs := hs2
  clear hs2
  try dsimp only [List.set, List.cons_append, List.nil_append, cd_Link] at hs
  refine h_st rfl rfl ?_
  refine h_st rfl rfl ?_
  refine t_put 0 rfl hs rfl (And.intro (by first | omega | (dsimp only; omega)) (And.intro (by first | omega | (dsimp only; omega)) (And.intro (by first | omega | (dsimp only; omega)) trivial))) (rfl) (Nat.le_of_ble_eq_true rfl) (fun σ hs2 => ?_)
  replace hs := hs2
  clear hs2
  try dsimp only [List.set, List.cons_append, List.nil_append, cd_Link] at hs
  refine h_st rfl rfl ?_
  refine h_st rfl rfl ?_
  refine t_put 0 rfl hs rfl (And.intro (by first | omega | (dsimp only; omega)) (And.intro (by first | omega | (dsimp only; omega)) (And.intro (by first | omega | (dsimp only; omega)) trivial))) (rfl) (Nat.le_of_ble_eq_true rfl) (fun σ hs2 => ?_)
  replace hs := hs2
  clear hs2
  try dsimp only [List.set, List.cons_append, List.nil_append, cd_Link] at hs
  refine h_st rfl rfl ?_
  refine h_st rfl rfl ?_
  refine t_put 0 rfl hs rfl (And.intro (by first | omega | (dsimp only; omega)) (And.intro (by first | omega | (dsimp only; omega)) (And.intro (by first | omega | (dsimp only; omega)) trivial))) (rfl) (Nat.le_of_ble_eq_true rfl) (fun σ hs2 => ?_)
  replace hs := hs2
  clear hs2
  try dsimp only [List.set, List.cons_append, List.nil_append, cd_Link] at hs
  refine h_st rfl rfl ?_
  refine h_st rfl rfl ?_
  refine t_put 0 rfl hs rfl (And.intro (by first | omega | (dsimp only; omega)) (And.intro (by first | omega | (dsimp only; omega)) (And.intro (by first | omega | (dsimp only; omega)) trivial))) (rfl) (Nat.le_of_ble_eq_true rfl) (fun σ hs2 => ?_)
  replace hs := hs2
  clear hs2
  try dsimp only [List.set, List.cons_append, List.nil_append, cd_Link] at hs
  refine h_st rfl rfl ?_
  refine h_st rfl rfl ?_
  refine h_st rfl rfl ?_
  refine h_st rfl rfl ?_
  refine h_st rfl rfl ?_
  refine h_br (fun hb1 => ?_) (fun hb1 => ?_)
  · refine h_st rfl rfl ?_
    refine t_put 0 rfl hs rfl (And.intro (by first | omega | (dsimp only; omega)) (And.intro (by first | omega | (dsimp only; omega)) (And.intro (by first | omega | (dsimp only; omega)) trivial))) (rfl) (Nat.le_of_ble_eq_true rfl) (fun σ hs2 => ?_)
    replace hs := hs2
    clear hs2
    try dsimp only [List.set, List.cons_append, List.nil_append, cd_Link] at hs
    refine h_st rfl rfl ?_
    refine h_st rfl rfl ?_
    refine h_st rfl rfl ?_
    refine h_st rfl rfl ?_
    refine h_st rfl rfl ?_
    refine h_br (fun hb2 => ?_) (fun hb2 => ?_)
    · refine h_st rfl rfl ?_
      refine t_put 0 rfl hs rfl (And.intro (by first | omega | (dsimp only; omega)) (And.intro (by first | omega | (dsimp only; omega)) (And.intro (by first | omega | (dsimp only; omega)) trivial))) (rfl) (Nat.le_of_ble_eq_true rfl) (fun σ hs2 => ?_)
      replace hs := hs2
      clear hs2
      try dsimp only [List.set, List.cons_append, List.nil_append, cd_Link] at hs
      exact (by rw [show (if f6 &&& 1 = 0 then (0 : Int32) else 1) = 0 from if_pos hb1, show (if f6 &&& 2 = 0 then (0 : Int32) else 1) = 0 from if_pos hb2]; exact c_83rz hi hmo (by decide) hp rfl rfl hs)
    · refine h_st rfl rfl ?_
      refine h_st rfl rfl ?_
      refine t_put 0 rfl hs rfl (And.intro (by first | omega | (dsimp only; omega)) (And.intro (by first | omega | (dsimp only; omega)) (And.intro (by first | omega | (dsimp only; omega)) trivial))) (rfl) (Nat.le_of_ble_eq_true rfl) (fun σ hs2 => ?_)
      replace hs := hs2
      clear hs2
      try dsimp only [List.set, List.cons_append, List.nil_append, cd_Link] at hs
      exact (by rw [show (if f6 &&& 1 = 0 then (0 : Int32) else 1) = 0 from if_pos hb1, show (if f6 &&& 2 = 0 then (0 : Int32) else 1) = 1 from if_neg hb2]; exact c_83rz hi hmo (by decide) hp rfl rfl hs)
  · refine h_st rfl rfl ?_
    refine h_st rfl rfl ?_
    refine t_put 0 rfl hs rfl (And.intro (by first | omega | (dsimp only; omega)) (And.intro (by first | omega | (dsimp only; omega)) (And.intro (by first | omega | (dsimp only; omega)) trivial))) (rfl) (Nat.le_of_ble_eq_true rfl) (fun σ hs2 => ?_)
    replace hs := hs2
    clear hs2
    try dsimp only [List.set, List.cons_append, List.nil_append, cd_Link] at hs
    refine h_st rfl rfl ?_
    refine h_st rfl rfl ?_
    refine h_st rfl rfl ?_
    refine h_st rfl rfl ?_
    refine h_st rfl rfl ?_
    refine h_br (fun hb2 => ?_) (fun hb2 => ?_)
    · refine h_st rfl rfl ?_
      refine t_put 0 rfl hs rfl (And.intro (by first | omega | (dsimp only; omega)) (And.intro (by first | omega | (dsimp only; omega)) (And.intro (by first | omega | (dsimp only; omega)) trivial))) (rfl) (Nat.le_of_ble_eq_true rfl) (fun σ hs2 => ?_)
      replace hs := hs2
      clear hs2
      try dsimp only [List.set, List.cons_append, List.nil_append, cd_Link] at hs
      exact (by rw [show (if f6 &&& 1 = 0 then (0 : Int32) else 1) = 1 from if_neg hb1, show (if f6 &&& 2 = 0 then (0 : Int32) else 1) = 0 from if_pos hb2]; exact c_83rz hi hmo (by decide) hp rfl rfl hs)
    · refine h_st rfl rfl ?_
      refine h_st rfl rfl ?_
      refine t_put 0 rfl hs rfl (And.intro (by first | omega | (dsimp only; omega)) (And.intro (by first | omega | (dsimp only; omega)) (And.intro (by first | omega | (dsimp only; omega)) trivial))) (rfl) (Nat.le_of_ble_eq_true rfl) (fun σ hs2 => ?_)
      replace hs := hs2
      clear hs2
      try dsimp only [List.set, List.cons_append, List.nil_append, cd_Link] at hs
      exact (by rw [show (if f6 &&& 1 = 0 then (0 : Int32) else 1) = 1 from if_neg hb1, show (if f6 &&& 2 = 0 then (0 : Int32) else 1) = 1 from if_neg hb2]; exact c_83rz hi hmo (by decide) hp rfl rfl hs)
/-- a link is set up -/
def adl (a : AN) (l : Nat) (k : AK) (t6 qv sk : Int32) : AN := (nT a, updK (nK a) l k, nL a, fun l' e => if l' = l then (if (t6 >>> (nI e &&& 31)) &&& 1 = 0 then none else some (P0 qv sk)) else nP a l' e)
theorem CN.new {q : Nat} {t6 qv sk : Int32} (h : CN σ w f a) (hl : l < 8) (hsq : rg (dsq k) 256) (hN : NL σ0 q l k t6 qv sk w σ1) (h0 : σ.2.length = q) (h01 : σ0.2.length = q + 1) (hold : ∀ u, u < q → σ0.2[u]? = σ.2[u]?) (hq : ∃ y, σ1.2[q]? = some (.inr (4, y))) : CN (σ1.1, σ1.2.set 1 (.inl (4, rfs 8 (va_up f l (some q))))) hN.2.choose (va_up f l (some q)) (adl a l k t6 qv sk) := by
  obtain ⟨hlen, hex⟩ := hN
  show CN _ hex.choose _ _
  obtain ⟨po, ac, wa, pf, hL, hpo, hpf, hsame⟩ := hex.choose_spec
  generalize hex.choose = w' at hL hpf hsame
  obtain ⟨h1, h2, h3, h4, ⟨h5, h6⟩, h7⟩ := h
  have s1 : Sa (fun _ => False) σ w σ1 w' := ⟨by omega, fun u hu _ => ⟨((hsame u (by omega) (by omega)).1).trans (hold u (by omega)), (hsame u (by omega) (by omega)).2⟩⟩
  have F : ¬ False := id
  have s2 := Sa.set (σ := σ1) (w := w') (p := 1) (y := .inl (4, rfs 8 (va_up f l (some q))))
  have e1 : w' 1 = 2405 := (s1.wt h5 F).trans h6
  rw [e1] at s2
  have wpo := hL.1.2.1
  have hlb : 3000 ≤ lb l := by unfold lb; omega
  refine ⟨(h1.sa s1 F F F).sa s2 (by omega) (by omega) (by omega), (h2.sa s1 F F).sa s2 (by omega) (by omega), (h3.sa s1 F F).sa s2 (by omega) (by omega), fun j hj => ((h4 j hj).sa s1 (fun _ _ => F)).sa s2 (fun c z => by unfold LC at z; omega), ⟨st_get (s1.at h5 F), e1⟩, fun j hj => ?_⟩
  by_cases c : j = l
  · subst c
    refine ⟨fun z => ?_, fun k' hk' => ?_⟩
    · have : updK (nK a) j k j = none := z
      rw [updK_s] at this
      cases this
    · have : updK (nK a) j k j = some k' := hk'
      rw [updK_s] at this
      cases this
      refine ⟨q, po, ac, wa, 0, -1, pf, by simp [va_up], hL.sa s2 (fun c z1 z2 => by omega) rfl, s2.at hpo (by omega), hsq, fun e he => ?_⟩
      have ee : nP (adl a j k t6 qv sk) j e = (if (t6 >>> (nI e &&& 31)) &&& 1 = 0 then none else some (P0 qv sk)) := if_pos rfl
      rw [ee]
      by_cases cb : (t6 >>> (nI e &&& 31)) &&& 1 = 0
      · rw [if_pos cb]
        exact ⟨fun _ => (hpf e he).1 cb, fun p z => by cases z⟩
      · rw [if_neg cb]
        refine ⟨fun z => (by cases z), fun p z => ?_⟩
        cases z
        obtain ⟨r, hr1, hr2⟩ := (hpf e he).2 cb
        exact ⟨r, hr1, hr2.sa s2 (fun c z => by unfold PC at z; omega)⟩
  · have h8 := ((h7 j hj).sa s1 (fun _ _ _ => F)).sa s2 (fun c z1 z2 => by unfold lb at z1; omega)
    refine ⟨fun z => ?_, fun k' hk' => ?_⟩
    · have z' : nK a j = none := (updK_n (K := nK a) (k := k) c).symm.trans z
      rw [show va_up f l (some q) j = f j by simp [va_up, c]]
      exact h8.1 z'
    · have hk2 : nK a j = some k' := (updK_n (K := nK a) (k := k) c).symm.trans hk'
      obtain ⟨q', po', ac', wa', fi', se', pf', y1, y2⟩ := h8.2 k' hk2
      refine ⟨q', po', ac', wa', fi', se', pf', by rw [show va_up f l (some q) j = f j by simp [va_up, c]]; exact y1, ?_⟩
      have ep : nP (adl a l k t6 qv sk) j = nP a j := by
        funext e
        exact if_neg c
      rw [ep]
      exact y2
theorem c_80N (h : CN σ w f a) (l9 so ga mo ta fl : Int32) : hE ra (d + 6) 80 [.ref 0, .int l9, .int so, .int ga, .int mo, .int ta, .int fl] σ (fun r => (r = (((σ.1.1 + 1, σ.1.2 + 6), σ.2), .inr 0) ∧ ¬ okL l9 so ga mo ta fl) ∨ (r = (((σ.1.1 + 1, σ.1.2 + 6), σ.2), .inr 1) ∧ okL l9 so ga mo ta fl ∧ ∃ l k, l < 8 ∧ l9 = nI l ∧ nK a l = some k) ∨ ∃ σ' w' f' l i m, r = (σ', .inl none) ∧ okL l9 so ga mo ta fl ∧ l < 8 ∧ i < 4 ∧ l9 = nI l ∧ so = nI i ∧ mo = nI m ∧ (64 ≤ m ∧ m ≤ 128) ∧ nK a l = none ∧ CN σ' w' f' (adl a l (k0 i ((1 : Int32) <<< (ga &&& 31)) m (if fl &&& 1 = 0 then 0 else 1) (if fl &&& 2 = 0 then 0 else 1) ta) ta (if fl &&& 2 = 0 then 0 else 1) (fl >>> ((2 : Int32) &&& 31)))) := by
  have h0 := h.1.1.1
  obtain ⟨hA, wA⟩ := h.2.2.2.2.1
  refine h_in rfl rfl (Nat.le_of_ble_eq_true rfl) ?_
  refine h_st rfl rfl ?_
  refine h_ci1 rfl (Nat.le_of_ble_eq_true rfl) rfl rfl (s_38 l9) (fun σ' y1 hy1 => ?_)
  obtain ⟨rfl, hy1⟩ := hy1
  refine h_st rfl rfl ?_
  refine h_br (fun q1 => ?_) (fun q1 => ?_)
  · exact h_th rfl (Nat.le_add_left _ _) (Nat.le_of_ble_eq_true rfl) (Or.inl ⟨rfl, fun z => hy1.elim (fun y => absurd (y.1.symm.trans q1) (by decide)) (fun y => y.2 ⟨z.1, z.2.1⟩)⟩)
  · refine h_st rfl rfl ?_
    refine h_ci1 rfl (Nat.le_of_ble_eq_true rfl) rfl rfl (s_40 so) (fun σ' y2 hy2 => ?_)
    obtain ⟨rfl, hy2⟩ := hy2
    refine h_st rfl rfl ?_
    refine h_br (fun q2 => ?_) (fun q2 => ?_)
    · exact h_th rfl (Nat.le_add_left _ _) (Nat.le_of_ble_eq_true rfl) (Or.inl ⟨rfl, fun z => hy2.elim (fun y => absurd (y.1.symm.trans q2) (by decide)) (fun y => y.2 ⟨z.2.2.1, z.2.2.2.1⟩)⟩)
    · refine h_st rfl rfl ?_
      refine h_st rfl rfl ?_
      refine h_st rfl rfl ?_
      refine h_br (fun q3 => ?_) (fun q3 => ?_)
      · exact h_th rfl (Nat.le_add_left _ _) (Nat.le_of_ble_eq_true rfl) (Or.inl ⟨rfl, fun z => z.2.2.2.2.1 q3⟩)
      · refine h_st rfl rfl ?_
        refine h_st rfl rfl ?_
        refine h_st rfl rfl ?_
        refine h_br (fun q4 => ?_) (fun q4 => ?_)
        · exact h_th rfl (Nat.le_add_left _ _) (Nat.le_of_ble_eq_true rfl) (Or.inl ⟨rfl, fun z => z.2.2.2.2.2.1 q4⟩)
        · refine h_st rfl rfl ?_
          refine h_st rfl rfl ?_
          refine h_st rfl rfl ?_
          refine h_br (fun q5 => ?_) (fun q5 => ?_)
          · exact h_th rfl (Nat.le_add_left _ _) (Nat.le_of_ble_eq_true rfl) (Or.inl ⟨rfl, fun z => z.2.2.2.2.2.2.1 q5⟩)
          · refine h_st rfl rfl ?_
            refine h_st rfl rfl ?_
            refine h_st rfl rfl ?_
            refine h_br (fun q6 => ?_) (fun q6 => ?_)
            · exact h_th rfl (Nat.le_add_left _ _) (Nat.le_of_ble_eq_true rfl) (Or.inl ⟨rfl, fun z => z.2.2.2.2.2.2.2.1 q6⟩)
            · refine h_st rfl rfl ?_
              refine h_st rfl rfl ?_
              refine h_ci2 rfl (Nat.le_of_ble_eq_true rfl) rfl rfl (s_81 ta so) (fun σ' y3 hy3 => ?_)
              obtain ⟨rfl, hy3⟩ := hy3
              refine h_st rfl rfl ?_
              refine h_br (fun q7 => ?_) (fun q7 => ?_)
              · exact h_th rfl (Nat.le_add_left _ _) (Nat.le_of_ble_eq_true rfl) (Or.inl ⟨rfl, fun z => hy3.elim (fun y => absurd (y.1.symm.trans q7) (by decide)) (fun y => y.2 z.2.2.2.2.2.2.2.2.1)⟩)
              · refine h_st rfl rfl ?_
                refine h_ci1 rfl (Nat.le_of_ble_eq_true rfl) rfl rfl (s_82 fl) (fun σ' y4 hy4 => ?_)
                obtain ⟨rfl, hy4⟩ := hy4
                refine h_st rfl rfl ?_
                refine h_br (fun q8 => ?_) (fun q8 => ?_)
                · have hok : okL l9 so ga mo ta fl := ⟨(b_2 hy1 q1).1, (b_2 hy1 q1).2, (b_2 hy2 q2).1, (b_2 hy2 q2).2, q3, q4, q5, q6, b_2 hy3 q7, b_2 hy4 q8⟩
                  obtain ⟨l, hl, rfl⟩ := i_ix (n := 8) (x := l9) (by decide) hok.1 hok.2.1
                  obtain ⟨i, hi, rfl⟩ := i_ix (n := 4) (x := so) (by decide) hok.2.2.1 hok.2.2.2.1
                  obtain ⟨m, hm, rfl⟩ := nI_of2 (x := mo) (M := 128) (n := 128) (by decide) (fun z => q5 (Int32.lt_trans z (by decide))) (Int32.not_lt.mp q6)
                  have hm64 : 64 ≤ m := Nat.le_of_not_lt (fun z => q5 (nI_lt (b := 64) z (by decide)))
                  have hin : ¬ (nI l < 0 ∨ 8 ≤ (nI l).toNatClampNeg) := nI_in hl (by decide)
                  have ej : (nI l).toNatClampNeg = l := nI_clamp (by omega)
                  refine h_st rfl rfl ?_
                  refine h_st rfl (e_get h0 rfl) ?_
                  refine h_st rfl rfl ?_
                  refine h_st rfl ((e_aa hA (by decide) hin).trans (by rw [ej])) ?_
                  cases hk : nK a l with
                  | some k =>
                    obtain ⟨r, _, _, _, _, _, _, e1, _⟩ := (h.2.2.2.2.2 l hl).2 k hk
                    rw [e1]
                    refine h_st rfl rfl ?_
                    exact h_th rfl (Nat.le_add_left _ _) (Nat.le_of_ble_eq_true rfl) (Or.inr (Or.inl ⟨rfl, hok, l, k, hl, rfl, hk⟩))
                  | none =>
                    rw [(h.2.2.2.2.2 l hl).1 hk]
                    refine h_st rfl rfl ?_
                    refine h_st rfl rfl ?_
                    refine h_st rfl (e_get h0 rfl) ?_
                    refine h_st rfl rfl ?_
                    refine h_st rfl rfl ?_
                    refine h_st rfl rfl ?_
                    refine h_st rfl rfl ?_
                    refine h_st rfl rfl ?_
                    refine h_st rfl rfl ?_
                    refine h_st rfl rfl ?_
                    refine h_st rfl rfl ?_
                    refine h_st rfl rfl ?_
                    refine h_st rfl rfl ?_
                    refine h_st rfl rfl ?_
                    have hnew : (((σ'.1.1 + 1, σ'.1.2 + 15), σ'.2 ++ [.inr (4, cd_Link)]) : ae_S).2[σ'.2.length]? = some (.inr (4, cd_Link)) := by simp
                    have hl1 : (((σ'.1.1 + 1, σ'.1.2 + 15), σ'.2 ++ [.inr (4, cd_Link)]) : ae_S).2.length = σ'.2.length + 1 := by simp
                    have hap : ∀ q, q < σ'.2.length → (((σ'.1.1 + 1, σ'.1.2 + 15), σ'.2 ++ [.inr (4, cd_Link)]) : ae_S).2[q]? = σ'.2[q]? := fun q hq => List.getElem?_append_left hq
                    refine h_cv7 rfl (Nat.le_of_ble_eq_true rfl) (e_rcv hnew) rfl (c_83z (w := w) (mo := m) rfl rfl hi ⟨hm64, hm⟩ hnew) (fun σ2 hN => ?_)
                    have hN' := hN
                    obtain ⟨-, w2, po, ac, wa, pf, hL, -, -, hsm⟩ := hN'
                    have h12 := ((hsm 1 (by have := ltc hA; omega) (by have := ltc hA; omega)).1).trans ((hap 1 (ltc hA)).trans hA)
                    refine h_st rfl ((e_aas h12 hL.2.1 (by decide) hin).trans (by rw [ej])) ?_
                    exact h_rv rfl (Or.inr (Or.inr ⟨_, _, _, l, i, m, rfl, hok, hl, hi, rfl, rfl, rfl, ⟨hm64, hm⟩, hk, h.new hl ⟨0, by decide, rfl⟩ hN rfl hl1 hap ⟨_, hL.2.1⟩⟩))
                · exact h_th rfl (Nat.le_add_left _ _) (Nat.le_of_ble_eq_true rfl) (Or.inl ⟨rfl, fun z => hy4.elim (fun y => absurd (y.1.symm.trans (Decidable.of_not_not q8)) (by decide)) (fun y => y.2 z.2.2.2.2.2.2.2.2.2)⟩)
end SX23
