section SX5
variable {ra : ae_R} {d : Nat} {σ σ0 σ1 σ2 : ae_S} {w w0 w1 w2 : Nat → Nat} {C C' : Nat → Prop} {i : Nat} {x y : AF} {pl hl : List AF} {fr : Nat} {b g e hp mk : Int32}
def one (i : Nat) : Int32 := if i % 12 < 4 then 1 else 0
def cp0 (i : Nat) : Nat := if i % 12 < 4 then 16 else 4
def cp1 (i : Nat) : Nat := if i % 12 < 4 then 0 else 4
theorem cp0_le (i : Nat) : cp0 i ≤ 16 := by
  unfold cp0
  split <;> omega
theorem cp1_le (i : Nat) : cp1 i ≤ 4 := by
  unfold cp1
  split <;> omega
/-- the codes of a line -/
def LC (i : Nat) : Nat → Prop := fun c => 100 * i ≤ c ∧ c < 100 * i + 100
def LC0 (i : Nat) (fr : Nat) (b g e hp mk : Int32) : ae_C := .inr (3, [.ref (11 + 7 * i), .ref (13 + 7 * i), .int (one i), .ref fr, .int b, .int g, .int e, .int hp, .int mk])
/-- a line: its rows, its frame, its fields -/
def LW (σ : ae_S) (w : Nat → Nat) (i : Nat) (pl hl : List AF) (fr : Nat) (b g e hp mk : Int32) (x : AF) : Prop := w (8 + 7 * i) = 100 * i ∧ σ.2[8 + 7 * i]? = some (LC0 i fr b g e hp mk) ∧ RW σ w (11 + 7 * i) (12 + 7 * i) (100 * i + 1) (cp0 i) (100 * i + 12) pl ∧ RW σ w (13 + 7 * i) (14 + 7 * i) (100 * i + 3) (cp1 i) (100 * i + 44) hl ∧ Fw σ w fr (100 * i + 10) x
theorem LW.sa (h : LW σ w i pl hl fr b g e hp mk x) (hs : Sa C σ w σ1 w1) (hc : ∀ c, LC i c → ¬ C c) : LW σ1 w1 i pl hl fr b g e hp mk x := by
  obtain ⟨h1, h2, h3, h4, h5⟩ := h
  have b0 := cp0_le i
  have b1 := cp1_le i
  have c1 : ¬ C (w (8 + 7 * i)) := hc _ (by unfold LC; omega)
  exact ⟨(hs.wt h2 c1).trans h1, hs.at h2 c1, h3.sa hs (fun c z => hc c (by unfold RC at z; unfold LC; omega)), h4.sa hs (fun c z => hc c (by unfold RC at z; unfold LC; omega)), h5.sa hs (hc _ (by unfold LC; omega)) (hc _ (by unfold LC; omega))⟩
/-- the line's own cell is set -/
theorem LW.put {fr' : Nat} {b' g' e' hp' mk' : Int32} (h : LW σ w i pl hl fr b g e hp mk x) (hf : fr' = fr) : LW (σ.1, σ.2.set (8 + 7 * i) (LC0 i fr' b' g' e' hp' mk')) w i pl hl fr' b' g' e' hp' mk' x ∧ Sa (LC i) σ w (σ.1, σ.2.set (8 + 7 * i) (LC0 i fr' b' g' e' hp' mk')) w := by
  subst hf
  obtain ⟨h1, h2, h3, h4, h5⟩ := h
  have b0 := cp0_le i
  have b1 := cp1_le i
  have s := Sa.set (σ := σ) (w := w) (p := 8 + 7 * i) (y := LC0 i fr' b' g' e' hp' mk')
  rw [h1] at s
  exact ⟨⟨h1, st_get h2, h3.sa s (fun c z => by unfold RC at z; omega), h4.sa s (fun c z => by unfold RC at z; omega), h5.sa s (by omega) (by omega)⟩, s.mono (fun c z => by unfold LC; omega)⟩
/-- the next frame: of the high row if it has one -/
def tk (pl hl : List AF) : Option AF × List AF × List AF := match hl with
  | y :: t => (some y, pl, t)
  | [] => match pl with
    | y :: t => (some y, t, [])
    | [] => (none, [], [])
/-- a row gives its first frame to the line -/
theorem tk_x {R S cR n c0 : Nat} {l : List AF} {b' : Int32} (h1 : w (8 + 7 * i) = 100 * i) (h2 : σ.2[8 + 7 * i]? = some (LC0 i fr b' g e hp mk)) (hr : RW σ w R S cR n c0 l) (hc : ∀ c, RC cR c0 n c → 100 * i < c ∧ c < 100 * i + 100 ∧ c ≠ 100 * i + 10 ∧ c ≠ 100 * i + 11) (h5 : Fw σ w fr (100 * i + 10) x) {P : ae_S × ae_O → Prop}
    (hx : ∀ (σ' : ae_S) (w' : Nat → Nat) (fr' : Nat) (x' : AF) (t : List AF), ((l = [] ∧ t = [] ∧ fr' = fr ∧ x' = x) ∨ l = x' :: t) → RW σ' w' R S cR n c0 t → Fw σ' w' fr' (100 * i + 10) x' → σ'.2[8 + 7 * i]? = some (LC0 i fr' b' 0 e hp mk) → w' (8 + 7 * i) = 100 * i → Sa (fun c => c = 100 * i ∨ RC cR c0 n c ∨ c = 100 * i + 10 ∨ c = 100 * i + 10 + 1) σ w σ' w' → P (σ', .inl none)) :
    hG ra (d + 1) 60 σ [some (.ref (8 + 7 * i)), some (.ref R)] [] 38 P := by
  have hn1 : ¬ RC cR c0 n (100 * i + 10) := fun z => by have := hc _ z; omega
  have hn2 : ¬ RC cR c0 n (100 * i + 10 + 1) := fun z => by have := hc _ z; omega
  have hn3 : ¬ RC cR c0 n (100 * i) := fun z => by have := hc _ z; omega
  refine h_st rfl rfl ?_
  refine h_st rfl rfl ?_
  refine h_st rfl rfl ?_
  refine h_st rfl (e_get h2 rfl) ?_
  refine h_cr2 rfl (Nat.le_of_ble_eq_true rfl) hr.rcv rfl (c_61x hr h5 hn1 hn2) (fun σ2 q hq => ?_)
  have key : ∃ fr' x' t w', q = some fr' ∧ ((l = [] ∧ t = [] ∧ fr' = fr ∧ x' = x) ∨ l = x' :: t) ∧ RW σ2 w' R S cR n c0 t ∧ Fw σ2 w' fr' (100 * i + 10) x' ∧ Sa (fun c => RC cR c0 n c ∨ c = 100 * i + 10 ∨ c = 100 * i + 10 + 1) σ w σ2 w' := by
    rcases hq with ⟨e1, e2, e3⟩ | ⟨y, t, r, w', e1, e2, e3, e4, e5⟩
    · subst e3
      exact ⟨fr, x, [], w, e2, Or.inl ⟨e1, rfl, rfl, rfl⟩, by rw [← e1]; exact hr, h5, Sa.refl⟩
    · exact ⟨r, y, t, w', e2, Or.inr e1, e3, e4, e5⟩
  obtain ⟨fr', x', t, w', rfl, hl', hr', h5', hs⟩ := key
  have hnn : ¬ (RC cR c0 n (w (8 + 7 * i)) ∨ w (8 + 7 * i) = 100 * i + 10 ∨ w (8 + 7 * i) = 100 * i + 10 + 1) := by
    rw [h1]
    exact fun z => z.elim hn3 (fun z => by omega)
  have h2' := hs.at h2 hnn
  have h1' := (hs.wt h2 hnn).trans h1
  refine h_st rfl (e_put h2' rfl (Nat.le_of_ble_eq_true rfl)) ?_
  refine h_st rfl rfl ?_
  refine h_st rfl rfl ?_
  refine h_st rfl (e_put (st_get h2') rfl (Nat.le_of_ble_eq_true rfl)) ?_
  have s2 : Sa (fun c => c = 100 * i) σ2 w' (σ2.1, (σ2.2.set (8 + 7 * i) (LC0 i fr' b' g e hp mk)).set (8 + 7 * i) (LC0 i fr' b' 0 e hp mk)) w' := ⟨by simp, fun q _ hn => ⟨(st_ne (σ := (σ2.1, σ2.2.set (8 + 7 * i) (LC0 i fr' b' g e hp mk))) (fun e => hn (by rw [← e]; exact h1'))).trans (st_ne (fun e => hn (by rw [← e]; exact h1'))), rfl⟩⟩
  exact h_rv rfl (hx _ w' fr' x' t hl' (hr'.sa s2 (fun c z e => by rw [e] at z; exact hn3 z)) (h5'.sa s2 (by omega) (by omega)) (st_get (σ := (σ2.1, σ2.2.set (8 + 7 * i) (LC0 i fr' b' g e hp mk))) (st_get h2')) h1' ((hs.mono (fun c z => Or.inr z)).trans (s2.mono (fun c z => Or.inl z))))
theorem c_60x (h : LW σ w i pl hl fr b g e hp mk x) : hE ra (d + 2) 60 [.ref (8 + 7 * i)] σ (pV (fun σ' => ∃ w' fr' x' b', LW σ' w' i (tk pl hl).2.1 (tk pl hl).2.2 fr' b' 0 e hp mk x' ∧ (((tk pl hl).1 = none ∧ b' = 0) ∨ ((tk pl hl).1 = some x' ∧ b' = 1)) ∧ Sa (LC i) σ w σ' w')) := by
  obtain ⟨h1, h2, h3, h4, h5⟩ := h
  have b0 := cp0_le i
  have b1 := cp1_le i
  refine h_in rfl rfl (Nat.le_of_ble_eq_true rfl) ?_
  refine h_st rfl rfl ?_
  refine h_st rfl (e_get h2 rfl) ?_
  refine h_ci1 rfl (Nat.le_of_ble_eq_true rfl) (h4.rcv) rfl (c_8x h4) (fun σ' y hy => ?_)
  obtain ⟨rfl, hy⟩ := hy
  refine h_st rfl rfl ?_
  refine h_br (fun q1 => ?_) (fun q1 => ?_)
  · have hne : ¬ hl = [] := hy.elim (fun z => absurd (z.1.symm.trans q1) (by decide)) (fun z => z.2)
    refine h_st rfl rfl ?_
    refine h_st rfl (e_get h2 rfl) ?_
    refine h_st rfl rfl ?_
    refine h_st rfl rfl ?_
    refine h_st rfl rfl ?_
    refine h_ci1 rfl (Nat.le_of_ble_eq_true rfl) (h4.rcv) rfl (c_8x h4) (fun σ' y hy2 => ?_)
    obtain ⟨rfl, hy2⟩ := hy2
    have ey : y = 0 := hy2.elim (fun z => absurd z.2 hne) (fun z => z.1)
    subst ey
    refine h_st rfl rfl ?_
    refine h_pc (if_neg (by decide)) ?_
    refine h_st rfl rfl ?_
    refine h_st rfl rfl ?_
    refine h_st rfl (e_put h2 rfl (Nat.le_of_ble_eq_true rfl)) ?_
    have sN := Sa.set (σ := σ') (w := w) (p := 8 + 7 * i) (y := LC0 i fr 1 g e hp mk)
    rw [h1] at sN
    have u3 := h3.sa sN (fun c z => by unfold RC at z; omega)
    have u4 := h4.sa sN (fun c z => by unfold RC at z; omega)
    have u5 := h5.sa sN (by omega) (by omega)
    have u2 : ((σ'.1, σ'.2.set (8 + 7 * i) (LC0 i fr 1 g e hp mk)) : ae_S).2[8 + 7 * i]? = some (LC0 i fr 1 g e hp mk) := st_get h2
    refine hG_eq (σ1 := (σ'.1, σ'.2.set (8 + 7 * i) (LC0 i fr 1 g e hp mk))) rfl ?_
    refine tk_x h1 u2 u4 (fun c z => by unfold RC at z; omega) u5 (fun σ3 w3 fr3 x3 t hl3 v4 v5 v2 v1 s3 => ?_)
    rcases hl3 with z | z
    · exact absurd z.1 hne
    · have et : tk pl hl = (some x3, pl, t) := by rw [z]; rfl
      rw [et]
      exact ⟨_, rfl, w3, fr3, x3, 1, ⟨v1, v2, u3.sa s3 (fun c z => by unfold RC at z ⊢; omega), v4, v5⟩, Or.inr ⟨rfl, rfl⟩, (sN.mono (fun c z => by unfold LC; omega)).trans (s3.mono (fun c z => by unfold LC; unfold RC at z; omega))⟩
  · have hnl : hl = [] := hy.elim (fun z => z.2) (fun z => absurd z.1 q1)
    refine h_st rfl rfl ?_
    refine h_st rfl (e_get h2 rfl) ?_
    refine h_st rfl rfl ?_
    refine h_st rfl rfl ?_
    refine h_st rfl rfl ?_
    refine h_st rfl rfl ?_
    refine h_ci1 rfl (Nat.le_of_ble_eq_true rfl) (h3.rcv) rfl (c_8x h3) (fun σ' y hy2 => ?_)
    obtain ⟨rfl, hy2⟩ := hy2
    refine h_st rfl rfl ?_
    refine h_br (fun q2 => ?_) (fun q2 => ?_)
    · refine h_st rfl rfl ?_
      refine h_st rfl (e_put h2 rfl (Nat.le_of_ble_eq_true rfl)) ?_
      have sN := Sa.set (σ := σ') (w := w) (p := 8 + 7 * i) (y := LC0 i fr 0 g e hp mk)
      rw [h1] at sN
      have u3 := h3.sa sN (fun c z => by unfold RC at z; omega)
      have u4 := h4.sa sN (fun c z => by unfold RC at z; omega)
      have u5 := h5.sa sN (by omega) (by omega)
      have u2 : ((σ'.1, σ'.2.set (8 + 7 * i) (LC0 i fr 0 g e hp mk)) : ae_S).2[8 + 7 * i]? = some (LC0 i fr 0 g e hp mk) := st_get h2
      refine hG_eq (σ1 := (σ'.1, σ'.2.set (8 + 7 * i) (LC0 i fr 0 g e hp mk))) rfl ?_
      refine tk_x h1 u2 u3 (fun c z => by unfold RC at z; omega) u5 (fun σ3 w3 fr3 x3 t hl3 v4 v5 v2 v1 s3 => ?_)
      have hpn : pl = [] := hy2.elim (fun z => z.2) (fun z => absurd z.1 q2)
      rcases hl3 with z | z
      · have et : tk pl hl = (none, [], []) := by rw [hnl, hpn]; rfl
        rw [et]
        obtain ⟨z1, z2, z3, z4⟩ := z
        subst z2
        have u4' := u4.sa s3 (fun c z => by unfold RC at z ⊢; omega)
        rw [hnl] at u4'
        exact ⟨_, rfl, w3, fr3, x3, 0, ⟨v1, v2, v4, u4', v5⟩, Or.inl ⟨rfl, rfl⟩, (sN.mono (fun c z => by unfold LC; omega)).trans (s3.mono (fun c z => by unfold LC; unfold RC at z; omega))⟩
      · exact absurd (hpn.symm.trans z) (by simp)
    · refine h_st rfl rfl ?_
      refine h_st rfl rfl ?_
      refine h_st rfl (e_put h2 rfl (Nat.le_of_ble_eq_true rfl)) ?_
      have sN := Sa.set (σ := σ') (w := w) (p := 8 + 7 * i) (y := LC0 i fr 1 g e hp mk)
      rw [h1] at sN
      have u3 := h3.sa sN (fun c z => by unfold RC at z; omega)
      have u4 := h4.sa sN (fun c z => by unfold RC at z; omega)
      have u5 := h5.sa sN (by omega) (by omega)
      have u2 : ((σ'.1, σ'.2.set (8 + 7 * i) (LC0 i fr 1 g e hp mk)) : ae_S).2[8 + 7 * i]? = some (LC0 i fr 1 g e hp mk) := st_get h2
      refine hG_eq (σ1 := (σ'.1, σ'.2.set (8 + 7 * i) (LC0 i fr 1 g e hp mk))) rfl ?_
      refine tk_x h1 u2 u3 (fun c z => by unfold RC at z; omega) u5 (fun σ3 w3 fr3 x3 t hl3 v4 v5 v2 v1 s3 => ?_)
      have hpn : ¬ pl = [] := hy2.elim (fun z => absurd (z.1.symm.trans (Decidable.of_not_not q2)) (by decide)) (fun z => z.2)
      rcases hl3 with z | z
      · exact absurd z.1 hpn
      · have et : tk pl hl = (some x3, t, []) := by rw [hnl, z]; rfl
        rw [et]
        have u4' := u4.sa s3 (fun c z => by unfold RC at z ⊢; omega)
        rw [hnl] at u4'
        exact ⟨_, rfl, w3, fr3, x3, 1, ⟨v1, v2, v4, u4', v5⟩, Or.inr ⟨rfl, rfl⟩, (sN.mono (fun c z => by unfold LC; omega)).trans (s3.mono (fun c z => by unfold LC; unfold RC at z; omega))⟩
end SX5
