section SX22
variable {ra : ae_R} {d : Nat} {σ σ0 σ1 σ2 σ' : ae_S} {w w0 w1 w2 : Nat → Nat} {C C' : Nat → Prop} {l q p : Nat} {f : Nat → Option Nat} {a : AN} {k : AK}
theorem t_iasX {mid pc np e N i' : Nat} {c : Nat × Nat} {T : List (Nat × ae_C)} {L : ae_Ls} {k : List Value} {P : ae_S × ae_O → Prop} {n : Nat} {f : Nat → Int32} {j x : Int32} (i : Nat) (ht : ae_tab (at0 mid) pc = some (.inl (o_ias np))) (h : St σ0 e σ c N T) (hi : T[i]? = some (p, .inl (0, n, .inl f))) (hd : ap p T i) (hj : ¬ (j < 0 ∨ n ≤ j.toNatClampNeg))
    (hc : ∀ σ', St σ0 e σ' c N (T.set i (p, .inl (0, n, .inl (upd f j.toNatClampNeg x)))) → hG ra d mid σ' L k np P) : hG ra d mid σ L (.int x :: .int j :: .ref p :: k) pc P := h_st ht (e_ias (h.at i hi) hj) (hc _ (h.set hi hd))
def P0 (z sk : Int32) : AP := ((z, sk), (fun _ => -1), (-1, 0), none, [], 0)
def NP (σ : ae_S) (p : Nat) (z sk : Int32) (σ' : ae_S) : Prop := σ'.2.length = σ.2.length + 4 ∧ (∀ q, q < σ.2.length → q ≠ p → σ'.2[q]? = σ.2[q]?) ∧ ∀ (w : Nat → Nat) (c : Nat), ∃ w' : Nat → Nat, PT σ' w' c p (P0 z sk) ∧ ∀ q, q < σ.2.length → q ≠ p → w' q = w q
theorem c_84g {z sk : Int32} {n N4 : Nat} {c : Nat × Nat} {g : Nat → Int32} (hg : g 0 = -1 ∧ g 1 = -1) (hzn : (z = 1 ∧ n = 4) ∨ (z = 0 ∧ n = 1)) (hp : σ.2[p]? = some (.inr (5, cd_Port)))
    (hs : St σ p σ' c N4 [(p, .inr (5, [.int z, .int sk, .ref σ.2.length, .int (-1), .int 0, .int 0, .int 0, .ref (σ.2.length + 1), .ref (σ.2.length + 1 + 1 + 1), .int 0, .int 0, .int 0])), (σ.2.length, .inl (0, 2, .inl g)), (σ.2.length + 1, .inr (0, [.ref (σ.2.length + 1 + 1), .int 0])), (σ.2.length + 1 + 1, .inl (1, 1000, .inl (fun _ => 0))), (σ.2.length + 1 + 1 + 1, .inl (9, rfs n (fun _ => none)))]) (hN4 : N4 = σ.2.length + 4) : pV (NP σ p z sk) (σ', .inl none) := by
  have hplt := (List.getElem?_eq_some_iff.mp hp).1
  refine ⟨σ', rfl, hs.2.1.trans hN4, hs.2.2.2.2, fun w cc => ⟨fun q => if q = p then cc else if q = σ.2.length then cc + 1 else if q = σ.2.length + 1 + 1 + 1 then cc + 2 else if q = σ.2.length + 1 then cc + 4 else if q = σ.2.length + 1 + 1 then cc + 5 else w q, ⟨σ.2.length, σ.2.length + 1, σ.2.length + 1 + 1 + 1, 0, n, 0, 0, fun _ => none, (0, fun _ => 0), ?_, Or.inl ⟨rfl, rfl⟩⟩, fun q h1 h2 => ?_⟩⟩
  · have e1 : (if σ.2.length = p then cc else if σ.2.length = σ.2.length then cc + 1 else if σ.2.length = σ.2.length + 1 + 1 + 1 then cc + 2 else if σ.2.length = σ.2.length + 1 then cc + 4 else if σ.2.length = σ.2.length + 1 + 1 then cc + 5 else w σ.2.length) = cc + 1 := by rw [if_neg (by omega), if_pos rfl]
    have e2 : (if σ.2.length + 1 + 1 + 1 = p then cc else if σ.2.length + 1 + 1 + 1 = σ.2.length then cc + 1 else if σ.2.length + 1 + 1 + 1 = σ.2.length + 1 + 1 + 1 then cc + 2 else if σ.2.length + 1 + 1 + 1 = σ.2.length + 1 then cc + 4 else if σ.2.length + 1 + 1 + 1 = σ.2.length + 1 + 1 then cc + 5 else w (σ.2.length + 1 + 1 + 1)) = cc + 2 := by rw [if_neg (by omega), if_neg (by omega), if_pos rfl]
    have e3 : (if σ.2.length + 1 = p then cc else if σ.2.length + 1 = σ.2.length then cc + 1 else if σ.2.length + 1 = σ.2.length + 1 + 1 + 1 then cc + 2 else if σ.2.length + 1 = σ.2.length + 1 then cc + 4 else if σ.2.length + 1 = σ.2.length + 1 + 1 then cc + 5 else w (σ.2.length + 1)) = cc + 4 := by rw [if_neg (by omega), if_neg (by omega), if_neg (by omega), if_pos rfl]
    have e4 : (if σ.2.length + 1 + 1 = p then cc else if σ.2.length + 1 + 1 = σ.2.length then cc + 1 else if σ.2.length + 1 + 1 = σ.2.length + 1 + 1 + 1 then cc + 2 else if σ.2.length + 1 + 1 = σ.2.length + 1 then cc + 4 else if σ.2.length + 1 + 1 = σ.2.length + 1 + 1 then cc + 5 else w (σ.2.length + 1 + 1)) = cc + 5 := by rw [if_neg (by omega), if_neg (by omega), if_neg (by omega), if_neg (by omega), if_pos rfl]
    exact ⟨⟨if_pos rfl, e1, e2⟩, hs.at 0 rfl, ⟨hzn, by omega, Nat.zero_le _⟩, ⟨g, hs.at 1 rfl, hg.1, hg.2⟩, hs.at 4 rfl, ⟨e3, σ.2.length + 1 + 1, e4, hs.at 2 rfl, ⟨by omega, by omega⟩, _, hs.at 3 rfl, fun _ _ => by decide, fun _ z => absurd z (Nat.not_lt_zero _)⟩, fun j q _ h => (by cases h), fun j s h => absurd (show ([] : List Nat)[j]? = some s from h) (by simp)⟩
  · show (if q = p then cc else if q = σ.2.length then cc + 1 else if q = σ.2.length + 1 + 1 + 1 then cc + 2 else if q = σ.2.length + 1 then cc + 4 else if q = σ.2.length + 1 + 1 then cc + 5 else w q) = w q
    rw [if_neg h2, if_neg (by omega), if_neg (by omega), if_neg (by omega), if_neg (by omega)]
theorem c_84z {z sk : Int32} (hz : z = 0 ∨ z = 1) (hp : σ.2[p]? = some (.inr (5, cd_Port))) : hE ra (d + 2) 84 [.ref p, .int z, .int sk] σ (pV (NP σ p z sk)) := by
  have hplt := (List.getElem?_eq_some_iff.mp hp).1
  have hs := St.ini hp
  have hzb : k_bool (.int z) = true := by rcases hz with rfl | rfl <;> rfl
  refine h_in rfl rfl (Nat.le_of_ble_eq_true rfl) ?_
  refine h_st rfl rfl ?_
  refine h_st rfl rfl ?_
  refine h_st rfl rfl ?_
  refine h_st rfl rfl ?_
  refine t_naN (n := 2) rfl hs (by decide) (by decide) (fun σ hs2 => ?_)
  replace hs := hs2
  clear hs2
  try dsimp only [List.set, List.cons_append, List.nil_append, cd_Port] at hs
  refine h_st rfl rfl ?_
  refine h_st rfl rfl ?_
  refine h_st rfl rfl ?_
  refine t_iasX (i' := 0) 1 rfl hs rfl (And.intro (by first | omega | (dsimp only; omega)) trivial) (by decide) (fun σ hs2 => ?_)
  replace hs := hs2
  clear hs2
  try dsimp only [List.set, List.cons_append, List.nil_append, cd_Port] at hs
  refine h_st rfl rfl ?_
  refine h_st rfl rfl ?_
  refine h_st rfl rfl ?_
  refine t_iasX (i' := 0) 1 rfl hs rfl (And.intro (by first | omega | (dsimp only; omega)) trivial) (by decide) (fun σ hs2 => ?_)
  replace hs := hs2
  clear hs2
  try dsimp only [List.set, List.cons_append, List.nil_append, cd_Port] at hs
  refine t_put 0 rfl hs rfl (And.intro (by first | omega | (dsimp only; omega)) trivial) (rfl) (Nat.le_of_ble_eq_true rfl) (fun σ hs2 => ?_)
  replace hs := hs2
  clear hs2
  try dsimp only [List.set, List.cons_append, List.nil_append, cd_Port] at hs
  refine h_st rfl rfl ?_
  refine h_st rfl rfl ?_
  refine t_put 0 rfl hs rfl (And.intro (by first | omega | (dsimp only; omega)) trivial) (rfl) (Nat.le_of_ble_eq_true rfl) (fun σ hs2 => ?_)
  replace hs := hs2
  clear hs2
  try dsimp only [List.set, List.cons_append, List.nil_append, cd_Port] at hs
  refine h_st rfl rfl ?_
  refine h_st rfl rfl ?_
  refine t_put 0 rfl hs rfl (And.intro (by first | omega | (dsimp only; omega)) trivial) (rfl) (Nat.le_of_ble_eq_true rfl) (fun σ hs2 => ?_)
  replace hs := hs2
  clear hs2
  try dsimp only [List.set, List.cons_append, List.nil_append, cd_Port] at hs
  refine h_st rfl rfl ?_
  refine h_st rfl rfl ?_
  refine t_put 0 rfl hs rfl (And.intro (by first | omega | (dsimp only; omega)) trivial) (rfl) (Nat.le_of_ble_eq_true rfl) (fun σ hs2 => ?_)
  replace hs := hs2
  clear hs2
  try dsimp only [List.set, List.cons_append, List.nil_append, cd_Port] at hs
  refine h_st rfl rfl ?_
  refine h_st rfl rfl ?_
  refine t_put 0 rfl hs rfl (And.intro (by first | omega | (dsimp only; omega)) trivial) (rfl) (Nat.le_of_ble_eq_true rfl) (fun σ hs2 => ?_)
  replace hs := hs2
  clear hs2
  try dsimp only [List.set, List.cons_append, List.nil_append, cd_Port] at hs
  refine h_st rfl rfl ?_
  refine t_new rfl hs (fun σ hs2 => ?_)
  replace hs := hs2
  clear hs2
  try dsimp only [List.set, List.cons_append, List.nil_append, cd_Port] at hs
  refine h_st rfl rfl ?_
  refine h_cv1 rfl (Nat.le_of_ble_eq_true rfl) (e_rcv (hs.at 2 rfl)) rfl (k_3s (hs.at 2 rfl)) (fun σ2 hk => ?_)
  rw [hs.1, hs.2.1] at hk
  replace hs := hs.call2 (i := 2) rfl (And.intro (by first | omega | (dsimp only; omega)) (And.intro (by first | omega | (dsimp only; omega)) trivial)) hk
  clear hk
  try dsimp only [List.set, List.cons_append, List.nil_append] at hs
  refine t_put 0 rfl hs rfl (And.intro (by first | omega | (dsimp only; omega)) (And.intro (by first | omega | (dsimp only; omega)) (And.intro (by first | omega | (dsimp only; omega)) trivial))) (rfl) (Nat.le_of_ble_eq_true rfl) (fun σ hs2 => ?_)
  replace hs := hs2
  clear hs2
  try dsimp only [List.set, List.cons_append, List.nil_append, cd_Port] at hs
  refine h_st rfl rfl ?_
  refine h_st rfl rfl ?_
  refine t_put 0 rfl hs rfl (And.intro (by first | omega | (dsimp only; omega)) (And.intro (by first | omega | (dsimp only; omega)) (And.intro (by first | omega | (dsimp only; omega)) trivial))) (rfl) (Nat.le_of_ble_eq_true rfl) (fun σ hs2 => ?_)
  replace hs := hs2
  clear hs2
  try dsimp only [List.set, List.cons_append, List.nil_append, cd_Port] at hs
  refine h_st rfl rfl ?_
  refine h_st rfl rfl ?_
  refine t_put 0 rfl hs rfl (And.intro (by first | omega | (dsimp only; omega)) (And.intro (by first | omega | (dsimp only; omega)) (And.intro (by first | omega | (dsimp only; omega)) trivial))) (rfl) (Nat.le_of_ble_eq_true rfl) (fun σ hs2 => ?_)
  replace hs := hs2
  clear hs2
  try dsimp only [List.set, List.cons_append, List.nil_append, cd_Port] at hs
  refine h_st rfl rfl ?_
  refine h_st rfl rfl ?_
  refine t_put 0 rfl hs rfl (And.intro (by first | omega | (dsimp only; omega)) (And.intro (by first | omega | (dsimp only; omega)) (And.intro (by first | omega | (dsimp only; omega)) trivial))) (rfl) (Nat.le_of_ble_eq_true rfl) (fun σ hs2 => ?_)
  replace hs := hs2
  clear hs2
  try dsimp only [List.set, List.cons_append, List.nil_append, cd_Port] at hs
  refine h_st rfl rfl ?_
  refine h_st rfl rfl ?_
  refine t_put 0 rfl hs rfl (And.intro (by first | omega | (dsimp only; omega)) (And.intro (by first | omega | (dsimp only; omega)) (And.intro (by first | omega | (dsimp only; omega)) trivial))) (hzb) (Nat.le_of_ble_eq_true rfl) (fun σ hs2 => ?_)
  replace hs := hs2
  clear hs2
  try dsimp only [List.set, List.cons_append, List.nil_append, cd_Port] at hs
  refine h_st rfl rfl ?_
  refine h_st rfl rfl ?_
  refine t_put 0 rfl hs rfl (And.intro (by first | omega | (dsimp only; omega)) (And.intro (by first | omega | (dsimp only; omega)) (And.intro (by first | omega | (dsimp only; omega)) trivial))) (rfl) (Nat.le_of_ble_eq_true rfl) (fun σ hs2 => ?_)
  replace hs := hs2
  clear hs2
  try dsimp only [List.set, List.cons_append, List.nil_append, cd_Port] at hs
  refine h_st rfl rfl ?_
  refine h_st rfl rfl ?_
  refine h_st rfl rfl ?_
  refine h_br (fun hb => ?_) (fun hb => ?_)
  · refine h_st rfl rfl ?_
    refine t_nqN (n := 1) rfl hs (by decide) (by decide) (fun σ hs2 => ?_)
    replace hs := hs2
    clear hs2
    try dsimp only [List.set, List.cons_append, List.nil_append, cd_Port] at hs
    refine t_put 0 rfl hs rfl (And.intro (by first | omega | (dsimp only; omega)) (And.intro (by first | omega | (dsimp only; omega)) (And.intro (by first | omega | (dsimp only; omega)) (And.intro (by first | omega | (dsimp only; omega)) trivial)))) (rfl) (Nat.le_of_ble_eq_true rfl) (fun σ hs2 => ?_)
    replace hs := hs2
    clear hs2
    try dsimp only [List.set, List.cons_append, List.nil_append, cd_Port] at hs
    exact h_rv rfl (by exact c_84g (n := 1) ⟨by decide, by decide⟩ (Or.inr ⟨hb, rfl⟩) hp hs rfl)
  · refine h_st rfl rfl ?_
    refine h_st rfl rfl ?_
    refine t_nqN (n := 4) rfl hs (by decide) (by decide) (fun σ hs2 => ?_)
    replace hs := hs2
    clear hs2
    try dsimp only [List.set, List.cons_append, List.nil_append, cd_Port] at hs
    refine t_put 0 rfl hs rfl (And.intro (by first | omega | (dsimp only; omega)) (And.intro (by first | omega | (dsimp only; omega)) (And.intro (by first | omega | (dsimp only; omega)) (And.intro (by first | omega | (dsimp only; omega)) trivial)))) (rfl) (Nat.le_of_ble_eq_true rfl) (fun σ hs2 => ?_)
    replace hs := hs2
    clear hs2
    try dsimp only [List.set, List.cons_append, List.nil_append, cd_Port] at hs
    exact h_rv rfl (by exact c_84g (n := 4) ⟨by decide, by decide⟩ (Or.inl ⟨hz.resolve_left hb, rfl⟩) hp hs rfl)
theorem c_85z (hp : σ.2[p]? = some (.inr (1, cd_Fragment))) : hE ra (d + 1) 85 [.ref p] σ (pV (fun σ' => σ'.2.length = σ.2.length ∧ (∀ q, q < σ.2.length → q ≠ p → σ'.2[q]? = σ.2[q]?) ∧ σ'.2[p]? = some (.inr (1, [.int 0, .int 0, .int 0, .int 0, .int 0, .int 0])))) := by
  have hplt := (List.getElem?_eq_some_iff.mp hp).1
  have hs := St.ini hp
  have hfin : ∀ σ', St σ p σ' σ.1 σ.2.length [(p, .inr (1, [.int 0, .int 0, .int 0, .int 0, .int 0, .int 0]))] → pV (fun σ' => σ'.2.length = σ.2.length ∧ (∀ q, q < σ.2.length → q ≠ p → σ'.2[q]? = σ.2[q]?) ∧ σ'.2[p]? = some (.inr (1, [.int 0, .int 0, .int 0, .int 0, .int 0, .int 0]))) (σ', .inl none) := fun σ' hs => ⟨σ', rfl, hs.2.1, hs.2.2.2.2, hs.at 0 rfl⟩
  refine h_in rfl rfl (Nat.le_of_ble_eq_true rfl) ?_
  refine h_st rfl rfl ?_
  refine h_st rfl rfl ?_
  refine h_st rfl rfl ?_
  refine h_st rfl rfl ?_
  refine t_put 0 rfl hs rfl trivial (rfl) (Nat.le_of_ble_eq_true rfl) (fun σ hs2 => ?_)
  replace hs := hs2
  clear hs2
  refine h_st rfl rfl ?_
  refine h_st rfl rfl ?_
  refine t_put 0 rfl hs rfl trivial (rfl) (Nat.le_of_ble_eq_true rfl) (fun σ hs2 => ?_)
  replace hs := hs2
  clear hs2
  refine h_st rfl rfl ?_
  refine h_st rfl rfl ?_
  refine t_put 0 rfl hs rfl trivial (rfl) (Nat.le_of_ble_eq_true rfl) (fun σ hs2 => ?_)
  replace hs := hs2
  clear hs2
  refine h_st rfl rfl ?_
  refine h_st rfl rfl ?_
  refine t_put 0 rfl hs rfl trivial (rfl) (Nat.le_of_ble_eq_true rfl) (fun σ hs2 => ?_)
  replace hs := hs2
  clear hs2
  refine h_st rfl rfl ?_
  refine h_st rfl rfl ?_
  refine t_put 0 rfl hs rfl trivial (rfl) (Nat.le_of_ble_eq_true rfl) (fun σ hs2 => ?_)
  replace hs := hs2
  clear hs2
  refine h_st rfl rfl ?_
  refine h_st rfl rfl ?_
  refine t_put 0 rfl hs rfl trivial (rfl) (Nat.le_of_ble_eq_true rfl) (fun σ hs2 => ?_)
  replace hs := hs2
  clear hs2
  exact h_rv rfl (hfin _ hs)
/-- what stays while a link is made -/
def MK (σ : ae_S) (w : Nat → Nat) (σx : ae_S) (wx : Nat → Nat) (p N cb : Nat) : Prop := (w p = cb ∧ w N = cb + 1 ∧ w (N + 1) = cb + 2 ∧ w (N + 1 + 1) = cb + 3) ∧ (∀ q, q < N → q ≠ p → σ.2[q]? = σx.2[q]? ∧ w q = wx q) ∧ N + 1 + 1 < σ.2.length ∧ p < N
/-- old cells stay but such with a code of the link's own -/
theorem MK.sa {σx : ae_S} {wx : Nat → Nat} {N cb : Nat} (h : MK σ w σx wx p N cb) (hl : σ.2.length ≤ σ1.2.length) (ho : ∀ q, q < σ.2.length → (q = p ∨ q = N ∨ q = N + 1 ∨ q = N + 1 + 1) ∨ σ1.2[q]? = σ.2[q]?) (hw : ∀ q, q < σ.2.length → w1 q = w q) : MK σ1 w1 σx wx p N cb := by
  obtain ⟨⟨a1, a2, a3, a4⟩, h2, h3, h4⟩ := h
  refine ⟨⟨(hw p (by omega)).trans a1, (hw N (by omega)).trans a2, (hw _ (by omega)).trans a3, (hw _ h3).trans a4⟩, fun q hq hn => ?_, by omega, h4⟩
  obtain ⟨e1, e2⟩ := h2 q hq hn
  rcases ho q (by omega) with z | z
  · omega
  · exact ⟨z.trans e1, (hw q (by omega)).trans e2⟩
theorem c_83az {i N cb : Nat} {l9 g m t6 f6 hv qv : Int32} {σx : ae_S} {wx : Nat → Nat} (hi : i < 4) (hqv : qv = 0 ∨ qv = 1) {P : ae_S × ae_O → Prop} (hx9 : ∀ (σ : ae_S) (w : Nat → Nat) (hM : MK σ w σx wx p N cb) (hk : σ.2[p]? = some (.inr (4, [.int l9, .int (nI i), .int g, .int m, .int hv, .int qv, .int 0, .ref N, .ref (N + 1), .ref (N + 1 + 1), .int 0, .int 0, .int 0, .int (-1), .int 0]))) (hac : ∃ fa, σ.2[N + 1]? = some (.inl (0, 2, .inl fa))) (f0 : Nat → Option Nat) (hpo : σ.2[N]? = some (.inl (7, rfs 4 f0))) (hpf : ∀ e, e < 4 → (e < 4 → ((t6 >>> (nI e &&& 31)) &&& 1 = 0 → f0 e = none) ∧ (¬ (t6 >>> (nI e &&& 31)) &&& 1 = 0 → ∃ r, f0 e = some r ∧ PT σ w (cb + 20 + 40 * e) r (P0 qv (f6 >>> ((2 : Int32) &&& 31))))) ∧ (4 ≤ e → f0 e = none)) (hwn : σ.2[N + 1 + 1]? = some (.inl (8, rfs 8 (fun _ => none)))), hG ra (d + 2) 83 σ [some (.ref p), some (.int l9), some (.int (nI i)), some (.int g), some (.int m), some (.int t6), some (.int f6), some (.int (pths i t6 4)), some (.int (nI 4))] [] 167 P) : ∀ (m' j : Nat) (σ : ae_S) (w : Nat → Nat) (_ : j + m' = 4) (hM : MK σ w σx wx p N cb) (hk : σ.2[p]? = some (.inr (4, [.int l9, .int (nI i), .int g, .int m, .int hv, .int qv, .int 0, .ref N, .ref (N + 1), .ref (N + 1 + 1), .int 0, .int 0, .int 0, .int (-1), .int 0]))) (hac : ∃ fa, σ.2[N + 1]? = some (.inl (0, 2, .inl fa))) (f0 : Nat → Option Nat) (hpo : σ.2[N]? = some (.inl (7, rfs 4 f0))) (hpf : ∀ e, e < 4 → (e < j → ((t6 >>> (nI e &&& 31)) &&& 1 = 0 → f0 e = none) ∧ (¬ (t6 >>> (nI e &&& 31)) &&& 1 = 0 → ∃ r, f0 e = some r ∧ PT σ w (cb + 20 + 40 * e) r (P0 qv (f6 >>> ((2 : Int32) &&& 31))))) ∧ (j ≤ e → f0 e = none)) (hwn : σ.2[N + 1 + 1]? = some (.inl (8, rfs 8 (fun _ => none)))), hG ra (d + 2) 83 σ [some (.ref p), some (.int l9), some (.int (nI i)), some (.int g), some (.int m), some (.int t6), some (.int f6), some (.int (pths i t6 j)), some (.int (nI j))] [] 112 P := by
  intro m'
  induction m' with
  | zero =>
    intro j σ w hj hM hk hac f0 hpo hpf hwn
    have hj : j = 4 := by omega
    subst hj
    refine h_st rfl rfl ?_
    refine h_st rfl rfl ?_
    refine h_st rfl rfl ?_
    refine h_pc (if_pos (decide_eq_true (nI_le (Nat.le_refl 4) (by decide)))) ?_
    exact hx9 _ _ hM hk hac f0 hpo hpf hwn
  | succ m' ih =>
    intro j σ w hjm hM hk hac f0 hpo hpf hwn
    have hj : j < 4 := by omega
    have ih1 := fun σ w => ih (j + 1) σ w (by omega)
    simp only [← nI_1] at ih1
    refine h_st rfl rfl ?_
    refine h_st rfl rfl ?_
    refine h_st rfl rfl ?_
    refine h_pc (if_neg (fun z9 => (nI_ge hj (by decide)) (of_decide_eq_true z9))) ?_
    refine h_st rfl rfl ?_
    refine h_st rfl rfl ?_
    refine h_st rfl rfl ?_
    refine h_st rfl rfl ?_
    refine h_st rfl rfl ?_
    refine h_st rfl rfl ?_
    refine h_br (fun hbit => ?_) (fun hbit => ?_)
    · have ep : pths i t6 (j + 1) = pths i t6 j := if_pos hbit
      rw [ep] at ih1
      refine h_st rfl rfl ?_
      refine h_st rfl rfl ?_
      refine ih1 _ w hM hk hac f0 hpo (fun e he => ⟨fun h1 => ?_, fun h1 => (hpf e he).2 (by omega)⟩) hwn
      by_cases ee : e = j
      · subst ee
        exact ⟨fun _ => (hpf e he).2 (Nat.le_refl _), fun z => absurd hbit z⟩
      · exact (hpf e he).1 (by omega)
    · have ep : pths i t6 (j + 1) = pths i t6 j ||| pt i j := if_neg hbit
      rw [ep] at ih1
      refine h_st rfl rfl ?_
      refine h_st rfl rfl ?_
      refine h_st rfl rfl ?_
      refine h_ci2 rfl (Nat.le_of_ble_eq_true rfl) rfl rfl (k_76x hi hj) (fun σ' y hb => ?_)
      obtain ⟨hss, rfl⟩ := hb
      replace hss := hss.symm
      subst hss
      refine h_st rfl rfl ?_
      refine h_st rfl rfl ?_
      refine h_st rfl rfl ?_
      refine h_st rfl (e_get hk rfl) ?_
      refine h_st rfl rfl ?_
      refine h_st rfl rfl ?_
      have hN2 := hM.2.2.1
      have hpN := hM.2.2.2
      have hnew : (((σ.1.1 + 1, σ.1.2 + 12), σ.2 ++ [.inr (5, cd_Port)]) : ae_S).2[σ.2.length]? = some (.inr (5, cd_Port)) := by simp
      have hl1 : (((σ.1.1 + 1, σ.1.2 + 12), σ.2 ++ [.inr (5, cd_Port)]) : ae_S).2.length = σ.2.length + 1 := by simp
      have hap : ∀ q, q < σ.2.length → (((σ.1.1 + 1, σ.1.2 + 12), σ.2 ++ [.inr (5, cd_Port)]) : ae_S).2[q]? = σ.2[q]? := fun q hq => List.getElem?_append_left hq
      have hk1 := (hap p (by omega)).trans hk
      have ej : (nI j).toNatClampNeg = j := nI_clamp (by omega)
      refine h_st rfl rfl ?_
      refine h_st rfl rfl ?_
      refine h_st rfl (e_get hk1 rfl) ?_
      refine h_st rfl rfl ?_
      refine h_st rfl rfl ?_
      refine h_st rfl rfl ?_
      refine h_cv3 rfl (Nat.le_of_ble_eq_true rfl) (e_rcv hnew) rfl (c_84z hqv hnew) (fun σ2 hq => ?_)
      obtain ⟨n1, n2, n3⟩ := hq
      rw [hl1] at n1 n2 n3
      obtain ⟨w2, hPT2, hw2⟩ := n3 w (cb + 20 + 40 * j)
      have o2 : ∀ q, q < σ.2.length → σ2.2[q]? = σ.2[q]? := fun q hq => (n2 q (by omega) (by omega)).trans (hap q hq)
      have w2' : ∀ q, q < σ.2.length → w2 q = w q := fun q hq => hw2 q (by omega) (by omega)
      have s2 : Sa (fun _ => False) σ w σ2 w2 := ⟨by omega, fun q hq _ => ⟨o2 q hq, w2' q hq⟩⟩
      have hpo2 := (o2 N (by omega)).trans hpo
      have hPT2' := hPT2
      obtain ⟨_, _, _, _, _, _, _, _, _, ⟨_, hcp, _⟩, _⟩ := hPT2'
      have s3 := Sa.set (σ := σ2) (w := w2) (p := N) (y := .inl (7, rfs 4 (va_up f0 (nI j).toNatClampNeg (some σ.2.length))))
      rw [(w2' N (by omega)).trans hM.1.2.1] at s3
      have F : ¬ False := id
      refine h_st rfl (e_aas hpo2 hcp (by decide) (nI_in hj (by decide))) ?_
      refine h_st rfl rfl ?_
      refine h_st rfl rfl ?_
      refine ih1 _ w2 (hM.sa (by rw [List.length_set]; omega) (fun q hq => by by_cases c : q = N; exact Or.inl (Or.inr (Or.inl c)); exact Or.inr ((st_ne (Ne.symm c)).trans (o2 q hq))) w2') ((st_ne (by omega)).trans ((o2 p (by omega)).trans hk)) (hac.elim (fun fa z => ⟨fa, (st_ne (by omega)).trans ((o2 _ (by omega)).trans z)⟩)) _ (st_get hpo2) (fun e he => ?_) ((st_ne (by omega)).trans ((o2 _ hN2).trans hwn))
      rw [ej]
      by_cases ee : e = j
      · subst ee
        have ev : va_up f0 e (some σ.2.length) e = some σ.2.length := by simp [va_up]
        rw [ev]
        exact ⟨fun _ => ⟨fun z => absurd z hbit, fun _ => ⟨_, rfl, by rw [ej] at s3; exact hPT2.sa s3 (fun c z => by unfold PC at z; omega)⟩⟩, fun z => absurd z (by omega)⟩
      · have ev : va_up f0 j (some σ.2.length) e = f0 e := by simp [va_up, ee]
        rw [ev]
        refine ⟨fun h1 => ⟨((hpf e he).1 (by omega)).1, fun z => ?_⟩, fun h1 => (hpf e he).2 (by omega)⟩
        obtain ⟨r, hr1, hr2⟩ := ((hpf e he).1 (by omega)).2 z
        exact ⟨r, hr1, by rw [ej] at s3; exact (hr2.sa s2 (fun _ _ => F)).sa s3 (fun c z => by unfold PC at z; omega)⟩
theorem c_83bz {i N cb : Nat} {l9 g m t6 f6 hv qv : Int32} {σx : ae_S} {wx : Nat → Nat} {pa x7 : Int32} {P : ae_S × ae_O → Prop} (hx9 : ∀ (σ : ae_S) (w : Nat → Nat) (hM : MK σ w σx wx p N cb) (hk : σ.2[p]? = some (.inr (4, [.int l9, .int (nI i), .int g, .int m, .int hv, .int qv, .int pa, .ref N, .ref (N + 1), .ref (N + 1 + 1), .int 0, .int 0, .int 0, .int (-1), .int 0]))) (hac : ∃ fa, σ.2[N + 1]? = some (.inl (0, 2, .inl fa))) (f0 : Nat → Option Nat) (hpo : σ.2[N]? = some (.inl (7, rfs 4 f0))) (hpf : ∀ e, e < 4 → ((t6 >>> (nI e &&& 31)) &&& 1 = 0 → f0 e = none) ∧ (¬ (t6 >>> (nI e &&& 31)) &&& 1 = 0 → ∃ r, f0 e = some r ∧ PT σ w (cb + 20 + 40 * e) r (P0 qv (f6 >>> ((2 : Int32) &&& 31))))) (f2 : Nat → Option Nat) (hwn : σ.2[N + 1 + 1]? = some (.inl (8, rfs 8 f2))) (hwf : ∀ e, e < 8 → ∃ r, f2 e = some r ∧ w r = cb + 8 + e ∧ σ.2[r]? = some (.inr (1, [.int 0, .int 0, .int 0, .int 0, .int 0, .int 0]))), hG ra (d + 2) 83 σ [some (.ref p), some (.int l9), some (.int (nI i)), some (.int g), some (.int m), some (.int t6), some (.int f6), some (.int x7), some (.int (nI 8))] [] 203 P) : ∀ (m' j : Nat) (σ : ae_S) (w : Nat → Nat) (_ : j + m' = 8) (hM : MK σ w σx wx p N cb) (hk : σ.2[p]? = some (.inr (4, [.int l9, .int (nI i), .int g, .int m, .int hv, .int qv, .int pa, .ref N, .ref (N + 1), .ref (N + 1 + 1), .int 0, .int 0, .int 0, .int (-1), .int 0]))) (hac : ∃ fa, σ.2[N + 1]? = some (.inl (0, 2, .inl fa))) (f0 : Nat → Option Nat) (hpo : σ.2[N]? = some (.inl (7, rfs 4 f0))) (hpf : ∀ e, e < 4 → ((t6 >>> (nI e &&& 31)) &&& 1 = 0 → f0 e = none) ∧ (¬ (t6 >>> (nI e &&& 31)) &&& 1 = 0 → ∃ r, f0 e = some r ∧ PT σ w (cb + 20 + 40 * e) r (P0 qv (f6 >>> ((2 : Int32) &&& 31))))) (f2 : Nat → Option Nat) (hwn : σ.2[N + 1 + 1]? = some (.inl (8, rfs 8 f2))) (hwf : ∀ e, e < j → ∃ r, f2 e = some r ∧ w r = cb + 8 + e ∧ σ.2[r]? = some (.inr (1, [.int 0, .int 0, .int 0, .int 0, .int 0, .int 0]))), hG ra (d + 2) 83 σ [some (.ref p), some (.int l9), some (.int (nI i)), some (.int g), some (.int m), some (.int t6), some (.int f6), some (.int x7), some (.int (nI j))] [] 176 P := by
  intro m'
  induction m' with
  | zero =>
    intro j σ w hj hM hk hac f0 hpo hpf f2 hwn hwf
    have hj : j = 8 := by omega
    subst hj
    refine h_st rfl rfl ?_
    refine h_st rfl rfl ?_
    refine h_st rfl rfl ?_
    refine h_pc (if_pos (decide_eq_true (nI_le (Nat.le_refl 8) (by decide)))) ?_
    exact hx9 _ _ hM hk hac f0 hpo hpf f2 hwn hwf
  | succ m' ih =>
    intro j σ w hjm hM hk hac f0 hpo hpf f2 hwn hwf
    have hj : j < 8 := by omega
    have ih1 := fun σ w => ih (j + 1) σ w (by omega)
    simp only [← nI_1] at ih1
    refine h_st rfl rfl ?_
    refine h_st rfl rfl ?_
    refine h_st rfl rfl ?_
    refine h_pc (if_neg (fun z9 => (nI_ge hj (by decide)) (of_decide_eq_true z9))) ?_
    refine h_st rfl rfl ?_
    refine h_st rfl (e_get hk rfl) ?_
    refine h_st rfl rfl ?_
    refine h_st rfl rfl ?_
    have hN2 := hM.2.2.1
    have hpN := hM.2.2.2
    have hnew : (((σ.1.1 + 1, σ.1.2 + 6), σ.2 ++ [.inr (1, cd_Fragment)]) : ae_S).2[σ.2.length]? = some (.inr (1, cd_Fragment)) := by simp
    have hl1 : (((σ.1.1 + 1, σ.1.2 + 6), σ.2 ++ [.inr (1, cd_Fragment)]) : ae_S).2.length = σ.2.length + 1 := by simp
    have hap : ∀ q, q < σ.2.length → (((σ.1.1 + 1, σ.1.2 + 6), σ.2 ++ [.inr (1, cd_Fragment)]) : ae_S).2[q]? = σ.2[q]? := fun q hq => List.getElem?_append_left hq
    have ej : (nI j).toNatClampNeg = j := nI_clamp (by omega)
    refine h_st rfl rfl ?_
    refine h_cv1 rfl (Nat.le_of_ble_eq_true rfl) (e_rcv hnew) rfl (c_85z hnew) (fun σ2 hq => ?_)
    obtain ⟨n1, n2, n3⟩ := hq
    rw [hl1] at n1 n2
    have o2 : ∀ q, q < σ.2.length → σ2.2[q]? = σ.2[q]? := fun q hq => (n2 q (by omega) (by omega)).trans (hap q hq)
    let w2 : Nat → Nat := fun q => if q = σ.2.length then cb + 8 + j else w q
    have w2' : ∀ q, q < σ.2.length → w2 q = w q := fun q hq => if_neg (by omega)
    have w2n : w2 σ.2.length = cb + 8 + j := if_pos rfl
    have s2 : Sa (fun _ => False) σ w σ2 w2 := ⟨by omega, fun q hq _ => ⟨o2 q hq, w2' q hq⟩⟩
    have hw2 := (o2 _ hN2).trans hwn
    have s3 := Sa.set (σ := σ2) (w := w2) (p := N + 1 + 1) (y := .inl (8, rfs 8 (va_up f2 (nI j).toNatClampNeg (some σ.2.length))))
    rw [(w2' _ hN2).trans hM.1.2.2.2] at s3
    have F : ¬ False := id
    refine h_st rfl (e_aas hw2 n3 (by decide) (nI_in hj (by decide))) ?_
    refine h_st rfl rfl ?_
    refine h_st rfl rfl ?_
    refine ih1 _ w2 (hM.sa (by rw [List.length_set]; omega) (fun q hq => by by_cases c : q = N + 1 + 1; exact Or.inl (Or.inr (Or.inr (Or.inr c))); exact Or.inr ((st_ne (Ne.symm c)).trans (o2 q hq))) w2') ((st_ne (by omega)).trans ((o2 p (by omega)).trans hk)) (hac.elim (fun fa z => ⟨fa, (st_ne (by omega)).trans ((o2 _ (by omega)).trans z)⟩)) f0 ((st_ne (by omega)).trans ((o2 N (by omega)).trans hpo)) (fun e he => ⟨(hpf e he).1, fun z => ?_⟩) _ (st_get hw2) (fun e he => ?_)
    · obtain ⟨r, hr1, hr2⟩ := (hpf e he).2 z
      exact ⟨r, hr1, (hr2.sa s2 (fun _ _ => F)).sa s3 (fun c z => by unfold PC at z; omega)⟩
    · rw [ej]
      by_cases ee : e = j
      · exact ⟨σ.2.length, by simp [va_up, ee], by rw [ee]; exact w2n, (st_ne (by omega)).trans n3⟩
      · obtain ⟨r, hr1, hr2, hr3⟩ := hwf e (by omega)
        have hrl := ltc hr3
        refine ⟨r, by simp [va_up, ee, hr1], (w2' r hrl).trans hr2, (st_ne (fun c => ?_)).trans ((o2 r hrl).trans hr3)⟩
        rw [← c, hwn] at hr3
        cases hr3
theorem c_83cz {i N cb : Nat} {l9 g m t6 f6 hv qv : Int32} {pa x7 : Int32} {P : ae_S × ae_O → Prop} (hk : σ.2[p]? = some (.inr (4, [.int l9, .int (nI i), .int g, .int m, .int hv, .int qv, .int pa, .ref N, .ref (N + 1), .ref (N + 1 + 1), .int 0, .int 0, .int 0, .int (-1), .int 0]))) (hpN : p < N) (hx9 : ∀ (σ2 : ae_S) (fa : Nat → Int32), σ2.2[N + 1]? = some (.inl (0, 2, .inl fa)) → (fa 0 = m * (g + 64) ∧ fa 1 = m * (g + 64)) → σ2.2.length = σ.2.length → (∀ q, q ≠ N + 1 → σ2.2[q]? = σ.2[q]?) → hG ra (d + 2) 83 σ2 [some (.ref p), some (.int l9), some (.int (nI i)), some (.int g), some (.int m), some (.int t6), some (.int f6), some (.int x7), some (.int (nI 2))] [] 232 P) : ∀ (m' j : Nat) (σ2 : ae_S) (fa : Nat → Int32) (_ : j + m' = 2) (_ : σ2.2[N + 1]? = some (.inl (0, 2, .inl fa))) (_ : ∀ e, e < j → fa e = m * (g + 64)), σ2.2.length = σ.2.length → (∀ q, q ≠ N + 1 → σ2.2[q]? = σ.2[q]?) → hG ra (d + 2) 83 σ2 [some (.ref p), some (.int l9), some (.int (nI i)), some (.int g), some (.int m), some (.int t6), some (.int f6), some (.int x7), some (.int (nI j))] [] 206 P := by
  intro m'
  induction m' with
  | zero =>
    intro j σ2 fa hj hfa hfe hlen hoo
    have hj : j = 2 := by omega
    subst hj
    refine h_st rfl rfl ?_
    refine h_st rfl rfl ?_
    refine h_st rfl rfl ?_
    refine h_pc (if_pos (decide_eq_true (nI_le (Nat.le_refl 2) (by decide)))) ?_
    exact hx9 _ fa hfa ⟨hfe 0 (by decide), hfe 1 (by decide)⟩ hlen hoo
  | succ m' ih =>
    intro j σ2 fa hjm hfa hfe hlen hoo
    have hj : j < 2 := by omega
    have ih1 := fun σ fa => ih (j + 1) σ fa (by omega)
    simp only [← nI_1] at ih1
    have hk1 := (hoo p (by omega)).trans hk
    have ej : (nI j).toNatClampNeg = j := nI_clamp (by omega)
    refine h_st rfl rfl ?_
    refine h_st rfl rfl ?_
    refine h_st rfl rfl ?_
    refine h_pc (if_neg (fun z9 => (nI_ge hj (by decide)) (of_decide_eq_true z9))) ?_
    refine h_st rfl rfl ?_
    refine h_st rfl (e_get hk1 rfl) ?_
    refine h_st rfl rfl ?_
    refine h_st rfl rfl ?_
    refine h_st rfl rfl ?_
    refine h_st rfl rfl ?_
    refine h_st rfl rfl ?_
    refine h_st rfl rfl ?_
    refine h_st rfl (e_ias hfa (nI_in hj (by decide))) ?_
    refine h_st rfl rfl ?_
    refine h_st rfl rfl ?_
    refine ih1 _ _ (st_get hfa) (fun e he => ?_) (by rw [List.length_set]; exact hlen) (fun q hq => (st_ne (Ne.symm hq)).trans (hoo q hq))
    rw [ej]
    by_cases c : e = j
    · rw [c, pk_us]
    · rw [pk_un c]
      exact hfe e (by omega)
end SX22
