section TYP
abbrev rfs (n : Nat) (f : Nat → Option Nat) : vp_A := (n, .inr (.inr (.inr (.inr f))))
def nl (f : Nat → Option Nat) : Nat → Nat
  | 0 => 0
  | n + 1 => nl f n + (match f n with | none => 1 | some _ => 0)
theorem nl_up {f : Nat → Option Nat} {j q : Nat} : ∀ n, nl (va_up f j (some q)) n ≤ nl f n
  | 0 => Nat.le_refl _
  | n + 1 => by
    have h := nl_up (f := f) (j := j) (q := q) n
    by_cases e : n = j
    · have h2 : va_up f j (some q) n = some q := by simp [va_up, e]
      simp only [nl, h2]
      omega
    · have h2 : va_up f j (some q) n = f n := by simp [va_up, e]
      simp only [nl, h2]
      omega
theorem nl_ge {f : Nat → Option Nat} {j q : Nat} : ∀ {n}, n ≤ j → nl (va_up f j (some q)) n = nl f n
  | 0, _ => rfl
  | n + 1, h => by
    have h1 := nl_ge (f := f) (j := j) (q := q) (n := n) (by omega)
    have h2 : va_up f j (some q) n = f n := by simp [va_up, show n ≠ j by omega]
    simp only [nl, h2, h1]
theorem nl_lt {f : Nat → Option Nat} {j q : Nat} (hf : f j = none) : ∀ {n}, j < n → nl (va_up f j (some q)) n + 1 = nl f n
  | 0, h => absurd h (Nat.not_lt_zero _)
  | n + 1, h => by
    by_cases e : n = j
    · have h1 := nl_ge (f := f) (j := j) (q := q) (n := n) (by omega)
      have h2 : va_up f j (some q) n = some q := by simp [va_up, e]
      have h3 : f n = none := by rw [e]; exact hf
      simp only [nl, h2, h3, h1]
    · have h1 := nl_lt (f := f) (j := j) (q := q) hf (n := n) (by omega)
      have h2 : va_up f j (some q) n = f n := by simp [va_up, e]
      simp only [nl, h2]
      omega
def wk (t : Nat) : Nat × Nat := if t = 6 then (2, 202) else if t = 9 then (2, 1002) else if t = 4 then (100, 25000) else (0, 0)
def wt (c : ae_C) : Nat × Nat := match c with
  | .inl (t, n, .inr (.inr (.inr (.inr f)))) => ((wk t).1 * nl f n, (wk t).2 * nl f n)
  | _ => (0, 0)
def Wt1 (σ : ae_S) : Nat := σ.1.1 + (σ.2.map (fun c => (wt c).1)).sum
def Wt2 (σ : ae_S) : Nat := σ.1.2 + (σ.2.map (fun c => (wt c).2)).sum
theorem sum_set (w : ae_C → Nat) {c0 c : ae_C} : ∀ {l : List ae_C} {p : Nat}, l[p]? = some c0 → ((l.set p c).map w).sum + w c0 = (l.map w).sum + w c
  | [], p, h => by simp at h
  | x :: t, 0, h => by
    have e : x = c0 := by simpa using h
    rw [e]
    simp only [List.set_cons_zero, List.map_cons, List.sum_cons]
    omega
  | x :: t, p + 1, h => by
    have h1 := sum_set w (c0 := c0) (c := c) (l := t) (p := p) (by simpa using h)
    simp only [List.set_cons_succ, List.map_cons, List.sum_cons]
    omega
/-- a cell that keeps to its kind -/
def okC (K : Nat → Nat) (kd : Nat) (c : ae_C) : Prop :=
  (kd = 1 → ∃ t, c = .inr (7, [.ref 1, .ref 2, .ref 3, .ref 4, .ref 6, .int t])) ∧
  (kd = 2 → ∃ f, c = .inl (4, rfs 8 f) ∧ ∀ j q, j < 8 → f j = some q → K q = 18) ∧
  (kd = 3 → ∃ f, c = .inl (5, rfs 24 f) ∧ ∀ j, j < 24 → ∃ q, f j = some q ∧ K q = 16) ∧
  (kd = 4 → ∃ f, c = .inl (0, 12, .inl f)) ∧
  (kd = 5 → ∃ q k, c = .inr (2, [.ref q, .int (nI k)]) ∧ k ≤ 200 ∧ K q = 6) ∧
  (kd = 6 → ∃ f, c = .inl (1, 200, .inl f) ∧ ∀ j, j < 200 → fits .byte (.int (f j)) = true) ∧
  (kd = 7 → ∃ q k, c = .inr (0, [.ref q, .int (nI k)]) ∧ k ≤ 1000 ∧ K q = 8) ∧
  (kd = 8 → ∃ f, c = .inl (1, 1000, .inl f) ∧ ∀ j, j < 1000 → fits .byte (.int (f j)) = true) ∧
  (kd = 16 → ∃ n m r h z fr b g e hp mk, c = .inr (3, [.ref r, .ref h, .int z, .ref fr, .int b, .int g, .int e, .int hp, .int mk]) ∧ (n ≤ 16 ∧ m ≤ 16) ∧ K r = 100 + n ∧ K h = 100 + m ∧ K fr = 5) ∧
  (kd = 18 → ∃ nu so ga mo hi qu pa po ac wa fi co me se op, c = .inr (4, [.int nu, .int (nI so), .int ga, .int (nI mo), .int hi, .int qu, .int pa, .ref po, .ref ac, .ref wa, .int (nI fi), .int (nI co), .int me, .int se, .int op]) ∧ (so < 4 ∧ (64 ≤ mo ∧ mo ≤ 128) ∧ fi < 8 ∧ co ≤ 8) ∧ K po = 19 ∧ K ac = 20 ∧ K wa = 21) ∧
  (kd = 19 → ∃ f, c = .inl (7, rfs 4 f) ∧ ∀ j q, j < 4 → f j = some q → K q = 23) ∧
  (kd = 20 → ∃ f, c = .inl (0, 2, .inl f)) ∧
  (kd = 21 → ∃ f, c = .inl (8, rfs 8 f) ∧ ∀ j, j < 8 → ∃ q, f j = some q ∧ K q = 22) ∧
  (kd = 22 → ∃ a b d e g h, c = .inr (1, [.int a, .int b, .int d, .int e, .int g, .int h])) ∧
  (kd = 23 → ∃ n z sk la ts ta ib bn be ke fk kc ca, c = .inr (5, [.int z, .int sk, .ref la, .int ts, .int ta, .int ib, .int bn, .ref be, .ref ke, .int (nI fk), .int (nI kc), .int ca]) ∧ (((z = 1 ∧ n = 4) ∨ (z = 0 ∧ n = 1)) ∧ fk < n ∧ kc ≤ n) ∧ K la = 20 ∧ K be = 7 ∧ K ke = 300 + n) ∧
  (∀ n, n ≤ 16 → kd = 100 + n → ∃ q a b, c = .inr (6, [.ref q, .int (nI a), .int (nI b)]) ∧ (b ≤ n ∧ (a < n ∨ a = 0)) ∧ K q = 200 + n) ∧
  (∀ n, n ≤ 16 → kd = 200 + n → ∃ f, c = .inl (6, rfs n f) ∧ ∀ j q, j < n → f j = some q → K q = 5) ∧
  (∀ n, n ≤ 16 → kd = 300 + n → ∃ f, c = .inl (9, rfs n f) ∧ ∀ j q, j < n → f j = some q → K q = 7)
variable {K K' K0 : Nat → Nat} {c c0 : ae_C} {σ σ0 σ' : ae_S} {p : Nat} {b : Bool}
theorem ok_1 (h : ∃ t, c = .inr (7, [.ref 1, .ref 2, .ref 3, .ref 4, .ref 6, .int t])) : okC K 1 c := ⟨fun _ => h, fun z => absurd z (by decide), fun z => absurd z (by decide), fun z => absurd z (by decide), fun z => absurd z (by decide), fun z => absurd z (by decide), fun z => absurd z (by decide), fun z => absurd z (by decide), fun z => absurd z (by decide), fun z => absurd z (by decide), fun z => absurd z (by decide), fun z => absurd z (by decide), fun z => absurd z (by decide), fun z => absurd z (by decide), fun z => absurd z (by decide), fun n _ z => absurd z (by omega), fun n _ z => absurd z (by omega), fun n _ z => absurd z (by omega)⟩
theorem ko_1 (h : okC K 1 c) : ∃ t, c = .inr (7, [.ref 1, .ref 2, .ref 3, .ref 4, .ref 6, .int t]) := (h.1) rfl
theorem ok_2 (h : ∃ f, c = .inl (4, rfs 8 f) ∧ ∀ j q, j < 8 → f j = some q → K q = 18) : okC K 2 c := ⟨fun z => absurd z (by decide), fun _ => h, fun z => absurd z (by decide), fun z => absurd z (by decide), fun z => absurd z (by decide), fun z => absurd z (by decide), fun z => absurd z (by decide), fun z => absurd z (by decide), fun z => absurd z (by decide), fun z => absurd z (by decide), fun z => absurd z (by decide), fun z => absurd z (by decide), fun z => absurd z (by decide), fun z => absurd z (by decide), fun z => absurd z (by decide), fun n _ z => absurd z (by omega), fun n _ z => absurd z (by omega), fun n _ z => absurd z (by omega)⟩
theorem ko_2 (h : okC K 2 c) : ∃ f, c = .inl (4, rfs 8 f) ∧ ∀ j q, j < 8 → f j = some q → K q = 18 := (h.2.1) rfl
theorem ok_3 (h : ∃ f, c = .inl (5, rfs 24 f) ∧ ∀ j, j < 24 → ∃ q, f j = some q ∧ K q = 16) : okC K 3 c := ⟨fun z => absurd z (by decide), fun z => absurd z (by decide), fun _ => h, fun z => absurd z (by decide), fun z => absurd z (by decide), fun z => absurd z (by decide), fun z => absurd z (by decide), fun z => absurd z (by decide), fun z => absurd z (by decide), fun z => absurd z (by decide), fun z => absurd z (by decide), fun z => absurd z (by decide), fun z => absurd z (by decide), fun z => absurd z (by decide), fun z => absurd z (by decide), fun n _ z => absurd z (by omega), fun n _ z => absurd z (by omega), fun n _ z => absurd z (by omega)⟩
theorem ko_3 (h : okC K 3 c) : ∃ f, c = .inl (5, rfs 24 f) ∧ ∀ j, j < 24 → ∃ q, f j = some q ∧ K q = 16 := (h.2.2.1) rfl
theorem ok_4 (h : ∃ f, c = .inl (0, 12, .inl f)) : okC K 4 c := ⟨fun z => absurd z (by decide), fun z => absurd z (by decide), fun z => absurd z (by decide), fun _ => h, fun z => absurd z (by decide), fun z => absurd z (by decide), fun z => absurd z (by decide), fun z => absurd z (by decide), fun z => absurd z (by decide), fun z => absurd z (by decide), fun z => absurd z (by decide), fun z => absurd z (by decide), fun z => absurd z (by decide), fun z => absurd z (by decide), fun z => absurd z (by decide), fun n _ z => absurd z (by omega), fun n _ z => absurd z (by omega), fun n _ z => absurd z (by omega)⟩
theorem ko_4 (h : okC K 4 c) : ∃ f, c = .inl (0, 12, .inl f) := (h.2.2.2.1) rfl
theorem ok_5 (h : ∃ q k, c = .inr (2, [.ref q, .int (nI k)]) ∧ k ≤ 200 ∧ K q = 6) : okC K 5 c := ⟨fun z => absurd z (by decide), fun z => absurd z (by decide), fun z => absurd z (by decide), fun z => absurd z (by decide), fun _ => h, fun z => absurd z (by decide), fun z => absurd z (by decide), fun z => absurd z (by decide), fun z => absurd z (by decide), fun z => absurd z (by decide), fun z => absurd z (by decide), fun z => absurd z (by decide), fun z => absurd z (by decide), fun z => absurd z (by decide), fun z => absurd z (by decide), fun n _ z => absurd z (by omega), fun n _ z => absurd z (by omega), fun n _ z => absurd z (by omega)⟩
theorem ko_5 (h : okC K 5 c) : ∃ q k, c = .inr (2, [.ref q, .int (nI k)]) ∧ k ≤ 200 ∧ K q = 6 := (h.2.2.2.2.1) rfl
theorem ok_6 (h : ∃ f, c = .inl (1, 200, .inl f) ∧ ∀ j, j < 200 → fits .byte (.int (f j)) = true) : okC K 6 c := ⟨fun z => absurd z (by decide), fun z => absurd z (by decide), fun z => absurd z (by decide), fun z => absurd z (by decide), fun z => absurd z (by decide), fun _ => h, fun z => absurd z (by decide), fun z => absurd z (by decide), fun z => absurd z (by decide), fun z => absurd z (by decide), fun z => absurd z (by decide), fun z => absurd z (by decide), fun z => absurd z (by decide), fun z => absurd z (by decide), fun z => absurd z (by decide), fun n _ z => absurd z (by omega), fun n _ z => absurd z (by omega), fun n _ z => absurd z (by omega)⟩
theorem ko_6 (h : okC K 6 c) : ∃ f, c = .inl (1, 200, .inl f) ∧ ∀ j, j < 200 → fits .byte (.int (f j)) = true := (h.2.2.2.2.2.1) rfl
theorem ok_7 (h : ∃ q k, c = .inr (0, [.ref q, .int (nI k)]) ∧ k ≤ 1000 ∧ K q = 8) : okC K 7 c := ⟨fun z => absurd z (by decide), fun z => absurd z (by decide), fun z => absurd z (by decide), fun z => absurd z (by decide), fun z => absurd z (by decide), fun z => absurd z (by decide), fun _ => h, fun z => absurd z (by decide), fun z => absurd z (by decide), fun z => absurd z (by decide), fun z => absurd z (by decide), fun z => absurd z (by decide), fun z => absurd z (by decide), fun z => absurd z (by decide), fun z => absurd z (by decide), fun n _ z => absurd z (by omega), fun n _ z => absurd z (by omega), fun n _ z => absurd z (by omega)⟩
theorem ko_7 (h : okC K 7 c) : ∃ q k, c = .inr (0, [.ref q, .int (nI k)]) ∧ k ≤ 1000 ∧ K q = 8 := (h.2.2.2.2.2.2.1) rfl
theorem ok_8 (h : ∃ f, c = .inl (1, 1000, .inl f) ∧ ∀ j, j < 1000 → fits .byte (.int (f j)) = true) : okC K 8 c := ⟨fun z => absurd z (by decide), fun z => absurd z (by decide), fun z => absurd z (by decide), fun z => absurd z (by decide), fun z => absurd z (by decide), fun z => absurd z (by decide), fun z => absurd z (by decide), fun _ => h, fun z => absurd z (by decide), fun z => absurd z (by decide), fun z => absurd z (by decide), fun z => absurd z (by decide), fun z => absurd z (by decide), fun z => absurd z (by decide), fun z => absurd z (by decide), fun n _ z => absurd z (by omega), fun n _ z => absurd z (by omega), fun n _ z => absurd z (by omega)⟩
theorem ko_8 (h : okC K 8 c) : ∃ f, c = .inl (1, 1000, .inl f) ∧ ∀ j, j < 1000 → fits .byte (.int (f j)) = true := (h.2.2.2.2.2.2.2.1) rfl
theorem ok_16 (h : ∃ n m r h z fr b g e hp mk, c = .inr (3, [.ref r, .ref h, .int z, .ref fr, .int b, .int g, .int e, .int hp, .int mk]) ∧ (n ≤ 16 ∧ m ≤ 16) ∧ K r = 100 + n ∧ K h = 100 + m ∧ K fr = 5) : okC K 16 c := ⟨fun z => absurd z (by decide), fun z => absurd z (by decide), fun z => absurd z (by decide), fun z => absurd z (by decide), fun z => absurd z (by decide), fun z => absurd z (by decide), fun z => absurd z (by decide), fun z => absurd z (by decide), fun _ => h, fun z => absurd z (by decide), fun z => absurd z (by decide), fun z => absurd z (by decide), fun z => absurd z (by decide), fun z => absurd z (by decide), fun z => absurd z (by decide), fun n _ z => absurd z (by omega), fun n _ z => absurd z (by omega), fun n _ z => absurd z (by omega)⟩
theorem ko_16 (h : okC K 16 c) : ∃ n m r h z fr b g e hp mk, c = .inr (3, [.ref r, .ref h, .int z, .ref fr, .int b, .int g, .int e, .int hp, .int mk]) ∧ (n ≤ 16 ∧ m ≤ 16) ∧ K r = 100 + n ∧ K h = 100 + m ∧ K fr = 5 := (h.2.2.2.2.2.2.2.2.1) rfl
theorem ok_18 (h : ∃ nu so ga mo hi qu pa po ac wa fi co me se op, c = .inr (4, [.int nu, .int (nI so), .int ga, .int (nI mo), .int hi, .int qu, .int pa, .ref po, .ref ac, .ref wa, .int (nI fi), .int (nI co), .int me, .int se, .int op]) ∧ (so < 4 ∧ (64 ≤ mo ∧ mo ≤ 128) ∧ fi < 8 ∧ co ≤ 8) ∧ K po = 19 ∧ K ac = 20 ∧ K wa = 21) : okC K 18 c := ⟨fun z => absurd z (by decide), fun z => absurd z (by decide), fun z => absurd z (by decide), fun z => absurd z (by decide), fun z => absurd z (by decide), fun z => absurd z (by decide), fun z => absurd z (by decide), fun z => absurd z (by decide), fun z => absurd z (by decide), fun _ => h, fun z => absurd z (by decide), fun z => absurd z (by decide), fun z => absurd z (by decide), fun z => absurd z (by decide), fun z => absurd z (by decide), fun n _ z => absurd z (by omega), fun n _ z => absurd z (by omega), fun n _ z => absurd z (by omega)⟩
theorem ko_18 (h : okC K 18 c) : ∃ nu so ga mo hi qu pa po ac wa fi co me se op, c = .inr (4, [.int nu, .int (nI so), .int ga, .int (nI mo), .int hi, .int qu, .int pa, .ref po, .ref ac, .ref wa, .int (nI fi), .int (nI co), .int me, .int se, .int op]) ∧ (so < 4 ∧ (64 ≤ mo ∧ mo ≤ 128) ∧ fi < 8 ∧ co ≤ 8) ∧ K po = 19 ∧ K ac = 20 ∧ K wa = 21 := (h.2.2.2.2.2.2.2.2.2.1) rfl
theorem ok_19 (h : ∃ f, c = .inl (7, rfs 4 f) ∧ ∀ j q, j < 4 → f j = some q → K q = 23) : okC K 19 c := ⟨fun z => absurd z (by decide), fun z => absurd z (by decide), fun z => absurd z (by decide), fun z => absurd z (by decide), fun z => absurd z (by decide), fun z => absurd z (by decide), fun z => absurd z (by decide), fun z => absurd z (by decide), fun z => absurd z (by decide), fun z => absurd z (by decide), fun _ => h, fun z => absurd z (by decide), fun z => absurd z (by decide), fun z => absurd z (by decide), fun z => absurd z (by decide), fun n _ z => absurd z (by omega), fun n _ z => absurd z (by omega), fun n _ z => absurd z (by omega)⟩
theorem ko_19 (h : okC K 19 c) : ∃ f, c = .inl (7, rfs 4 f) ∧ ∀ j q, j < 4 → f j = some q → K q = 23 := (h.2.2.2.2.2.2.2.2.2.2.1) rfl
theorem ok_20 (h : ∃ f, c = .inl (0, 2, .inl f)) : okC K 20 c := ⟨fun z => absurd z (by decide), fun z => absurd z (by decide), fun z => absurd z (by decide), fun z => absurd z (by decide), fun z => absurd z (by decide), fun z => absurd z (by decide), fun z => absurd z (by decide), fun z => absurd z (by decide), fun z => absurd z (by decide), fun z => absurd z (by decide), fun z => absurd z (by decide), fun _ => h, fun z => absurd z (by decide), fun z => absurd z (by decide), fun z => absurd z (by decide), fun n _ z => absurd z (by omega), fun n _ z => absurd z (by omega), fun n _ z => absurd z (by omega)⟩
theorem ko_20 (h : okC K 20 c) : ∃ f, c = .inl (0, 2, .inl f) := (h.2.2.2.2.2.2.2.2.2.2.2.1) rfl
theorem ok_21 (h : ∃ f, c = .inl (8, rfs 8 f) ∧ ∀ j, j < 8 → ∃ q, f j = some q ∧ K q = 22) : okC K 21 c := ⟨fun z => absurd z (by decide), fun z => absurd z (by decide), fun z => absurd z (by decide), fun z => absurd z (by decide), fun z => absurd z (by decide), fun z => absurd z (by decide), fun z => absurd z (by decide), fun z => absurd z (by decide), fun z => absurd z (by decide), fun z => absurd z (by decide), fun z => absurd z (by decide), fun z => absurd z (by decide), fun _ => h, fun z => absurd z (by decide), fun z => absurd z (by decide), fun n _ z => absurd z (by omega), fun n _ z => absurd z (by omega), fun n _ z => absurd z (by omega)⟩
theorem ko_21 (h : okC K 21 c) : ∃ f, c = .inl (8, rfs 8 f) ∧ ∀ j, j < 8 → ∃ q, f j = some q ∧ K q = 22 := (h.2.2.2.2.2.2.2.2.2.2.2.2.1) rfl
theorem ok_22 (h : ∃ a b d e g h, c = .inr (1, [.int a, .int b, .int d, .int e, .int g, .int h])) : okC K 22 c := ⟨fun z => absurd z (by decide), fun z => absurd z (by decide), fun z => absurd z (by decide), fun z => absurd z (by decide), fun z => absurd z (by decide), fun z => absurd z (by decide), fun z => absurd z (by decide), fun z => absurd z (by decide), fun z => absurd z (by decide), fun z => absurd z (by decide), fun z => absurd z (by decide), fun z => absurd z (by decide), fun z => absurd z (by decide), fun _ => h, fun z => absurd z (by decide), fun n _ z => absurd z (by omega), fun n _ z => absurd z (by omega), fun n _ z => absurd z (by omega)⟩
theorem ko_22 (h : okC K 22 c) : ∃ a b d e g h, c = .inr (1, [.int a, .int b, .int d, .int e, .int g, .int h]) := (h.2.2.2.2.2.2.2.2.2.2.2.2.2.1) rfl
theorem ok_23 (h : ∃ n z sk la ts ta ib bn be ke fk kc ca, c = .inr (5, [.int z, .int sk, .ref la, .int ts, .int ta, .int ib, .int bn, .ref be, .ref ke, .int (nI fk), .int (nI kc), .int ca]) ∧ (((z = 1 ∧ n = 4) ∨ (z = 0 ∧ n = 1)) ∧ fk < n ∧ kc ≤ n) ∧ K la = 20 ∧ K be = 7 ∧ K ke = 300 + n) : okC K 23 c := ⟨fun z => absurd z (by decide), fun z => absurd z (by decide), fun z => absurd z (by decide), fun z => absurd z (by decide), fun z => absurd z (by decide), fun z => absurd z (by decide), fun z => absurd z (by decide), fun z => absurd z (by decide), fun z => absurd z (by decide), fun z => absurd z (by decide), fun z => absurd z (by decide), fun z => absurd z (by decide), fun z => absurd z (by decide), fun z => absurd z (by decide), fun _ => h, fun n _ z => absurd z (by omega), fun n _ z => absurd z (by omega), fun n _ z => absurd z (by omega)⟩
theorem ko_23 (h : okC K 23 c) : ∃ n z sk la ts ta ib bn be ke fk kc ca, c = .inr (5, [.int z, .int sk, .ref la, .int ts, .int ta, .int ib, .int bn, .ref be, .ref ke, .int (nI fk), .int (nI kc), .int ca]) ∧ (((z = 1 ∧ n = 4) ∨ (z = 0 ∧ n = 1)) ∧ fk < n ∧ kc ≤ n) ∧ K la = 20 ∧ K be = 7 ∧ K ke = 300 + n := (h.2.2.2.2.2.2.2.2.2.2.2.2.2.2.1) rfl
theorem ok_R {n : Nat} (hn : n ≤ 16) (h : ∃ q a b, c = .inr (6, [.ref q, .int (nI a), .int (nI b)]) ∧ (b ≤ n ∧ (a < n ∨ a = 0)) ∧ K q = 200 + n) : okC K (100 + n) c := ⟨fun z => absurd z (by omega), fun z => absurd z (by omega), fun z => absurd z (by omega), fun z => absurd z (by omega), fun z => absurd z (by omega), fun z => absurd z (by omega), fun z => absurd z (by omega), fun z => absurd z (by omega), fun z => absurd z (by omega), fun z => absurd z (by omega), fun z => absurd z (by omega), fun z => absurd z (by omega), fun z => absurd z (by omega), fun z => absurd z (by omega), fun z => absurd z (by omega), fun m _ z => by
    have e : m = n := by omega
    subst e
    exact h, fun m _ z => absurd z (by omega), fun m _ z => absurd z (by omega)⟩
theorem ko_R {n : Nat} (hn : n ≤ 16) (h : okC K (100 + n) c) : ∃ q a b, c = .inr (6, [.ref q, .int (nI a), .int (nI b)]) ∧ (b ≤ n ∧ (a < n ∨ a = 0)) ∧ K q = 200 + n := (h.2.2.2.2.2.2.2.2.2.2.2.2.2.2.2.1) n hn rfl
theorem ok_S {n : Nat} (hn : n ≤ 16) (h : ∃ f, c = .inl (6, rfs n f) ∧ ∀ j q, j < n → f j = some q → K q = 5) : okC K (200 + n) c := ⟨fun z => absurd z (by omega), fun z => absurd z (by omega), fun z => absurd z (by omega), fun z => absurd z (by omega), fun z => absurd z (by omega), fun z => absurd z (by omega), fun z => absurd z (by omega), fun z => absurd z (by omega), fun z => absurd z (by omega), fun z => absurd z (by omega), fun z => absurd z (by omega), fun z => absurd z (by omega), fun z => absurd z (by omega), fun z => absurd z (by omega), fun z => absurd z (by omega), fun m _ z => absurd z (by omega), fun m _ z => by
    have e : m = n := by omega
    subst e
    exact h, fun m _ z => absurd z (by omega)⟩
theorem ko_S {n : Nat} (hn : n ≤ 16) (h : okC K (200 + n) c) : ∃ f, c = .inl (6, rfs n f) ∧ ∀ j q, j < n → f j = some q → K q = 5 := (h.2.2.2.2.2.2.2.2.2.2.2.2.2.2.2.2.1) n hn rfl
theorem ok_D {n : Nat} (hn : n ≤ 16) (h : ∃ f, c = .inl (9, rfs n f) ∧ ∀ j q, j < n → f j = some q → K q = 7) : okC K (300 + n) c := ⟨fun z => absurd z (by omega), fun z => absurd z (by omega), fun z => absurd z (by omega), fun z => absurd z (by omega), fun z => absurd z (by omega), fun z => absurd z (by omega), fun z => absurd z (by omega), fun z => absurd z (by omega), fun z => absurd z (by omega), fun z => absurd z (by omega), fun z => absurd z (by omega), fun z => absurd z (by omega), fun z => absurd z (by omega), fun z => absurd z (by omega), fun z => absurd z (by omega), fun m _ z => absurd z (by omega), fun m _ z => absurd z (by omega), fun m _ z => by
    have e : m = n := by omega
    subst e
    exact h⟩
theorem ko_D {n : Nat} (hn : n ≤ 16) (h : okC K (300 + n) c) : ∃ f, c = .inl (9, rfs n f) ∧ ∀ j q, j < n → f j = some q → K q = 7 := (h.2.2.2.2.2.2.2.2.2.2.2.2.2.2.2.2.2) n hn rfl
theorem okC.mono {kd : Nat} (h : okC K kd c) (hm : ∀ q, K q ≠ 0 → K' q = K q) : okC K' kd c := by
  have g : ∀ q k, k ≠ 0 → K q = k → K' q = k := fun q k hk e => (hm q (by rw [e]; exact hk)).trans e
  refine ⟨?_, ?_, ?_, ?_, ?_, ?_, ?_, ?_, ?_, ?_, ?_, ?_, ?_, ?_, ?_, ?_, ?_, ?_⟩
  · exact fun z => h.1 z
  · exact fun z => (h.2.1 z).elim fun f x => ⟨f, x.1, fun j q a y => g _ _ (by omega) (x.2 j q a y)⟩
  · exact fun z => (h.2.2.1 z).elim fun f x => ⟨f, x.1, fun j a => (x.2 j a).elim fun q y => ⟨q, y.1, g _ _ (by omega) y.2⟩⟩
  · exact fun z => h.2.2.2.1 z
  · exact fun z => by
      obtain ⟨q, k, e, a, x⟩ := h.2.2.2.2.1 z
      exact ⟨q, k, e, a, g _ _ (by omega) x⟩
  · exact fun z => h.2.2.2.2.2.1 z
  · exact fun z => by
      obtain ⟨q, k, e, a, x⟩ := h.2.2.2.2.2.2.1 z
      exact ⟨q, k, e, a, g _ _ (by omega) x⟩
  · exact fun z => h.2.2.2.2.2.2.2.1 z
  · exact fun z => by
      obtain ⟨n, m, r, h', z', fr, b, gg, e, hp, mk, e1, e2, x1, x2, x3⟩ := h.2.2.2.2.2.2.2.2.1 z
      exact ⟨n, m, r, h', z', fr, b, gg, e, hp, mk, e1, e2, g _ _ (by omega) x1, g _ _ (by omega) x2, g _ _ (by omega) x3⟩
  · exact fun z => by
      obtain ⟨nu, so, ga, mo, hi, qu, pa, po, ac, wa, fi, co, me, se, op, e1, e2, x1, x2, x3⟩ := h.2.2.2.2.2.2.2.2.2.1 z
      exact ⟨nu, so, ga, mo, hi, qu, pa, po, ac, wa, fi, co, me, se, op, e1, e2, g _ _ (by omega) x1, g _ _ (by omega) x2, g _ _ (by omega) x3⟩
  · exact fun z => (h.2.2.2.2.2.2.2.2.2.2.1 z).elim fun f x => ⟨f, x.1, fun j q a y => g _ _ (by omega) (x.2 j q a y)⟩
  · exact fun z => h.2.2.2.2.2.2.2.2.2.2.2.1 z
  · exact fun z => (h.2.2.2.2.2.2.2.2.2.2.2.2.1 z).elim fun f x => ⟨f, x.1, fun j a => (x.2 j a).elim fun q y => ⟨q, y.1, g _ _ (by omega) y.2⟩⟩
  · exact fun z => h.2.2.2.2.2.2.2.2.2.2.2.2.2.1 z
  · exact fun z => by
      obtain ⟨n, z', sk, la, ts, ta, ib, bn, be, ke, fk, kc, ca, e1, e2, x1, x2, x3⟩ := h.2.2.2.2.2.2.2.2.2.2.2.2.2.2.1 z
      exact ⟨n, z', sk, la, ts, ta, ib, bn, be, ke, fk, kc, ca, e1, e2, g _ _ (by omega) x1, g _ _ (by omega) x2, g _ _ (by omega) x3⟩
  · exact fun n hn z => by
      obtain ⟨q, a, b, e, x, y⟩ := h.2.2.2.2.2.2.2.2.2.2.2.2.2.2.2.1 n hn z
      exact ⟨q, a, b, e, x, g _ _ (by omega) y⟩
  · exact fun n hn z => (h.2.2.2.2.2.2.2.2.2.2.2.2.2.2.2.2.1 n hn z).elim fun f x => ⟨f, x.1, fun j q a y => g _ _ (by omega) (x.2 j q a y)⟩
  · exact fun n hn z => (h.2.2.2.2.2.2.2.2.2.2.2.2.2.2.2.2.2 n hn z).elim fun f x => ⟨f, x.1, fun j q a y => g _ _ (by omega) (x.2 j q a y)⟩
/-- every cell that has a kind keeps to it -/
def Ty (σ : ae_S) (K : Nat → Nat) : Prop := ∀ p, K p ≠ 0 → ∃ c, σ.2[p]? = some c ∧ okC K (K p) c
theorem Ty.lt (h : Ty σ K) (hp : K p ≠ 0) : p < σ.2.length := by
  obtain ⟨c, h1, _⟩ := h p hp
  exact (List.getElem?_eq_some_iff.mp h1).1
theorem Ty.at {kd : Nat} (h : Ty σ K) (hp : K p = kd) (h0 : kd ≠ 0) : ∃ c, σ.2[p]? = some c ∧ okC K kd c := by
  subst hp
  exact h p h0
theorem Ty.k1 (h : Ty σ K) (hp : K p = 1) : ∃ t, σ.2[p]? = some (.inr (7, [.ref 1, .ref 2, .ref 3, .ref 4, .ref 6, .int t])) := by
  obtain ⟨c, h1, h2⟩ := h.at hp (by decide)
  obtain ⟨v0, rfl⟩ := ko_1 h2
  exact ⟨v0, h1⟩
theorem Ty.k2 (h : Ty σ K) (hp : K p = 2) : ∃ f, σ.2[p]? = some (.inl (4, rfs 8 f)) ∧ ∀ j q, j < 8 → f j = some q → K q = 18 := by
  obtain ⟨c, h1, h2⟩ := h.at hp (by decide)
  obtain ⟨v0, rfl, h3⟩ := ko_2 h2
  exact ⟨v0, h1, h3⟩
theorem Ty.k3 (h : Ty σ K) (hp : K p = 3) : ∃ f, σ.2[p]? = some (.inl (5, rfs 24 f)) ∧ ∀ j, j < 24 → ∃ q, f j = some q ∧ K q = 16 := by
  obtain ⟨c, h1, h2⟩ := h.at hp (by decide)
  obtain ⟨v0, rfl, h3⟩ := ko_3 h2
  exact ⟨v0, h1, h3⟩
theorem Ty.k4 (h : Ty σ K) (hp : K p = 4) : ∃ f, σ.2[p]? = some (.inl (0, 12, .inl f)) := by
  obtain ⟨c, h1, h2⟩ := h.at hp (by decide)
  obtain ⟨v0, rfl⟩ := ko_4 h2
  exact ⟨v0, h1⟩
theorem Ty.k5 (h : Ty σ K) (hp : K p = 5) : ∃ q k, σ.2[p]? = some (.inr (2, [.ref q, .int (nI k)])) ∧ k ≤ 200 ∧ K q = 6 := by
  obtain ⟨c, h1, h2⟩ := h.at hp (by decide)
  obtain ⟨v0, v1, rfl, h3⟩ := ko_5 h2
  exact ⟨v0, v1, h1, h3⟩
theorem Ty.k6 (h : Ty σ K) (hp : K p = 6) : ∃ f, σ.2[p]? = some (.inl (1, 200, .inl f)) ∧ ∀ j, j < 200 → fits .byte (.int (f j)) = true := by
  obtain ⟨c, h1, h2⟩ := h.at hp (by decide)
  obtain ⟨v0, rfl, h3⟩ := ko_6 h2
  exact ⟨v0, h1, h3⟩
theorem Ty.k7 (h : Ty σ K) (hp : K p = 7) : ∃ q k, σ.2[p]? = some (.inr (0, [.ref q, .int (nI k)])) ∧ k ≤ 1000 ∧ K q = 8 := by
  obtain ⟨c, h1, h2⟩ := h.at hp (by decide)
  obtain ⟨v0, v1, rfl, h3⟩ := ko_7 h2
  exact ⟨v0, v1, h1, h3⟩
theorem Ty.k8 (h : Ty σ K) (hp : K p = 8) : ∃ f, σ.2[p]? = some (.inl (1, 1000, .inl f)) ∧ ∀ j, j < 1000 → fits .byte (.int (f j)) = true := by
  obtain ⟨c, h1, h2⟩ := h.at hp (by decide)
  obtain ⟨v0, rfl, h3⟩ := ko_8 h2
  exact ⟨v0, h1, h3⟩
theorem Ty.k16 (h : Ty σ K) (hp : K p = 16) : ∃ n m r h z fr b g e hp mk, σ.2[p]? = some (.inr (3, [.ref r, .ref h, .int z, .ref fr, .int b, .int g, .int e, .int hp, .int mk])) ∧ (n ≤ 16 ∧ m ≤ 16) ∧ K r = 100 + n ∧ K h = 100 + m ∧ K fr = 5 := by
  obtain ⟨c, h1, h2⟩ := h.at hp (by decide)
  obtain ⟨v0, v1, v2, v3, v4, v5, v6, v7, v8, v9, v10, rfl, h3⟩ := ko_16 h2
  exact ⟨v0, v1, v2, v3, v4, v5, v6, v7, v8, v9, v10, h1, h3⟩
theorem Ty.k18 (h : Ty σ K) (hp : K p = 18) : ∃ nu so ga mo hi qu pa po ac wa fi co me se op, σ.2[p]? = some (.inr (4, [.int nu, .int (nI so), .int ga, .int (nI mo), .int hi, .int qu, .int pa, .ref po, .ref ac, .ref wa, .int (nI fi), .int (nI co), .int me, .int se, .int op])) ∧ (so < 4 ∧ (64 ≤ mo ∧ mo ≤ 128) ∧ fi < 8 ∧ co ≤ 8) ∧ K po = 19 ∧ K ac = 20 ∧ K wa = 21 := by
  obtain ⟨c, h1, h2⟩ := h.at hp (by decide)
  obtain ⟨v0, v1, v2, v3, v4, v5, v6, v7, v8, v9, v10, v11, v12, v13, v14, rfl, h3⟩ := ko_18 h2
  exact ⟨v0, v1, v2, v3, v4, v5, v6, v7, v8, v9, v10, v11, v12, v13, v14, h1, h3⟩
theorem Ty.k19 (h : Ty σ K) (hp : K p = 19) : ∃ f, σ.2[p]? = some (.inl (7, rfs 4 f)) ∧ ∀ j q, j < 4 → f j = some q → K q = 23 := by
  obtain ⟨c, h1, h2⟩ := h.at hp (by decide)
  obtain ⟨v0, rfl, h3⟩ := ko_19 h2
  exact ⟨v0, h1, h3⟩
theorem Ty.k20 (h : Ty σ K) (hp : K p = 20) : ∃ f, σ.2[p]? = some (.inl (0, 2, .inl f)) := by
  obtain ⟨c, h1, h2⟩ := h.at hp (by decide)
  obtain ⟨v0, rfl⟩ := ko_20 h2
  exact ⟨v0, h1⟩
theorem Ty.k21 (h : Ty σ K) (hp : K p = 21) : ∃ f, σ.2[p]? = some (.inl (8, rfs 8 f)) ∧ ∀ j, j < 8 → ∃ q, f j = some q ∧ K q = 22 := by
  obtain ⟨c, h1, h2⟩ := h.at hp (by decide)
  obtain ⟨v0, rfl, h3⟩ := ko_21 h2
  exact ⟨v0, h1, h3⟩
theorem Ty.k22 (h : Ty σ K) (hp : K p = 22) : ∃ a b d e g h, σ.2[p]? = some (.inr (1, [.int a, .int b, .int d, .int e, .int g, .int h])) := by
  obtain ⟨c, h1, h2⟩ := h.at hp (by decide)
  obtain ⟨v0, v1, v2, v3, v4, v5, rfl⟩ := ko_22 h2
  exact ⟨v0, v1, v2, v3, v4, v5, h1⟩
theorem Ty.k23 (h : Ty σ K) (hp : K p = 23) : ∃ n z sk la ts ta ib bn be ke fk kc ca, σ.2[p]? = some (.inr (5, [.int z, .int sk, .ref la, .int ts, .int ta, .int ib, .int bn, .ref be, .ref ke, .int (nI fk), .int (nI kc), .int ca])) ∧ (((z = 1 ∧ n = 4) ∨ (z = 0 ∧ n = 1)) ∧ fk < n ∧ kc ≤ n) ∧ K la = 20 ∧ K be = 7 ∧ K ke = 300 + n := by
  obtain ⟨c, h1, h2⟩ := h.at hp (by decide)
  obtain ⟨v0, v1, v2, v3, v4, v5, v6, v7, v8, v9, v10, v11, v12, rfl, h3⟩ := ko_23 h2
  exact ⟨v0, v1, v2, v3, v4, v5, v6, v7, v8, v9, v10, v11, v12, h1, h3⟩
theorem Ty.kR {n : Nat} (h : Ty σ K) (hn : n ≤ 16) (hp : K p = 100 + n) : ∃ q a b, σ.2[p]? = some (.inr (6, [.ref q, .int (nI a), .int (nI b)])) ∧ (b ≤ n ∧ (a < n ∨ a = 0)) ∧ K q = 200 + n := by
  obtain ⟨c, h1, h2⟩ := h.at hp (by omega)
  obtain ⟨v0, v1, v2, rfl, h3⟩ := ko_R hn h2
  exact ⟨v0, v1, v2, h1, h3⟩
theorem Ty.kS {n : Nat} (h : Ty σ K) (hn : n ≤ 16) (hp : K p = 200 + n) : ∃ f, σ.2[p]? = some (.inl (6, rfs n f)) ∧ ∀ j q, j < n → f j = some q → K q = 5 := by
  obtain ⟨c, h1, h2⟩ := h.at hp (by omega)
  obtain ⟨v0, rfl, h3⟩ := ko_S hn h2
  exact ⟨v0, h1, h3⟩
theorem Ty.kD {n : Nat} (h : Ty σ K) (hn : n ≤ 16) (hp : K p = 300 + n) : ∃ f, σ.2[p]? = some (.inl (9, rfs n f)) ∧ ∀ j q, j < n → f j = some q → K q = 7 := by
  obtain ⟨c, h1, h2⟩ := h.at hp (by omega)
  obtain ⟨v0, rfl, h3⟩ := ko_D hn h2
  exact ⟨v0, h1, h3⟩
/-- kinds that don't move -/
def Cs (b : Bool) (kd : Nat) : Prop := kd = 2 ∨ kd = 3 ∨ kd = 19 ∨ (b = true ∧ (kd = 1 ∨ kd = 18))
theorem Cs.ne {kd : Nat} (h : Cs b kd) : kd ≠ 0 := by
  rcases h with h | h | h | ⟨_, h | h⟩ <;> omega
/-- from a typed store to another: kinds stay, cells without a kind stay, the weight doesn't grow but for s and t -/
def Ex (b : Bool) (s t : Nat) (K : Nat → Nat) (σ : ae_S) (K' : Nat → Nat) (σ' : ae_S) : Prop :=
  Ty σ' K' ∧ σ.2.length ≤ σ'.2.length ∧ (∀ p, K p ≠ 0 → K' p = K p) ∧ (∀ p, p < σ.2.length → K p = 0 → K' p = 0 ∧ σ'.2[p]? = σ.2[p]?) ∧ (∀ p, Cs b (K p) → σ'.2[p]? = σ.2[p]?) ∧ Wt1 σ' ≤ Wt1 σ + s ∧ Wt2 σ' ≤ Wt2 σ + t
theorem Ex.refl (h : Ty σ K) : Ex b 0 0 K σ K σ := ⟨h, Nat.le_refl _, fun _ _ => rfl, fun _ _ h => ⟨h, rfl⟩, fun _ _ => rfl, Nat.le_refl _, Nat.le_refl _⟩
theorem Ex.trans {s t s' t' : Nat} {K2 : Nat → Nat} {σ2 : ae_S} (h : Ex b s t K σ K' σ') (h2 : Ex b s' t' K' σ' K2 σ2) : Ex b (s + s') (t + t') K σ K2 σ2 := by
  obtain ⟨a1, a2, a3, a4, a5, a6, a7⟩ := h
  obtain ⟨b1, b2, b3, b4, b5, b6, b7⟩ := h2
  refine ⟨b1, Nat.le_trans a2 b2, fun p hp => ?_, fun p h1 h2 => ?_, fun p hp => ?_, by omega, by omega⟩
  · have e := a3 p hp
    exact (b3 p (by rw [e]; exact hp)).trans e
  · obtain ⟨x1, x2⟩ := a4 p h1 h2
    obtain ⟨y1, y2⟩ := b4 p (Nat.lt_of_lt_of_le h1 a2) x1
    exact ⟨y1, y2.trans x2⟩
  · exact (b5 p (by rw [a3 p hp.ne]; exact hp)).trans (a5 p hp)
theorem Ex.le {s t s' t' : Nat} (h : Ex b s t K σ K' σ') (h1 : s ≤ s') (h2 : t ≤ t') : Ex b s' t' K σ K' σ' := by
  obtain ⟨a1, a2, a3, a4, a5, a6, a7⟩ := h
  exact ⟨a1, a2, a3, a4, a5, by omega, by omega⟩
theorem Ex.weak {s t : Nat} (h : Ex true s t K σ K' σ') : Ex b s t K σ K' σ' := by
  obtain ⟨a1, a2, a3, a4, a5, a6, a7⟩ := h
  refine ⟨a1, a2, a3, a4, fun p hp => a5 p ?_, a6, a7⟩
  rcases hp with h | h | h | h
  · exact Or.inl h
  · exact Or.inr (Or.inl h)
  · exact Or.inr (Or.inr (Or.inl h))
  · exact Or.inr (Or.inr (Or.inr ⟨rfl, h.2⟩))
theorem Ty.set (h : Ty σ K) (hp : σ.2[p]? = some c0) (hok : K p ≠ 0 → okC K (K p) c) : Ty (σ.1, σ.2.set p c) K := by
  intro q hq
  by_cases e : p = q
  · subst e
    exact ⟨c, st_get hp, hok hq⟩
  · obtain ⟨x, h1, h2⟩ := h q hq
    exact ⟨x, (st_ne e).trans h1, h2⟩
theorem Ex.set {s t : Nat} (h : Ex b s t K0 σ0 K σ) (hp : σ.2[p]? = some c0) (hk : K p ≠ 0) (hcs : ¬ Cs b (K p)) (hok : okC K (K p) c) (hw : (wt c).1 ≤ (wt c0).1 ∧ (wt c).2 ≤ (wt c0).2) : Ex b s t K0 σ0 K (σ.1, σ.2.set p c) := by
  obtain ⟨a1, a2, a3, a4, a5, a6, a7⟩ := h
  have w1 := sum_set (fun c => (wt c).1) (c0 := c0) (c := c) hp
  have w2 := sum_set (fun c => (wt c).2) (c0 := c0) (c := c) hp
  refine ⟨a1.set hp (fun _ => hok), by rw [List.length_set]; exact a2, a3, fun q h1 h2 => ?_, fun q hq => ?_, ?_, ?_⟩
  · obtain ⟨x1, x2⟩ := a4 q h1 h2
    exact ⟨x1, (st_ne (fun e => hk (by rw [e]; exact x1))).trans x2⟩
  · refine (st_ne (fun e => hcs ?_)).trans (a5 q hq)
    rw [e, a3 q hq.ne]
    exact hq
  · unfold Wt1 at *
    simp only at *
    omega
  · unfold Wt2 at *
    simp only at *
    omega
theorem Ex.ty {s t : Nat} (h : Ex b s t K σ K' σ') : Ty σ' K' := h.1
theorem Ex.kd {s t : Nat} (h : Ex b s t K σ K' σ') {kd : Nat} (hp : K p = kd) (h0 : kd ≠ 0) : K' p = kd := (h.2.2.1 p (by rw [hp]; exact h0)).trans hp
end TYP
