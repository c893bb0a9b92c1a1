section RF1
theorem nI_inj {a c : Nat} (ha : a < 2 ^ 31) (hc : c < 2 ^ 31) (h : nI a = nI c) : a = c := by
  have := congrArg Int32.toNatClampNeg h
  rwa [nI_clamp ha, nI_clamp hc] at this
theorem nI_nm1 {a : Nat} (ha : a < 2 ^ 31) : nI a ≠ -1 := fun h => by
  have h1 : ¬ nI a < 0 := Int32.not_lt.mpr (nI_le (a := 0) (Nat.zero_le _) ha)
  rw [h] at h1
  exact h1 (by decide)
/-- a number from nought on, below n -/
def rg (x : Int32) (n : Nat) : Prop := ∃ k, k < n ∧ x = nI k
theorem rg.mono {x : Int32} {n m : Nat} (h : rg x n) (hm : n ≤ m) : rg x m := by
  obtain ⟨k, h1, h2⟩ := h
  exact ⟨k, by omega, h2⟩
theorem rg_bv {x : Int32} {n : Nat} (h : x.toBitVec.toNat < n) : rg x n := by
  refine ⟨x.toBitVec.toNat, h, ?_⟩
  apply Int32.toBitVec_inj.mp
  show _ = (Int32.ofNat _).toBitVec
  rw [Int32.toBitVec_ofNat', BitVec.ofNat_toNat, BitVec.setWidth_eq]
theorem nI_bv {k : Nat} (hk : k < 2 ^ 32) : (nI k).toBitVec.toNat = k := by
  show (Int32.ofNat k).toBitVec.toNat = k
  rw [Int32.toBitVec_ofNat', BitVec.toNat_ofNat, Nat.mod_eq_of_lt hk]
theorem rg_and (x : Int32) : rg (x &&& 255) 256 := by
  apply rg_bv
  rw [Int32.toBitVec_and, BitVec.toNat_and]
  exact Nat.lt_succ_of_le Nat.and_le_right
theorem rg_xor {x y : Int32} (hx : rg x 256) (hy : rg y 256) : rg (x ^^^ y) 256 := by
  obtain ⟨i, hi, rfl⟩ := hx
  obtain ⟨j, hj, rfl⟩ := hy
  apply rg_bv
  rw [Int32.toBitVec_xor, BitVec.toNat_xor, nI_bv (by omega), nI_bv (by omega)]
  exact Nat.xor_lt_two_pow (n := 8) hi hj
def GA (i s m : Nat → Int32) : Prop := (∀ l, l < 8 → rg (s l) 4) ∧ (∀ l, l < 8 → i l ≠ 0 → ∃ k, 64 ≤ k ∧ k ≤ 128 ∧ m l = nI k)
def GW (w : Nat → Int32) : Prop := ∀ l, l < 8 → rg (w l) 9
def GB (f : Nat → Int32) : Prop := ∀ i, i < 80000 → rg (f i) 256
def cap (r : Nat) : Nat := if r / 2 % 12 < 4 then (if r % 2 = 0 then 16 else 0) else 4
theorem cap_le (r : Nat) : cap r ≤ 16 := by
  unfold cap
  split
  · split <;> omega
  · omega
/-- a frame that stands in a row or on a line -/
def Li (row rsz on : Nat → Int32) (f : Nat) : Prop := (∃ r j m, r < 48 ∧ j < m ∧ m ≤ 16 ∧ rsz r = nI m ∧ row (16 * r + j) = nI f) ∨ ∃ l, l < 24 ∧ on l = nI f
def GN (siz usd row rsz on : Nat → Int32) (a e : List Nat) : Prop :=
  (∀ r, r < 48 → ∃ m, m ≤ cap r ∧ rsz r = nI m ∧ ∀ j, j < m → rg (row (16 * r + j)) 400) ∧
  (∀ l, l < 24 → on l = -1 ∨ rg (on l) 400) ∧
  (∀ f, f < 400 → Li row rsz on f ∨ f ∈ a → ∃ m, 64 ≤ m ∧ m ≤ 200 ∧ siz f = nI m) ∧
  (∀ f, f < 400 → usd f ≠ 0 → Li row rsz on f ∨ f ∈ e)
def GH (hp hm : Nat → Int32) : Prop := ∀ l, l < 24 → ¬ hp l < 0 ∧ (hm l = -1 ∨ rg (hm l) 256)
def GP (tak bgs msg mss : Nat → Int32) : Prop := (∀ k, k < 32 → tak k = -1 ∨ rg (tak k) 256) ∧ (∀ k, k < 32 → rg (bgs k) 1001) ∧ (∀ k, k < 32 → rg (msg k) 5) ∧ ∀ i, i < 128 → rg (mss i) 993
/-- a row without its first frame -/
def shl (row : Nat → Int32) (r k : Nat) : Nat → Int32 := fun i => if 16 * r ≤ i ∧ i < 16 * r + k then row (i + 1) else row i
theorem shl_0 (row : Nat → Int32) (r : Nat) : shl row r 0 = row := by
  funext i
  unfold shl
  rw [if_neg (by omega)]
theorem shl_s (row : Nat → Int32) (r k : Nat) : upd (shl row r k) (16 * r + k) (row (16 * r + k + 1)) = shl row r (k + 1) := by
  funext i
  by_cases e : i = 16 * r + k
  · rw [e, pk_us]
    unfold shl
    rw [if_pos (by omega)]
  · rw [pk_un e]
    unfold shl
    by_cases h : 16 * r ≤ i ∧ i < 16 * r + k
    · rw [if_pos h, if_pos (by omega)]
    · rw [if_neg h, if_neg (by omega)]
section GNL
variable {siz usd row rsz on : Nat → Int32} {a e : List Nat} {f r m l : Nat}
theorem GN.pull (h : GN siz usd row rsz on a e) (hr : r < 48) (hm : rsz r = nI (m + 1)) (hm15 : m ≤ 15) : ∃ f, f < 400 ∧ row (16 * r) = nI f ∧ GN siz usd (shl row r m) (upd rsz r (nI m)) on (f :: a) (f :: e) := by
  obtain ⟨h1, h2, h3, h4⟩ := h
  obtain ⟨m', c1, c2, c3⟩ := h1 r hr
  have hcr := cap_le r
  have em : m' = m + 1 := nI_inj (by omega) (by omega) (c2.symm.trans hm)
  subst em
  obtain ⟨f, hf, ef⟩ := c3 0 (by omega)
  have ef : row (16 * r) = nI f := ef
  -- the old list lies in the new one
  have up : ∀ g, Li row rsz on g → Li (shl row r m) (upd rsz r (nI m)) on g ∨ nI g = nI f := by
    intro g hg
    rcases hg with ⟨r', j, n, q1, q2, q3, q4, q5⟩ | hg
    · by_cases e : r' = r
      · subst e
        have en : n = m + 1 := nI_inj (by omega) (by omega) (q4.symm.trans hm)
        cases j with
        | zero => exact Or.inr (q5.symm.trans ef)
        | succ j =>
          refine Or.inl (Or.inl ⟨r', j, m, q1, by omega, by omega, pk_us, ?_⟩)
          unfold shl
          rw [if_pos (by omega)]
          exact q5
      · refine Or.inl (Or.inl ⟨r', j, n, q1, q2, q3, (pk_un e).trans q4, ?_⟩)
        unfold shl
        rw [if_neg (by omega)]
        exact q5
    · exact Or.inl (Or.inr hg)
  have dn : ∀ g, Li (shl row r m) (upd rsz r (nI m)) on g → Li row rsz on g := by
    intro g hg
    rcases hg with ⟨r', j, n, q1, q2, q3, q4, q5⟩ | hg
    · by_cases e : r' = r
      · subst e
        rw [pk_us] at q4
        have en : n = m := nI_inj (by omega) (by omega) q4.symm
        unfold shl at q5
        rw [if_pos (by omega)] at q5
        exact Or.inl ⟨r', j + 1, m + 1, q1, by omega, by omega, hm, q5⟩
      · rw [pk_un e] at q4
        unfold shl at q5
        rw [if_neg (by omega)] at q5
        exact Or.inl ⟨r', j, n, q1, q2, q3, q4, q5⟩
    · exact Or.inr hg
  refine ⟨f, hf, ef, fun r' hr' => ?_, h2, fun g hg1 hg2 => ?_, fun g hg1 hg2 => ?_⟩
  · by_cases e : r' = r
    · subst e
      refine ⟨m, by omega, pk_us, fun j hj => ?_⟩
      unfold shl
      rw [if_pos (by omega)]
      exact c3 (j + 1) (by omega)
    · obtain ⟨n, d1, d2, d3⟩ := h1 r' hr'
      have := cap_le r'
      refine ⟨n, d1, (pk_un e).trans d2, fun j hj => ?_⟩
      unfold shl
      rw [if_neg (by omega)]
      exact d3 j hj
  · rcases hg2 with hg2 | hg2
    · exact h3 g hg1 (Or.inl (dn g hg2))
    · rcases List.mem_cons.mp hg2 with rfl | hg2
      · exact h3 g hg1 (Or.inl (Or.inl ⟨r, 0, m + 1, hr, by omega, by omega, hm, ef⟩))
      · exact h3 g hg1 (Or.inr hg2)
  · rcases h4 g hg1 hg2 with hg | hg
    · rcases up g hg with z | z
      · exact Or.inl z
      · exact Or.inr (List.mem_cons.mpr (Or.inl (nI_inj (by omega) (by omega) z)))
    · exact Or.inr (List.mem_cons_of_mem _ hg)
theorem GN.enter (h : GN siz usd row rsz on (f :: a) (f :: e)) (hf : f < 400) (hr : r < 48) (hm : rsz r = nI m) (hc : m < cap r) : GN siz usd (upd row (16 * r + m) (nI f)) (upd rsz r (nI (m + 1))) on a e := by
  obtain ⟨h1, h2, h3, h4⟩ := h
  have hcr := cap_le r
  obtain ⟨m', c1, c2, c3⟩ := h1 r hr
  have em : m' = m := nI_inj (by omega) (by omega) (c2.symm.trans hm)
  subst em
  have up : ∀ g, Li row rsz on g → Li (upd row (16 * r + m') (nI f)) (upd rsz r (nI (m' + 1))) on g := by
    intro g hg
    rcases hg with ⟨r', j, n, q1, q2, q3, q4, q5⟩ | hg
    · by_cases e : r' = r
      · subst e
        have en : n = m' := nI_inj (by omega) (by omega) (q4.symm.trans hm)
        exact Or.inl ⟨r', j, m' + 1, q1, by omega, by omega, pk_us, (pk_un (by omega)).trans q5⟩
      · exact Or.inl ⟨r', j, n, q1, q2, q3, (pk_un e).trans q4, (pk_un (by omega)).trans q5⟩
    · exact Or.inr hg
  have dn : ∀ g, g < 400 → Li (upd row (16 * r + m') (nI f)) (upd rsz r (nI (m' + 1))) on g → Li row rsz on g ∨ g = f := by
    intro g hg4 hg
    rcases hg with ⟨r', j, n, q1, q2, q3, q4, q5⟩ | hg
    · by_cases e : r' = r
      · subst e
        rw [pk_us] at q4
        have en : n = m' + 1 := nI_inj (by omega) (by omega) q4.symm
        by_cases ej : j = m'
        · subst ej
          rw [pk_us] at q5
          exact Or.inr (nI_inj (by omega) (by omega) q5.symm)
        · rw [pk_un (by omega)] at q5
          exact Or.inl (Or.inl ⟨r', j, m', q1, by omega, by omega, hm, q5⟩)
      · rw [pk_un e] at q4
        rw [pk_un (by omega)] at q5
        exact Or.inl (Or.inl ⟨r', j, n, q1, q2, q3, q4, q5⟩)
    · exact Or.inl (Or.inr hg)
  refine ⟨fun r' hr' => ?_, h2, fun g hg1 hg2 => ?_, fun g hg1 hg2 => ?_⟩
  · by_cases e : r' = r
    · subst e
      refine ⟨m' + 1, by omega, pk_us, fun j hj => ?_⟩
      by_cases ej : j = m'
      · subst ej
        rw [pk_us]
        exact ⟨f, hf, rfl⟩
      · rw [pk_un (by omega)]
        exact c3 j (by omega)
    · obtain ⟨n, d1, d2, d3⟩ := h1 r' hr'
      have := cap_le r'
      refine ⟨n, d1, (pk_un e).trans d2, fun j hj => ?_⟩
      rw [pk_un (by omega)]
      exact d3 j hj
  · rcases hg2 with hg2 | hg2
    · rcases dn g hg1 hg2 with z | z
      · exact h3 g hg1 (Or.inl z)
      · exact h3 g hg1 (Or.inr (List.mem_cons.mpr (Or.inl z)))
    · exact h3 g hg1 (Or.inr (List.mem_cons_of_mem _ hg2))
  · rcases h4 g hg1 hg2 with hg | hg
    · exact Or.inl (up g hg)
    · rcases List.mem_cons.mp hg with rfl | hg
      · exact Or.inl (Or.inl ⟨r, m', m' + 1, hr, by omega, by omega, pk_us, pk_us⟩)
      · exact Or.inr hg
theorem GN.free (h : GN siz usd row rsz on (f :: a) (f :: e)) : GN siz (upd usd f 0) row rsz on a e := by
  obtain ⟨h1, h2, h3, h4⟩ := h
  refine ⟨h1, h2, fun g hg1 hg2 => h3 g hg1 (hg2.imp id (List.mem_cons_of_mem _)), fun g hg1 hg2 => ?_⟩
  by_cases e : g = f
  · rw [e, pk_us] at hg2
    exact absurd rfl hg2
  · rw [pk_un e] at hg2
    rcases h4 g hg1 hg2 with hg | hg
    · exact Or.inl hg
    · exact Or.inr ((List.mem_cons.mp hg).resolve_left e)
theorem GN.take (h : GN siz usd row rsz on a e) (x : Int32) : GN siz (upd usd f x) row rsz on a (f :: e) := by
  obtain ⟨h1, h2, h3, h4⟩ := h
  refine ⟨h1, h2, h3, fun g hg1 hg2 => ?_⟩
  by_cases e : g = f
  · exact Or.inr (List.mem_cons.mpr (Or.inl e))
  · rw [pk_un e] at hg2
    exact (h4 g hg1 hg2).imp id (List.mem_cons_of_mem _)
theorem GN.size (h : GN siz usd row rsz on a e) (h1 : 64 ≤ m) (h2 : m ≤ 200) : GN (upd siz f (nI m)) usd row rsz on (f :: a) e := by
  obtain ⟨g1, g2, g3, g4⟩ := h
  refine ⟨g1, g2, fun g hg1 hg2 => ?_, g4⟩
  by_cases e : g = f
  · rw [e, pk_us]
    exact ⟨m, h1, h2, rfl⟩
  · rw [pk_un e]
    rcases hg2 with hg2 | hg2
    · exact g3 g hg1 (Or.inl hg2)
    · exact g3 g hg1 (Or.inr ((List.mem_cons.mp hg2).resolve_left e))
theorem GN.onF (h : GN siz usd row rsz on (f :: a) (f :: e)) (hf : f < 400) (hl : l < 24) (ho : on l = -1) : GN siz usd row rsz (upd on l (nI f)) a e := by
  obtain ⟨h1, h2, h3, h4⟩ := h
  refine ⟨h1, fun l' hl' => ?_, fun g hg1 hg2 => ?_, fun g hg1 hg2 => ?_⟩
  · by_cases e : l' = l
    · rw [e, pk_us]
      exact Or.inr ⟨f, hf, rfl⟩
    · rw [pk_un e]
      exact h2 l' hl'
  · rcases hg2 with (hg2 | ⟨l', q1, q2⟩) | hg2
    · exact h3 g hg1 (Or.inl (Or.inl hg2))
    · by_cases e : l' = l
      · rw [e, pk_us] at q2
        exact h3 g hg1 (Or.inr (List.mem_cons.mpr (Or.inl (nI_inj (by omega) (by omega) q2.symm))))
      · rw [pk_un e] at q2
        exact h3 g hg1 (Or.inl (Or.inr ⟨l', q1, q2⟩))
    · exact h3 g hg1 (Or.inr (List.mem_cons_of_mem _ hg2))
  · rcases h4 g hg1 hg2 with (hg | ⟨l', q1, q2⟩) | hg
    · exact Or.inl (Or.inl hg)
    · have e : l' ≠ l := fun e => by
        rw [e, ho] at q2
        exact nI_nm1 (by omega) q2.symm
      exact Or.inl (Or.inr ⟨l', q1, (pk_un e).trans q2⟩)
    · rcases List.mem_cons.mp hg with rfl | hg
      · exact Or.inl (Or.inr ⟨l, hl, pk_us⟩)
      · exact Or.inr hg
theorem GN.offF (h : GN siz usd row rsz on a e) (hf : f < 400) (hl : l < 24) (ho : on l = nI f) : GN siz usd row rsz (upd on l (-1)) (f :: a) (f :: e) := by
  obtain ⟨h1, h2, h3, h4⟩ := h
  refine ⟨h1, fun l' hl' => ?_, fun g hg1 hg2 => ?_, fun g hg1 hg2 => ?_⟩
  · by_cases e : l' = l
    · rw [e, pk_us]
      exact Or.inl rfl
    · rw [pk_un e]
      exact h2 l' hl'
  · rcases hg2 with (hg2 | ⟨l', q1, q2⟩) | hg2
    · exact h3 g hg1 (Or.inl (Or.inl hg2))
    · by_cases e : l' = l
      · rw [e, pk_us] at q2
        exact absurd q2.symm (nI_nm1 (by omega))
      · rw [pk_un e] at q2
        exact h3 g hg1 (Or.inl (Or.inr ⟨l', q1, q2⟩))
    · rcases List.mem_cons.mp hg2 with rfl | hg2
      · exact h3 g hg1 (Or.inl (Or.inr ⟨l, hl, ho⟩))
      · exact h3 g hg1 (Or.inr hg2)
  · rcases h4 g hg1 hg2 with (hg | ⟨l', q1, q2⟩) | hg
    · exact Or.inl (Or.inl hg)
    · by_cases e : l' = l
      · rw [e, ho] at q2
        exact Or.inr (List.mem_cons.mpr (Or.inl (nI_inj (by omega) (by omega) q2.symm)))
      · exact Or.inl (Or.inr ⟨l', q1, (pk_un e).trans q2⟩)
    · exact Or.inr (List.mem_cons_of_mem _ hg)
/-- a pigeonhole -/
theorem pig : ∀ (n : Nat) (L : List Nat), (∀ f, f < n → f ∈ L) → n ≤ L.length
  | 0, _, _ => Nat.zero_le _
  | n + 1, L, h => by
    have h1 := pig n (L.erase n) (fun f hf => (List.mem_erase_of_ne (by omega)).mpr (h f (by omega)))
    have h2 : n ∈ L := h n (by omega)
    rw [List.length_erase_of_mem h2] at h1
    have := List.length_pos_of_mem h2
    omega
def lsr (row rsz : Nat → Int32) : Nat → List Nat
  | 0 => []
  | r + 1 => lsr row rsz r ++ (List.range (cap r)).map (fun j => (row (16 * r + j)).toNatClampNeg)
def cps : Nat → Nat
  | 0 => 0
  | r + 1 => cps r + cap r
theorem lsr_len (row rsz : Nat → Int32) : ∀ n, (lsr row rsz n).length = cps n
  | 0 => rfl
  | n + 1 => by
    rw [lsr, List.length_append, lsr_len row rsz n, List.length_map, List.length_range]
    rfl
theorem lsr_mem {row rsz : Nat → Int32} {r j : Nat} (hj : j < cap r) : ∀ n, r < n → (row (16 * r + j)).toNatClampNeg ∈ lsr row rsz n
  | 0, h => absurd h (Nat.not_lt_zero _)
  | n + 1, h => by
    rw [lsr]
    by_cases e : r = n
    · subst e
      exact List.mem_append_right _ (List.mem_map.mpr ⟨j, List.mem_range.mpr hj, rfl⟩)
    · exact List.mem_append_left _ (lsr_mem hj n (by omega))
theorem GN.some (h : GN siz usd row rsz on a e) (he : e.length ≤ 100) : ∃ f, f < 400 ∧ usd f = 0 := by
  obtain ⟨h1, h2, h3, h4⟩ := h
  refine Classical.byContradiction (fun z => ?_)
  have hu : ∀ f, f < 400 → usd f ≠ 0 := fun f hf hz => z ⟨f, hf, hz⟩
  have hp := pig 400 (lsr row rsz 48 ++ ((List.range 24).map (fun l => (on l).toNatClampNeg) ++ e)) (fun f hf => by
    rcases h4 f hf (hu f hf) with (⟨r, j, m, q1, q2, q3, q4, q5⟩ | ⟨l, q1, q2⟩) | hg
    · obtain ⟨m', c1, c2, c3⟩ := h1 r q1
      have := cap_le r
      have em : m' = m := nI_inj (by omega) (by omega) (c2.symm.trans q4)
      have hm := lsr_mem (row := row) (rsz := rsz) (r := r) (j := j) (by omega) 48 q1
      rw [q5, nI_clamp (by omega)] at hm
      exact List.mem_append_left _ hm
    · refine List.mem_append_right _ (List.mem_append_left _ (List.mem_map.mpr ⟨l, List.mem_range.mpr q1, ?_⟩))
      rw [q2, nI_clamp (by omega)]
    · exact List.mem_append_right _ (List.mem_append_right _ hg))
  rw [List.length_append, lsr_len, List.length_append, List.length_map, List.length_range] at hp
  have : cps 48 = 256 := by decide
  omega
end GNL
end RF1
