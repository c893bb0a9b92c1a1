section SX18
variable {ra : ae_R} {d : Nat} {σ σ0 σ1 σ2 : ae_S} {w w0 w1 w2 : Nat → Nat} {C C' : Nat → Prop} {l i : Nat} {f : Nat → Option Nat} {a : AN} {k : AK} {x : AF}
def tck (a : AN) : AN := grw (tka (mva (snda a 8) 24) 24) 1
def tcn (a : AN) : Nat → AN
  | 0 => a
  | n + 1 => tck (tcn a n)
def quL (a : AN) (n : Nat) : Prop := ∀ i, i < n → (nL a i).1 = [] ∧ (nL a i).2.1 = [] ∧ (nL a i).2.2.1 = none
def quK (a : AN) (n : Nat) : Prop := ∀ l, l < n → ∀ k, nK a l = some k → dfr k = []
def qui (a : AN) : Prop := quL a 24 ∧ quK a 8
theorem qu_snd (h : quK a 8) : ∀ j, j ≤ 8 → snda a j = a
  | 0, _ => rfl
  | j + 1, hj => by
    show snd (snda a j) j = a
    rw [qu_snd h j (by omega)]
    unfold snd
    cases hk : nK a j with
    | none => rfl
    | some k =>
      show (match dfr k with | [] => a | x :: _ => if nT a < dop k then a else snd1 a j k x) = a
      rw [h j (by omega) k hk]
theorem qu_mv (h : quL a 24) : ∀ j, j ≤ 24 → mva a j = a
  | 0, _ => rfl
  | j + 1, hj => by
    show mv (mva a j) j = a
    rw [qu_mv h j (by omega)]
    unfold mv
    rw [(h j (by omega)).2.2]
theorem setL_self {A : ALn} {j : Nat} (h : A = nL a j) : setL a j A = a := by
  unfold setL updL
  have e : (fun i => if i = j then A else nL a i) = nL a := by
    funext i
    by_cases c : i = j
    · rw [if_pos c, c]
      exact h
    · rw [if_neg c]
  rw [e]
theorem qu_tk (h : quL a 24) : ∀ j, j ≤ 24 → tka a j = a
  | 0, _ => rfl
  | j + 1, hj => by
    show tkf (tka a j) j = a
    rw [qu_tk h j (by omega)]
    obtain ⟨h1, h2, h3⟩ := h j (by omega)
    unfold tkf
    rw [h3]
    show setL a j (ld (nL a j)) = a
    refine setL_self ?_
    unfold ld
    rw [h1, h2]
    show ([], [], none, (nL a j).2.2.2) = nL a j
    refine Prod.ext h1.symm (Prod.ext h2.symm (Prod.ext h3.symm rfl))
theorem qu_tck (h : qui a) : tck a = grw a 1 := by
  unfold tck
  rw [qu_snd h.2 8 (Nat.le_refl _), qu_mv h.1 24 (Nat.le_refl _), qu_tk h.1 24 (Nat.le_refl _)]
theorem qu_grw {n : Int32} (h : qui a) : qui (grw a n) := by
  refine ⟨h.1, fun l hl k hk => ?_⟩
  have hk' : (match nK a l with | none => none | some k => some (gwk k n)) = some k := hk
  cases hk0 : nK a l with
  | none =>
    rw [hk0] at hk'
    cases hk'
  | some k0 =>
    rw [hk0] at hk'
    injection hk' with hk'
    rw [← hk']
    exact h.2 l hl k0 hk0
/-- the accounts are within their bounds -/
def AKw (k : AK) : Prop := ∃ G, kga k = nI G ∧ G ≤ 512 ∧ kmo k ≤ 128 ∧ ∀ nt, ∃ c, kac k nt = nI c ∧ c ≤ kmo k * (G + 64)
def AW (a : AN) : Prop := ∀ l k, nK a l = some k → AKw k
theorem top_eq {mo G : Nat} : nI mo * (nI G + 64) = nI (mo * (G + 64)) := by
  rw [show (64 : Int32) = nI 64 from rfl, nI_add, pk_mul]
theorem top_le {mo G : Nat} (h1 : mo ≤ 128) (h2 : G ≤ 512) : mo * (G + 64) ≤ 73728 := Nat.le_trans (Nat.mul_le_mul h1 (show G + 64 ≤ 576 by omega)) (by decide)
theorem mn2_nI {T A : Nat} (hT : T < 2 ^ 31) (hA : A < 2 ^ 31) : mn2 (nI T) (nI A) = nI (if A < T then A else T) := by
  unfold mn2
  by_cases c : A < T
  · rw [if_pos c, if_pos (nI_lt c hT)]
  · rw [if_neg c, if_neg (fun z => c ((nI_ltI hA hT).mp z))]
theorem wk_grw {n : Nat} (h : AKw k) (hn : n ≤ 4000) : AKw (gwk k (nI n)) := by
  obtain ⟨G, h1, h2, h3, h4⟩ := h
  refine ⟨G, h1, h2, h3, fun nt => ?_⟩
  obtain ⟨c, hc, hcl⟩ := h4 nt
  have hT := top_le h3 h2
  have hm : kmo k * n ≤ 128 * 4000 := Nat.mul_le_mul h3 hn
  refine ⟨if c + kmo k * n < kmo k * (G + 64) then c + kmo k * n else kmo k * (G + 64), ?_, ?_⟩
  · show mn2 (nI (kmo k) * (kga k + 64)) (kac k nt + nI (kmo k) * nI n) = _
    rw [h1, hc, top_eq, pk_mul, nI_add, mn2_nI (by omega) (by omega)]
  · show _ ≤ kmo k * (G + 64)
    split <;> omega
theorem mn_add {T c M N : Nat} (h : c ≤ T) : (if (if c + M < T then c + M else T) + N < T then (if c + M < T then c + M else T) + N else T) = (if c + (M + N) < T then c + (M + N) else T) := by
  by_cases h1 : c + M < T
  · rw [if_pos h1]
    by_cases h2 : c + M + N < T
    · rw [if_pos h2, if_pos (by omega)]
      omega
    · rw [if_neg h2, if_neg (by omega)]
  · have h2 : ¬ T + N < T := by omega
    have h3 : ¬ c + (M + N) < T := by omega
    rw [if_neg h1, if_neg h2, if_neg h3]
theorem mn_le {T c M : Nat} : (if c + M < T then c + M else T) ≤ T := by
  split <;> omega
theorem mn2_add {T c M N : Nat} (h : c ≤ T) (hT : T ≤ 73728) (hM : M + N ≤ 512000) : mn2 (nI T) (mn2 (nI T) (nI (c + M)) + nI N) = mn2 (nI T) (nI (c + (M + N))) := by
  have := mn_le (T := T) (c := c) (M := M)
  rw [mn2_nI (by omega) (by omega), nI_add, mn2_nI (by omega) (by omega), mn2_nI (by omega) (by omega), mn_add h]
theorem gwk_mk {so mo : Nat} {ga hi qu pa ta n : Int32} {dd : List AG × Int32 × Int32 × Int32} {ac : Nat → Int32} : gwk ((so, ga, mo, hi, qu, pa, ta), dd, ac) n = ((so, ga, mo, hi, qu, pa, ta), dd, fun nt => mn2 (nI mo * (ga + 64)) (ac nt + nI mo * n)) := rfl
theorem gwk_add {m n : Nat} (h : AKw k) (hm : m + n ≤ 4000) : gwk (gwk k (nI m)) (nI n) = gwk k (nI (m + n)) := by
  obtain ⟨⟨so, ga, mo, hi, qu, pa, ta⟩, dd, ac⟩ := k
  obtain ⟨G, h1, h2, h3, h4⟩ := h
  replace h1 : ga = nI G := h1
  replace h3 : mo ≤ 128 := h3
  have hF : (fun nt => mn2 (nI mo * (ga + 64)) (mn2 (nI mo * (ga + 64)) (ac nt + nI mo * nI m) + nI mo * nI n)) = (fun nt => mn2 (nI mo * (ga + 64)) (ac nt + nI mo * nI (m + n))) := by
    funext nt
    obtain ⟨c, hc, hcl⟩ := h4 nt
    replace hc : ac nt = nI c := hc
    replace hcl : c ≤ mo * (G + 64) := hcl
    have hT := top_le h3 h2
    have hm1 : mo * (m + n) ≤ 512000 := Nat.le_trans (Nat.mul_le_mul h3 hm) (by decide)
    have em : mo * (m + n) = mo * m + mo * n := Nat.mul_add _ _ _
    rw [h1, hc, top_eq, pk_mul, pk_mul, pk_mul, nI_add, nI_add c (mo * (m + n)), em]
    exact mn2_add hcl hT (by rw [← em]; exact hm1)
  rw [gwk_mk, gwk_mk, gwk_mk, hF]
theorem grw_add {m n : Nat} (h : AW a) (hm : m + n ≤ 4000) : grw (grw a (nI m)) (nI n) = grw a (nI (m + n)) := by
  refine Prod.ext (by show nT a + nI m + nI n = nT a + nI (m + n); rw [← nI_add, Int32.add_assoc]) (Prod.ext ?_ rfl)
  funext l
  show (match (match nK a l with | none => none | some k => some (gwk k (nI m))) with | none => none | some k => some (gwk k (nI n))) = (match nK a l with | none => none | some k => some (gwk k (nI (m + n))))
  cases hk : nK a l with
  | none => rfl
  | some k =>
    show some (gwk (gwk k (nI m)) (nI n)) = some (gwk k (nI (m + n)))
    rw [gwk_add (h l k hk) hm]
theorem wa_grw {n : Nat} (h : AW a) (hn : n ≤ 4000) : AW (grw a (nI n)) := fun l k hk => by
  have hk' : (match nK a l with | none => none | some k => some (gwk k (nI n))) = some k := hk
  cases hk0 : nK a l with
  | none =>
    rw [hk0] at hk'
    cases hk'
  | some k0 =>
    rw [hk0] at hk'
    injection hk' with hk'
    rw [← hk']
    exact wk_grw (h l k0 hk0) hn
theorem wa_setK {l : Nat} {k' : AK} (h : AW a) (hk : AKw k') : AW (setK a l k') := fun j k hj => by
  by_cases c : j = l
  · rw [c] at hj
    have : some k' = some k := (updK_s (K := nK a) (l := l) (k := k')).symm.trans hj
    injection this with this
    rw [← this]
    exact hk
  · exact h j k ((updK_n (K := nK a) (k := k') c).symm.trans hj)
theorem wa_eqK {b : AN} (h : AW a) (e : nK b = nK a) : AW b := fun l k hk => h l k (by rw [← e]; exact hk)
theorem wk_same {k' : AK} (h : AKw k) (e1 : k'.1 = k.1) (e2 : k'.2.2 = k.2.2) : AKw k' := by
  obtain ⟨k1, k2, k3⟩ := k
  obtain ⟨k1', k2', k3'⟩ := k'
  simp only at e1 e2
  subst e1
  subst e2
  exact h
theorem wa_snd (h : AW a) (l : Nat) : AW (snd a l) := by
  unfold snd
  cases hk : nK a l with
  | none => exact h
  | some k =>
    show AW (match dfr k with | [] => a | x :: _ => if nT a < dop k then a else snd1 a l k x)
    cases hd : dfr k with
    | nil => exact h
    | cons x t =>
      show AW (if nT a < dop k then a else snd1 a l k x)
      split
      · exact h
      · have h1 : AW (setK a l (nsq (pop k))) := wa_setK h (wk_same (h l k hk) rfl rfl)
        exact wa_setK (a := setL (setL (setK a l (nsq (pop k))) (12 * 0 + kso k) _) (12 * 1 + kso k) _) (wa_eqK h1 rfl) (wk_same (h l k hk) rfl rfl)
theorem wa_snda (h : AW a) : ∀ j, AW (snda a j)
  | 0 => h
  | j + 1 => wa_snd (wa_snda h j) j
theorem kat_some {v : Int32} {r : Nat × AK} (h : kat a v = some r) : nK a r.1 = some r.2 := by
  unfold kat at h
  split at h
  · cases h
  · split at h
    · cases h
    · rename_i k hk
      cases h
      exact hk
theorem wa_psw (h : AW a) (nt ln : Nat) : AW (psw a nt ln x) := by
  unfold psw
  split
  · cases hk : kat a (lnk x.2) with
    | none => exact h
    | some r =>
      obtain ⟨l, k⟩ := r
      have hkk := kat_some hk
      show AW (if bit (kpa k) (nI ln) then (if x.1 ≤ kmo k then (if ln < 4 then (if nI x.1 * kga k ≤ kac k nt then fwd (setK a l (pyk k nt (nI x.1 * kga k))) nt ln (pyk k nt (nI x.1 * kga k)) x 8 else a) else fwd a nt ln k x 8) else a) else a)
      split
      · split
        · rename_i hxk
          split
          · split
            · rename_i hpay
              refine wa_eqK (a := setK a l (pyk k nt (nI x.1 * kga k))) (wa_setK h ?_) (fwd_K 8)
              obtain ⟨G, h1, h2, h3, h4⟩ := h l k hkk
              refine ⟨G, h1, h2, h3, fun nt' => ?_⟩
              obtain ⟨c, hc, hcl⟩ := h4 nt
              have hsG : x.1 * G ≤ 128 * 512 := Nat.mul_le_mul (Nat.le_trans hxk h3) h2
              have hT := top_le h3 h2
              rw [h1, hc, pk_mul] at hpay
              have hle : x.1 * G ≤ c := (nI_leI (by omega) (by omega)).mp hpay
              by_cases e : nt' = nt
              · refine ⟨c - x.1 * G, ?_, ?_⟩
                · show upd (kac k) nt (kac k nt - nI x.1 * kga k) nt' = _
                  rw [e, pk_us, h1, hc, pk_mul, pk_sub hle]
                · show _ ≤ kmo k * (G + 64)
                  omega
              · obtain ⟨c', hc', hcl'⟩ := h4 nt'
                exact ⟨c', by show upd (kac k) nt (kac k nt - nI x.1 * kga k) nt' = _; rw [pk_un e]; exact hc', hcl'⟩
            · exact h
          · exact wa_eqK h (fwd_K 8)
        · exact h
      · exact h
  · exact h
theorem ens_K (nt e : Nat) : nK (ens a nt e x) = nK a := by
  unfold ens
  split
  · split
    · rfl
    · split
      · rfl
      · split <;> rfl
  · rfl
theorem wa_mv (h : AW a) (i : Nat) : AW (mv a i) := by
  unfold mv
  split
  · exact h
  · split
    · exact wa_eqK h rfl
    · split
      · exact wa_eqK (a := a) h (ens_K _ _)
      · exact wa_psw (a := setL a i _) (wa_eqK h rfl) _ _
theorem wa_mva (h : AW a) : ∀ j, AW (mva a j)
  | 0 => h
  | j + 1 => wa_mv (wa_mva h j) j
theorem tka_K : ∀ j, nK (tka a j) = nK a
  | 0 => rfl
  | j + 1 => by
    show nK (tkf (tka a j) j) = _
    unfold tkf
    split
    · exact tka_K j
    · exact tka_K j
theorem wa_tck (h : AW a) : AW (tck a) := wa_grw (a := tka (mva (snda a 8) 24) 24) (n := 1) (wa_eqK (wa_mva (wa_snda h 8) 24) (tka_K 24)) (by decide)
theorem wa_tcn (h : AW a) : ∀ n, AW (tcn a n)
  | 0 => h
  | n + 1 => wa_tck (wa_tcn h n)
theorem qu_tcn (h : qui a) (hw : AW a) : ∀ m, m ≤ 2000 → tcn a m = grw a (nI m)
  | 0, _ => by
    show a = grw a (nI 0)
    refine Prod.ext (by show nT a = nT a + 0; rw [Int32.add_zero]) (Prod.ext ?_ rfl)
    funext l
    show nK a l = (match nK a l with | none => none | some k => some (gwk k (nI 0)))
    cases hk : nK a l with
    | none => rfl
    | some k =>
      show some k = some (gwk k (nI 0))
      congr 1
      obtain ⟨G, h1, h2, h3, h4⟩ := hw l k hk
      refine Prod.ext rfl (Prod.ext rfl ?_)
      funext nt
      obtain ⟨c, hc, hcl⟩ := h4 nt
      have hT := top_le h3 h2
      show kac k nt = mn2 (nI (kmo k) * (kga k + 64)) (kac k nt + nI (kmo k) * nI 0)
      rw [h1, hc, top_eq, pk_mul, nI_add, mn2_nI (by omega) (by omega)]
      congr 1
      split <;> omega
  | m + 1, hm => by
    show tck (tcn a m) = _
    rw [qu_tcn h hw m (by omega), qu_tck (qu_grw h)]
    exact grw_add (n := 1) hw (by omega)
theorem tcn_add (a : AN) (m : Nat) : ∀ n, tcn a (m + n) = tcn (tcn a m) n
  | 0 => rfl
  | n + 1 => by
    show tck (tcn a (m + n)) = tck (tcn (tcn a m) n)
    rw [tcn_add a m n]
theorem snd_T (a : AN) (l : Nat) : nT (snd a l) = nT a := by
  unfold snd
  split
  · rfl
  · split
    · rfl
    · split <;> rfl
theorem snda_T (a : AN) : ∀ j, nT (snda a j) = nT a
  | 0 => rfl
  | j + 1 => (snd_T _ _).trans (snda_T a j)
theorem fwd_T {nt ln : Nat} : ∀ j, nT (fwd a nt ln k x j) = nT a
  | 0 => rfl
  | j + 1 => by
    unfold fwd
    split
    · exact fwd_T j
    · exact fwd_T j
theorem mv_T (a : AN) (i : Nat) : nT (mv a i) = nT a := by
  unfold mv
  split
  · rfl
  · split
    · rfl
    · split
      · unfold ens
        split
        · split
          · rfl
          · split
            · rfl
            · split <;> rfl
        · rfl
      · unfold psw
        split
        · split
          · rfl
          · split
            · split
              · split
                · split
                  · exact fwd_T 8
                  · rfl
                · exact fwd_T 8
              · rfl
            · rfl
        · rfl
theorem mva_T (a : AN) : ∀ j, nT (mva a j) = nT a
  | 0 => rfl
  | j + 1 => (mv_T _ _).trans (mva_T a j)
theorem tka_T (a : AN) : ∀ j, nT (tka a j) = nT a
  | 0 => rfl
  | j + 1 => by
    show nT (tkf (tka a j) j) = _
    unfold tkf
    split
    · exact tka_T a j
    · exact tka_T a j
theorem tck_T (a : AN) : nT (tck a) = nT a + 1 := by
  show nT (tka (mva (snda a 8) 24) 24) + 1 = _
  rw [tka_T, mva_T, snda_T]
theorem tcn_T (a : AN) : ∀ n, nT (tcn a n) = nT a + nI n
  | 0 => (Int32.add_zero _).symm
  | n + 1 => by
    show nT (tck (tcn a n)) = _
    rw [tck_T, tcn_T a n, ← nI_1, Int32.add_assoc]
theorem c_7bn (h : CN σ w f a) (hq : quL a 24) : ∀ (m j : Nat) (x4 : Option Value), j + m = 8 → quK a j → hG ra (d + 1) 7 σ [some (.ref 0), some (.ref 1), some (.int (nI 8)), some (.int (nI j)), x4] [] 68 (pI (fun σ' v => σ' = σ ∧ (v = 0 ∨ (v = 1 ∧ qui a)))) := by
  have h' := h
  obtain ⟨hN, -, -, -, ⟨hA, -⟩, hC⟩ := h'
  intro m
  induction m with
  | zero =>
    intro j x4 hj hk
    have hj : j = 8 := by omega
    subst hj
    refine h_st rfl rfl ?_
    refine h_st rfl rfl ?_
    refine h_st rfl rfl ?_
    refine h_pc (if_pos (decide_eq_true (nI_le (Nat.le_refl 8) (by decide)))) ?_
    refine h_st rfl rfl ?_
    exact h_rt rfl rfl (⟨_, _, rfl, rfl, Or.inr ⟨rfl, hq, hk⟩⟩)
  | succ m ih =>
    intro j x4 hj hk
    have hj8 : j < 8 := by omega
    have ih1 : ∀ x4, quK a (j + 1) → hG ra (d + 1) 7 σ [some (.ref 0), some (.ref 1), some (.int (nI 8)), some (.int (nI j + 1)), x4] [] 68 (pI (fun σ' v => σ' = σ ∧ (v = 0 ∨ (v = 1 ∧ qui a)))) := fun x4 h => by rw [nI_1]; exact ih (j + 1) x4 (by omega) h
    have hin : ¬ (nI j < 0 ∨ 8 ≤ (nI j).toNatClampNeg) := nI_in hj8 (by decide)
    have ej : (nI j).toNatClampNeg = j := nI_clamp (by omega)
    have hst : (∀ k, nK a j = some k → dfr k = []) → quK a (j + 1) := fun z l hl k hlk => by
      by_cases c : l = j
      · rw [c] at hlk
        exact z k hlk
      · exact hk l (by omega) k hlk
    refine h_st rfl rfl ?_
    refine h_st rfl rfl ?_
    refine h_st rfl rfl ?_
    refine h_pc (if_neg (fun z9 => (nI_ge (b := 8) hj8 (by decide)) (of_decide_eq_true z9))) ?_
    refine h_st rfl rfl ?_
    refine h_st rfl rfl ?_
    refine h_st rfl ((e_aa hA (by decide) hin).trans (by rw [ej])) ?_
    cases hkj : nK a j with
    | none =>
      rw [(hC j hj8).1 hkj]
      refine h_st rfl rfl ?_
      refine h_st rfl rfl ?_
      refine h_st rfl rfl ?_
      refine h_st rfl rfl ?_
      refine h_st rfl rfl ?_
      exact ih1 _ (hst (fun k z => by rw [hkj] at z; cases z))
    | some k =>
      obtain ⟨q, po, ac, wa, fi, se, pf, e1, hL, -⟩ := (hC j hj8).2 k hkj
      have hlen := hL.2.2.1.2.2.2
      rw [e1]
      refine h_st rfl rfl ?_
      refine h_st rfl rfl ?_
      refine h_st rfl rfl ?_
      refine h_st rfl rfl ?_
      refine h_st rfl (e_get hL.2.1 rfl) ?_
      refine h_st rfl rfl ?_
      refine h_br (fun q => ?_) (fun q => ?_)
      · refine h_st rfl rfl ?_
        refine h_st rfl rfl ?_
        exact ih1 _ (hst (fun k' z => by rw [hkj] at z; cases z; exact List.eq_nil_of_length_eq_zero (Nat.le_zero.mp ((nI_leI (b := 0) (by omega) (by decide)).mp q))))
      · refine h_st rfl rfl ?_
        exact h_rt rfl rfl (⟨_, _, rfl, rfl, Or.inl rfl⟩)
theorem c_7an (h : CN σ w f a) : ∀ (m j : Nat) (x4 : Option Value), j + m = 24 → quL a j → hG ra (d + 1) 7 σ [some (.ref 0), some (.ref 2), some (.int (nI 24)), some (.int (nI j)), x4] [] 10 (pI (fun σ' v => σ' = σ ∧ (v = 0 ∨ (v = 1 ∧ qui a)))) := by
  have h' := h
  obtain ⟨⟨⟨h0, -⟩, ⟨fl, hfl, hfl2⟩, -⟩, -, -, hLn, ⟨hA, -⟩, -⟩ := h'
  intro m
  induction m with
  | zero =>
    intro j x4 hj hk
    have hj : j = 24 := by omega
    subst hj
    refine h_st rfl rfl ?_
    refine h_st rfl rfl ?_
    refine h_st rfl rfl ?_
    refine h_pc (if_pos (decide_eq_true (nI_le (Nat.le_refl 24) (by decide)))) ?_
    refine h_st rfl rfl ?_
    refine h_st rfl (e_get h0 rfl) ?_
    refine h_st rfl rfl ?_
    refine h_st rfl rfl ?_
    refine h_st rfl (e_len hA (by decide)) ?_
    refine h_st rfl rfl ?_
    refine h_st rfl rfl ?_
    refine h_st rfl rfl ?_
    exact c_7bn h hk 8 0 _ rfl (fun l hl => absurd hl (Nat.not_lt_zero _))
  | succ m ih =>
    intro j x4 hj hk
    have hj24 : j < 24 := by omega
    have ih1 : ∀ x4, quL a (j + 1) → hG ra (d + 1) 7 σ [some (.ref 0), some (.ref 2), some (.int (nI 24)), some (.int (nI j + 1)), x4] [] 10 (pI (fun σ' v => σ' = σ ∧ (v = 0 ∨ (v = 1 ∧ qui a)))) := fun x4 h => by rw [nI_1]; exact ih (j + 1) x4 (by omega) h
    have hin : ¬ (nI j < 0 ∨ 24 ≤ (nI j).toNatClampNeg) := nI_in hj24 (by decide)
    have hv : va_rf (fl (nI j).toNatClampNeg) = .ref (8 + 7 * j) := by rw [nI_clamp (by omega), hfl2 _ hj24]; rfl
    have hst : ((nL a j).1 = [] ∧ (nL a j).2.1 = [] ∧ (nL a j).2.2.1 = none) → quL a (j + 1) := fun z l hl => by
      by_cases c : l = j
      · rw [c]
        exact z
      · exact hk l (by omega)
    obtain ⟨fr0, b0, g0, e0, hp0, mk0, x0, hW, hon, -⟩ := hLn j hj24
    refine h_st rfl rfl ?_
    refine h_st rfl rfl ?_
    refine h_st rfl rfl ?_
    refine h_pc (if_neg (fun z9 => (nI_ge (b := 24) hj24 (by decide)) (of_decide_eq_true z9))) ?_
    refine h_st rfl rfl ?_
    refine h_st rfl rfl ?_
    refine h_st rfl ((e_aa hfl (by decide) hin).trans (by rw [hv])) ?_
    refine h_st rfl rfl ?_
    refine h_st rfl rfl ?_
    refine h_st rfl (e_get hW.2.1 rfl) ?_
    refine h_st rfl rfl ?_
    refine h_br (fun q1 => ?_) (fun q1 => ?_)
    · refine h_st rfl rfl ?_
      exact h_rt rfl rfl (⟨_, _, rfl, rfl, Or.inl rfl⟩)
    · refine h_st rfl rfl ?_
      refine h_st rfl (e_get hW.2.1 rfl) ?_
      refine h_ci1 rfl (Nat.le_of_ble_eq_true rfl) (hW.2.2.1.rcv) rfl (c_8x hW.2.2.1) (fun σ2 y hy => ?_)
      obtain ⟨rfl, hy⟩ := hy
      refine h_st rfl rfl ?_
      refine h_br (fun q2 => ?_) (fun q2 => ?_)
      · refine h_st rfl rfl ?_
        exact h_rt rfl rfl (⟨_, _, rfl, rfl, Or.inl rfl⟩)
      · refine h_st rfl rfl ?_
        refine h_st rfl (e_get hW.2.1 rfl) ?_
        refine h_ci1 rfl (Nat.le_of_ble_eq_true rfl) (hW.2.2.2.1.rcv) rfl (c_8x hW.2.2.2.1) (fun σ2 y2 hy2 => ?_)
        obtain ⟨rfl, hy2⟩ := hy2
        refine h_st rfl rfl ?_
        refine h_br (fun q3 => ?_) (fun q3 => ?_)
        · refine h_st rfl rfl ?_
          refine h_st rfl rfl ?_
          exact ih1 _ (hst ⟨hy.elim (fun z => z.2) (fun z => absurd z.1 q2), hy2.elim (fun z => z.2) (fun z => absurd z.1 q3), hon.elim (fun z => z.1) (fun ⟨t, _, z, _⟩ => absurd z (fun u => q1 (by rw [u]; decide)))⟩)
        · refine h_st rfl rfl ?_
          exact h_rt rfl rfl (⟨_, _, rfl, rfl, Or.inl rfl⟩)
theorem c_7n (h : CN σ w f a) : hE ra (d + 2) 7 [.ref 0] σ (pI (fun σ' v => σ' = σ ∧ (v = 0 ∨ (v = 1 ∧ qui a)))) := by
  have h0 := h.1.1.1
  obtain ⟨fl, hfl, -⟩ := h.1.2.1
  refine h_in rfl rfl (Nat.le_of_ble_eq_true rfl) ?_
  refine h_st rfl rfl ?_
  refine h_st rfl (e_get h0 rfl) ?_
  refine h_st rfl rfl ?_
  refine h_st rfl rfl ?_
  refine h_st rfl (e_len hfl (by decide)) ?_
  refine h_st rfl rfl ?_
  refine h_st rfl rfl ?_
  refine h_st rfl rfl ?_
  exact c_7an h 24 0 _ rfl (fun l hl => absurd hl (Nat.not_lt_zero _))
theorem c_6ln {n : Nat} {x1 : Int32} (hck : ra 3 = (16, ckt)) (hr1 : ra 1 = (12, lvt)) (hr2 : ra 2 = (12, ent)) (hn : n ≤ 2000) (hw : AW a) : ∀ (m j : Nat) (σ : ae_S) (w : Nat → Nat), j + m = n → CN σ w f (tcn a j) → hG ra (d + 6) 6 σ [some (.ref 0), some (.int x1), some (.int (nI n)), some (.int (nI j))] [] 19 (pI (fun σ' v => v = nT (tcn a n) ∧ ∃ w', CN σ' w' f (tcn a n))) := by
  intro m
  induction m with
  | zero =>
    intro j σ w hj h
    have hj : j = n := by omega
    subst hj
    refine h_st rfl rfl ?_
    refine h_st rfl rfl ?_
    refine h_st rfl rfl ?_
    refine h_pc (if_pos (decide_eq_true (nI_le (Nat.le_refl _) (by omega)))) ?_
    refine h_st rfl rfl ?_
    refine h_st rfl (e_get h.1.1.1 rfl) ?_
    exact h_rt rfl rfl (⟨_, _, rfl, rfl, w, h⟩)
  | succ m ih =>
    intro j σ w hj h
    have ih1 : ∀ σ w, CN σ w f (tcn a (j + 1)) → hG ra (d + 6) 6 σ [some (.ref 0), some (.int x1), some (.int (nI n)), some (.int (nI j + 1))] [] 19 (pI (fun σ' v => v = nT (tcn a n) ∧ ∃ w', CN σ' w' f (tcn a n))) := fun σ w h => by rw [nI_1]; exact ih (j + 1) σ w (by omega) h
    have es : nI n - nI j = nI (n - j) := pk_sub (by omega)
    refine h_st rfl rfl ?_
    refine h_st rfl rfl ?_
    refine h_st rfl rfl ?_
    refine h_pc (if_neg (fun z9 => (nI_ge (show j < n by omega) (by omega)) (of_decide_eq_true z9))) ?_
    refine h_st rfl rfl ?_
    refine h_ci1 rfl (Nat.le_of_ble_eq_true rfl) (e_rcv (h.1.1.1)) rfl (c_7n (d := d + 4) h) (fun σ2 v hv => ?_)
    obtain ⟨rfl, hv⟩ := hv
    refine h_st rfl rfl ?_
    refine h_br (fun q => ?_) (fun q => ?_)
    · refine h_st rfl rfl ?_
      refine h_cv1 rfl (Nat.le_of_ble_eq_true rfl) (e_rcv (h.1.1.1)) rfl (c_11n (d := d + 1) hck h) (fun σ3 h3 => ?_)
      obtain ⟨w3, h3⟩ := h3
      refine h_st rfl rfl ?_
      refine h_cv1 rfl (Nat.le_of_ble_eq_true rfl) (e_rcv (h3.1.1.1)) rfl (c_31n hck hr1 hr2 h3) (fun σ4 h4 => ?_)
      obtain ⟨w4, h4⟩ := h4
      refine h_st rfl rfl ?_
      refine h_cv1 rfl (Nat.le_of_ble_eq_true rfl) (e_rcv (h4.1.1.1)) rfl (c_58n (d := d + 2) h4) (fun σ5 h5 => ?_)
      obtain ⟨w5, h5⟩ := h5
      refine h_st rfl rfl ?_
      refine h_st rfl rfl ?_
      refine h_cv2 rfl (Nat.le_of_ble_eq_true rfl) (e_rcv (h5.1.1.1)) rfl (c_9n (d := d + 4) (n := 1) h5) (fun σ6 h6 => ?_)
      refine h_st rfl rfl ?_
      refine h_st rfl rfl ?_
      exact ih1 _ w5 h6
    · have hqu : qui (tcn a j) := hv.elim (fun z => absurd z q) (fun z => z.2)
      have e : grw (tcn a j) (nI (n - j)) = tcn a n := by
        rw [← qu_tcn hqu (wa_tcn hw j) (n - j) (by omega), ← tcn_add]
        congr 1
        omega
      refine h_st rfl rfl ?_
      refine h_st rfl rfl ?_
      refine h_st rfl rfl ?_
      refine h_st rfl rfl ?_
      refine h_cv2 rfl (Nat.le_of_ble_eq_true rfl) (e_rcv (h.1.1.1)) rfl (by rw [show (fun x y => x - y) (nI n) (nI j) = nI (n - j) from es]; exact c_9n (d := d + 4) (n := nI (n - j)) h) (fun σ6 h6 => ?_)
      rw [e] at h6
      refine h_st rfl rfl ?_
      refine h_st rfl rfl ?_
      refine h_st rfl (e_get h6.1.1.1 rfl) ?_
      exact h_rt rfl rfl (⟨_, _, rfl, rfl, w, h6⟩)
theorem c_6n {x : Int32} (hck : ra 3 = (16, ckt)) (hr1 : ra 1 = (12, lvt)) (hr2 : ra 2 = (12, ent)) (h : CN σ w f a) (hw : AW a) : hE ra (d + 7) 6 [.ref 0, .int x] σ (pI (fun σ' v => ∃ N, N = (if x < 0 ∨ 2000 < x then 0 else x.toNatClampNeg) ∧ v = nT (tcn a N) ∧ ∃ w', CN σ' w' f (tcn a N))) := by
  have fin : ∀ (N : Nat), N = (if x < 0 ∨ 2000 < x then 0 else x.toNatClampNeg) → N ≤ 2000 → hG ra (d + 6) 6 σ [some (.ref 0), some (.int x), some (.int (nI N)), some (.int (nI 0))] [] 19 (pI (fun σ' v => ∃ N, N = (if x < 0 ∨ 2000 < x then 0 else x.toNatClampNeg) ∧ v = nT (tcn a N) ∧ ∃ w', CN σ' w' f (tcn a N))) := fun N hN h2 => hG_mono (c_6ln hck hr1 hr2 h2 hw N 0 σ w (by omega) h) (fun r z => by
    obtain ⟨σ', v, er, ev, hh⟩ := z
    exact ⟨σ', v, er, N, hN, ev, hh⟩)
  refine h_in rfl rfl (Nat.le_of_ble_eq_true rfl) ?_
  refine h_st rfl rfl ?_
  refine h_st rfl rfl ?_
  refine h_br (fun q1 => ?_) (fun q1 => ?_)
  · refine h_st rfl rfl ?_
    refine h_st rfl rfl ?_
    refine h_st rfl rfl ?_
    refine h_st rfl rfl ?_
    refine h_st rfl rfl ?_
    exact fin 0 (by rw [if_pos (Or.inl q1)]) (by decide)
  · refine h_st rfl rfl ?_
    refine h_st rfl rfl ?_
    refine h_st rfl rfl ?_
    refine h_br (fun q2 => ?_) (fun q2 => ?_)
    · obtain ⟨N, hN, rfl⟩ := nI_of2 (M := 2000) (n := 2000) (by decide) q1 q2
      refine h_st rfl rfl ?_
      refine h_st rfl rfl ?_
      refine h_st rfl rfl ?_
      refine h_st rfl rfl ?_
      exact fin N (by rw [if_neg (fun z => z.elim q1 (fun z => Int32.not_lt.mpr q2 z)), nI_clamp (by omega)]) hN
    · refine h_st rfl rfl ?_
      refine h_st rfl rfl ?_
      refine h_st rfl rfl ?_
      refine h_st rfl rfl ?_
      refine h_st rfl rfl ?_
      exact fin 0 (by rw [if_pos (Or.inr (Int32.not_le.mp q2))]) (by decide)
end SX18
