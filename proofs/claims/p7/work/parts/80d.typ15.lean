section TYF
variable {ra : ae_R} {d : Nat} {σ σ0 σ' : ae_S} {p : Nat} {K K0 : Nat → Nat} {b : Bool} {s t : Nat}
/-- a sum over the links -/
def tks (us : Nat → Prop) [DecidablePred us] (c : Nat → Int32) : Nat → Int32
  | 0 => 0
  | k + 1 => if us k then tks us c k + c k else tks us c k
theorem tks_eq {us us' : Nat → Prop} [DecidablePred us] [DecidablePred us'] {c c' : Nat → Int32} : ∀ n, (∀ k, k < n → (us k ↔ us' k) ∧ (us k → c k = c' k)) → tks us c n = tks us' c' n
  | 0, _ => rfl
  | n + 1, h => by
    have h1 := tks_eq n (fun k hk => h k (by omega))
    obtain ⟨h2, h3⟩ := h n (by omega)
    unfold tks
    by_cases e : us n
    · rw [if_pos e, if_pos (h2.mp e), h1, h3 e]
    · rw [if_neg e, if_neg (fun z => e (h2.mpr z)), h1]
/-- a sum over the lines of a way -/
def lns (on : Nat → Prop) [DecidablePred on] (T : Nat → Int32) : Nat → Int32
  | 0 => 0
  | k + 1 => if on k then lns on T k + T k else lns on T k
theorem lns_eq {on on' : Nat → Prop} [DecidablePred on] [DecidablePred on'] {T T' : Nat → Int32} : ∀ n, (∀ k, k < n → (on k ↔ on' k) ∧ T k = T' k) → lns on T n = lns on' T' n
  | 0, _ => rfl
  | n + 1, h => by
    have h1 := lns_eq n (fun k hk => h k (by omega))
    obtain ⟨h2, h3⟩ := h n (by omega)
    unfold lns
    by_cases e : on n
    · rw [if_pos e, if_pos (h2.mp e), h1, h3]
    · rw [if_neg e, if_neg (fun z => e (h2.mpr z)), h1]
abbrev bit (x y : Int32) : Prop := ¬ (x >>> (y &&& 31)) &&& 1 = 0
theorem c_56x {nu ga hi qu pa me se op : Int32} {so mo po ac wa fi co : Nat} (hk : σ.2[p]? = some (.inr (4, [.int nu, .int (nI so), .int ga, .int (nI mo), .int hi, .int qu, .int pa, .ref po, .ref ac, .ref wa, .int (nI fi), .int (nI co), .int me, .int se, .int op]))) (x : Int32) : hE ra (d + 1) 56 [.ref p, .int x] σ (pI (fun σ' v => σ' = σ ∧ (v = 0 ↔ ¬ bit pa x))) := by
  refine h_in rfl rfl (Nat.le_of_ble_eq_true rfl) ?_
  refine h_st rfl rfl ?_
  refine h_st rfl (e_get hk rfl) ?_
  refine h_st rfl rfl ?_
  refine h_st rfl rfl ?_
  refine h_st rfl rfl ?_
  refine h_st rfl rfl ?_
  refine h_st rfl rfl ?_
  refine h_br (fun q => ?_) (fun q => ?_)
  · refine h_st rfl rfl ?_
    exact h_rt rfl rfl (⟨_, _, rfl, rfl, fun _ z => z q, fun _ => rfl⟩)
  · refine h_st rfl rfl ?_
    refine h_st rfl rfl ?_
    exact h_rt rfl rfl (⟨_, _, rfl, rfl, fun z => absurd z (by decide), fun z => absurd q z⟩)
theorem c_78lx {ln : Int32} {f : Nat → Option Nat} {gaf hif quf paf : Nat → Int32} {sof mof pof acf waf : Nat → Nat} {sf : Nat → Nat × Int32} (hs : σ.2[1]? = some (.inl (4, rfs 8 f))) (hL : Ls σ f gaf hif quf paf sof mof pof acf waf (sf)) : ∀ (m j : Nat) (x6 : Option Value), j + m = 8 → hG ra (d + 1) 78 σ [some (.ref 0), some (.int ln), some (.int (tks (fun k => f k ≠ none ∧ bit (paf k) ln) (fun k => (nI (mof k) + 8 - 1) / 8) j)), some (.ref 1), some (.int (nI 8)), some (.int (nI j)), x6] [] 14 (pI (fun σ' v => σ' = σ ∧ v = tks (fun k => f k ≠ none ∧ bit (paf k) ln) (fun k => (nI (mof k) + 8 - 1) / 8) 8)) := by
  intro m
  induction m with
  | zero =>
    intro j x6 hj
    have hj : j = 8 := by omega
    subst hj
    refine h_st rfl rfl ?_
    refine h_st rfl rfl ?_
    refine h_st rfl rfl ?_
    refine h_pc (if_pos (decide_eq_true (nI_le (Nat.le_refl 8) (by decide)))) ?_
    refine h_st rfl rfl ?_
    exact h_rt rfl rfl (⟨_, _, rfl, rfl, rfl⟩)
  | succ m ih =>
    intro j x6 hj
    have ih1 := fun x6 => ih (j + 1) x6 (by omega)
    simp only [← nI_1] at ih1
    have hin : ¬ (nI j < 0 ∨ 8 ≤ (nI j).toNatClampNeg) := nI_in (by omega) (by decide)
    have ej : (nI j).toNatClampNeg = j := nI_clamp (by omega)
    cases hv : f (nI j).toNatClampNeg with
    | none =>
      have ep : tks (fun k => f k ≠ none ∧ bit (paf k) ln) (fun k => (nI (mof k) + 8 - 1) / 8) (j + 1) = tks (fun k => f k ≠ none ∧ bit (paf k) ln) (fun k => (nI (mof k) + 8 - 1) / 8) j := if_neg (fun z => z.1 (by rw [← ej]; exact hv))
      rw [ep] at ih1
      refine h_st rfl rfl ?_
      refine h_st rfl rfl ?_
      refine h_st rfl rfl ?_
      refine h_pc (if_neg (fun z9 => (nI_ge (show j < 8 by omega) (by decide)) (of_decide_eq_true z9))) ?_
      refine h_st rfl rfl ?_
      refine h_st rfl rfl ?_
      refine h_st rfl ((e_aa hs (by decide) hin).trans (by rw [hv])) ?_
      refine h_st rfl rfl ?_
      refine h_st rfl rfl ?_
      refine h_st rfl rfl ?_
      refine h_st rfl rfl ?_
      refine h_st rfl rfl ?_
      exact ih1 _
    | some q =>
      have hfj : f j = some q := by rw [← ej]; exact hv
      obtain ⟨hb, fi, me, se, hfi, hk⟩ := hL j q (by omega) hfj
      refine h_st rfl rfl ?_
      refine h_st rfl rfl ?_
      refine h_st rfl rfl ?_
      refine h_pc (if_neg (fun z9 => (nI_ge (show j < 8 by omega) (by decide)) (of_decide_eq_true z9))) ?_
      refine h_st rfl rfl ?_
      refine h_st rfl rfl ?_
      refine h_st rfl ((e_aa hs (by decide) hin).trans (by rw [hv])) ?_
      refine h_st rfl rfl ?_
      refine h_st rfl rfl ?_
      refine h_st rfl rfl ?_
      refine h_st rfl rfl ?_
      refine h_st rfl rfl ?_
      refine h_ci2 rfl (Nat.le_of_ble_eq_true rfl) (e_rcv hk) rfl (c_56x hk _) (fun σ' y hy => ?_)
      obtain ⟨hss, hy⟩ := hy
      replace hss := hss.symm
      subst hss
      refine h_st rfl rfl ?_
      refine h_br (fun q1 => ?_) (fun q1 => ?_)
      · have ep : tks (fun k => f k ≠ none ∧ bit (paf k) ln) (fun k => (nI (mof k) + 8 - 1) / 8) (j + 1) = tks (fun k => f k ≠ none ∧ bit (paf k) ln) (fun k => (nI (mof k) + 8 - 1) / 8) j := if_neg (fun z => hy.mp q1 z.2)
        rw [ep] at ih1
        refine h_st rfl rfl ?_
        refine h_st rfl rfl ?_
        exact ih1 _
      · have ep : tks (fun k => f k ≠ none ∧ bit (paf k) ln) (fun k => (nI (mof k) + 8 - 1) / 8) (j + 1) = tks (fun k => f k ≠ none ∧ bit (paf k) ln) (fun k => (nI (mof k) + 8 - 1) / 8) j + (nI (mof j) + 8 - 1) / 8 := if_pos ⟨by rw [hfj]; exact (fun z => by cases z), Classical.not_not.mp (fun z => q1 (hy.mpr z))⟩
        rw [ep] at ih1
        refine h_st rfl rfl ?_
        refine h_st rfl rfl ?_
        refine h_st rfl (e_get hk rfl) ?_
        refine h_st rfl rfl ?_
        refine h_st rfl rfl ?_
        refine h_st rfl rfl ?_
        refine h_st rfl rfl ?_
        refine h_st rfl rfl ?_
        refine h_st rfl (e_dv (by decide)) ?_
        refine h_st rfl rfl ?_
        refine h_st rfl rfl ?_
        refine h_st rfl rfl ?_
        refine h_st rfl rfl ?_
        exact ih1 _
theorem c_78x {ln : Int32} (hT : Ty σ K) (hS : S0 K) {f : Nat → Option Nat} {gaf hif quf paf : Nat → Int32} {sof mof pof acf waf : Nat → Nat} {sf : Nat → Nat × Int32} (hs : σ.2[1]? = some (.inl (4, rfs 8 f))) (hL : Ls σ f gaf hif quf paf sof mof pof acf waf (sf)) : hE ra (d + 2) 78 [.ref 0, .int ln] σ (pI (fun σ' v => σ' = σ ∧ v = tks (fun k => f k ≠ none ∧ bit (paf k) ln) (fun k => (nI (mof k) + 8 - 1) / 8) 8)) := by
  obtain ⟨tm, h0⟩ := hT.k1 hS.1
  refine h_in rfl rfl (Nat.le_of_ble_eq_true rfl) ?_
  refine h_st rfl rfl ?_
  refine h_st rfl rfl ?_
  refine h_st rfl rfl ?_
  refine h_st rfl (e_get h0 rfl) ?_
  refine h_st rfl rfl ?_
  refine h_st rfl rfl ?_
  refine h_st rfl (e_len hs (by decide)) ?_
  refine h_st rfl rfl ?_
  refine h_st rfl rfl ?_
  refine h_st rfl rfl ?_
  exact c_78lx hs hL 8 0 _ rfl
theorem c_75lx {l e pth : Int32} {r : Nat} (hT : Ty σ K) (hS : S0 K) {f : Nat → Option Nat} {gaf hif quf paf : Nat → Int32} {sof mof pof acf waf : Nat → Nat} {sf : Nat → Nat × Int32} (hs : σ.2[1]? = some (.inl (4, rfs 8 f))) (hL : Ls σ f gaf hif quf paf sof mof pof acf waf (sf)) : ∀ (m j : Nat), j + m = 12 → hG ra (d + 2) 75 σ [some (.ref 0), some (.int l), some (.int e), some (.ref r), some (.int pth), some (.int (lns (fun ln => bit pth (nI ln)) (fun ln => tks (fun k => f k ≠ none ∧ bit (paf k) (nI ln)) (fun k => (nI (mof k) + 8 - 1) / 8) 8) j)), some (.int (nI j))] [] 36 (pI (fun σ' v => σ' = σ ∧ v = lns (fun ln => bit pth (nI ln)) (fun ln => tks (fun k => f k ≠ none ∧ bit (paf k) (nI ln)) (fun k => (nI (mof k) + 8 - 1) / 8) 8) 12)) := by
  intro m
  induction m with
  | zero =>
    intro j hj
    have hj : j = 12 := by omega
    subst hj
    refine h_st rfl rfl ?_
    refine h_st rfl rfl ?_
    refine h_st rfl rfl ?_
    refine h_pc (if_pos (decide_eq_true (nI_le (Nat.le_refl 12) (by decide)))) ?_
    refine h_st rfl rfl ?_
    exact h_rt rfl rfl (⟨_, _, rfl, rfl, rfl⟩)
  | succ m ih =>
    intro j hj
    have ih1 := ih (j + 1) (by omega)
    simp only [← nI_1] at ih1
    refine h_st rfl rfl ?_
    refine h_st rfl rfl ?_
    refine h_st rfl rfl ?_
    refine h_pc (if_neg (fun z9 => (nI_ge (show j < 12 by omega) (by decide)) (of_decide_eq_true z9))) ?_
    refine h_st rfl rfl ?_
    refine h_st rfl rfl ?_
    refine h_st rfl rfl ?_
    refine h_st rfl rfl ?_
    refine h_st rfl rfl ?_
    refine h_st rfl rfl ?_
    refine h_br (fun q => ?_) (fun q => ?_)
    · have ep : lns (fun ln => bit pth (nI ln)) (fun ln => tks (fun k => f k ≠ none ∧ bit (paf k) (nI ln)) (fun k => (nI (mof k) + 8 - 1) / 8) 8) (j + 1) = lns (fun ln => bit pth (nI ln)) (fun ln => tks (fun k => f k ≠ none ∧ bit (paf k) (nI ln)) (fun k => (nI (mof k) + 8 - 1) / 8) 8) j := if_neg (fun z => z q)
      rw [ep] at ih1
      refine h_st rfl rfl ?_
      refine h_st rfl rfl ?_
      exact ih1
    · have ep : lns (fun ln => bit pth (nI ln)) (fun ln => tks (fun k => f k ≠ none ∧ bit (paf k) (nI ln)) (fun k => (nI (mof k) + 8 - 1) / 8) 8) (j + 1) = lns (fun ln => bit pth (nI ln)) (fun ln => tks (fun k => f k ≠ none ∧ bit (paf k) (nI ln)) (fun k => (nI (mof k) + 8 - 1) / 8) 8) j + tks (fun k => f k ≠ none ∧ bit (paf k) (nI j)) (fun k => (nI (mof k) + 8 - 1) / 8) 8 := if_pos q
      rw [ep] at ih1
      refine h_st rfl rfl ?_
      refine h_st rfl rfl ?_
      refine h_st rfl rfl ?_
      refine h_ci2 rfl (Nat.le_of_ble_eq_true rfl) (rcv1 hT hS.1) rfl (c_78x hT hS hs hL) (fun σ' y hy => ?_)
      obtain ⟨hss, rfl⟩ := hy
      replace hss := hss.symm
      subst hss
      refine h_st rfl rfl ?_
      refine h_st rfl rfl ?_
      refine h_st rfl rfl ?_
      refine h_st rfl rfl ?_
      exact ih1
theorem c_39x {nu ga hi qu pa me se op : Int32} {so mo po ac wa fi co : Nat} {pf : Nat → Option Nat} (hk : σ.2[p]? = some (.inr (4, [.int nu, .int (nI so), .int ga, .int (nI mo), .int hi, .int qu, .int pa, .ref po, .ref ac, .ref wa, .int (nI fi), .int (nI co), .int me, .int se, .int op]))) (hpo : σ.2[po]? = some (.inl (7, rfs 4 pf))) (x : Int32) : hE ra (d + 2) 39 [.ref p, .int x] σ (pR (fun σ' q => σ' = σ ∧ ((q = none ∧ ¬ (¬ x < 0 ∧ ¬ 4 ≤ x)) ∨ ∃ k, k < 4 ∧ x = nI k ∧ q = pf k))) := by
  refine h_in rfl rfl (Nat.le_of_ble_eq_true rfl) ?_
  refine h_st rfl rfl ?_
  refine h_ci1 rfl (Nat.le_of_ble_eq_true rfl) rfl rfl (s_40 x) (fun σ' b1 hq => ?_)
  obtain ⟨hss, hb1⟩ := hq
  replace hss := hss.symm
  subst hss
  refine h_st rfl rfl ?_
  refine h_br (fun q1 => ?_) (fun q1 => ?_)
  · refine h_st rfl rfl ?_
    exact h_rt rfl rfl (⟨_, none, rfl, rfl, Or.inl ⟨rfl, fun z => absurd q1 (b_1 hb1 z)⟩⟩)
  · obtain ⟨j, hj, rfl⟩ := i_ix (n := 4) (by decide) (b_2 hb1 q1).1 (b_2 hb1 q1).2
    refine h_st rfl rfl ?_
    refine h_st rfl (e_get hk rfl) ?_
    refine h_st rfl rfl ?_
    refine h_st rfl (e_aa hpo (by decide) (nI_in hj (by decide))) ?_
    refine h_st rfl rfl ?_
    exact h_rt rfl (k_rv _) (⟨_, pf (nI j).toNatClampNeg, rfl, rfl, Or.inr ⟨j, hj, rfl, by rw [nI_clamp (by omega)]⟩⟩)
theorem c_75x (hT : Ty σ K) (hS : S0 K) {f : Nat → Option Nat} {gaf hif quf paf : Nat → Int32} {sof mof pof acf waf : Nat → Nat} {sf : Nat → Nat × Int32} {tgf : Nat → Int32} (hs : σ.2[1]? = some (.inl (4, rfs 8 f))) (hL : Ls σ f gaf hif quf paf sof mof pof acf waf (sf)) (hp : (∀ i, i < 8 → f i ≠ none → ∃ pf, σ.2[pof i]? = some (.inl (7, rfs 4 pf)) ∧ ∀ e, e < 4 → (pf e = none ↔ (tgf i >>> (nI e &&& 31)) &&& 1 = 0))) (l e : Int32) : hE ra (d + 3) 75 [.ref 0, .int l, .int e] σ (pI (fun σ' v => σ' = σ ∧ ((v = -1 ∧ ∀ j k, j < 8 → k < 4 → l = nI j → e = nI k → f j = none ∨ ¬ bit (tgf j) (nI k)) ∨ ∃ j k, j < 8 ∧ k < 4 ∧ l = nI j ∧ e = nI k ∧ f j ≠ none ∧ bit (tgf j) (nI k) ∧ v = lns (fun ln => bit (pt (sof j) k) (nI ln)) (fun ln => tks (fun k => f k ≠ none ∧ bit (paf k) (nI ln)) (fun k => (nI (mof k) + 8 - 1) / 8) 8) 12))) := by
  refine h_in rfl rfl (Nat.le_of_ble_eq_true rfl) ?_
  refine h_st rfl rfl ?_
  refine h_st rfl rfl ?_
  refine h_cr2 rfl (Nat.le_of_ble_eq_true rfl) (rcv1 hT hS.1) rfl (c_37t hT hS l) (fun σ' q9 hq => ?_)
  obtain ⟨hss, hq⟩ := hq
  replace hss := hss.symm
  subst hss
  rcases q9 with _ | r
  · have hno := lk_none hs hq
    refine h_st rfl rfl ?_
    refine h_st rfl rfl ?_
    refine h_st rfl rfl ?_
    refine h_st rfl rfl ?_
    exact h_rt rfl rfl (⟨_, _, rfl, rfl, Or.inl ⟨rfl, fun j k hj _ hlj _ => Or.inl (hno j hj hlj)⟩⟩)
  · obtain ⟨j, hj, hlj, hfj⟩ := lk_some hs hq
    have hfn : f j ≠ none := by rw [hfj]; exact (fun z => by cases z)
    obtain ⟨hb, fi, me, se, hfi, hk⟩ := hL j r hj hfj
    obtain ⟨pf, hpo, hpe⟩ := hp j hj hfn
    refine h_st rfl rfl ?_
    refine h_st rfl rfl ?_
    refine h_st rfl rfl ?_
    refine h_st rfl rfl ?_
    refine h_st rfl rfl ?_
    refine h_cr2 rfl (Nat.le_of_ble_eq_true rfl) (e_rcv hk) rfl (c_39x hk hpo e) (fun σ' q8 hq8 => ?_)
    obtain ⟨hss, hq8⟩ := hq8
    replace hss := hss.symm
    subst hss
    rcases q8 with _ | r8
    · refine h_st rfl rfl ?_
      refine h_st rfl rfl ?_
      exact h_rt rfl rfl (⟨_, _, rfl, rfl, Or.inl ⟨rfl, fun j' k hj' hk' hlj' hek => Or.inr (by rw [nI_inj8 hj' hj (hlj'.symm.trans hlj)]; rcases hq8 with ⟨_, h8⟩ | ⟨k', hk4, hek', h8⟩; exact absurd ⟨by rw [hek]; exact Int32.not_lt.mpr (nI_le (a := 0) (Nat.zero_le _) (by omega)), by rw [hek]; exact nI_ge hk' (by decide)⟩ h8; rw [nI_inj8 (by omega) (by omega) (hek.symm.trans hek')]; exact fun z => z ((hpe k' hk4).mp h8.symm))⟩⟩)
    · refine h_st rfl rfl ?_
      refine h_st rfl rfl ?_
      refine h_st rfl (e_get hk rfl) ?_
      refine h_st rfl rfl ?_
      obtain ⟨k', hk4, hek', h8⟩ : ∃ k', k' < 4 ∧ e = nI k' ∧ some r8 = pf k' := hq8.elim (fun z => by cases z.1) id
      subst hek'
      have hbt : bit (tgf j) (nI k') := fun z => by have := (hpe k' hk4).mpr z; rw [this] at h8; cases h8
      refine h_ci2 rfl (Nat.le_of_ble_eq_true rfl) rfl rfl (k_76x hb.1 hk4) (fun σ' y hy => ?_)
      obtain ⟨hss, rfl⟩ := hy
      replace hss := hss.symm
      subst hss
      refine h_st rfl rfl ?_
      refine h_st rfl rfl ?_
      refine h_st rfl rfl ?_
      refine h_st rfl rfl ?_
      refine h_st rfl rfl ?_
      obtain ⟨r9, g1, σ9, v9, rfl, rfl, rfl⟩ := c_75lx (ra := ra) (d := d) (l := l) (e := nI k') (pth := pt (sof j) k') (r := r) hT hS hs hL 12 0 rfl
      exact ⟨_, g1, _, _, rfl, rfl, Or.inr ⟨j, k', hj, hk4, hlj, rfl, hfn, hbt, rfl⟩⟩
end TYF
