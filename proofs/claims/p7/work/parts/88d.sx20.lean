section SX20
variable {ra : ae_R} {d : Nat} {σ σ0 σ1 σ2 : ae_S} {w w0 w1 w2 : Nat → Nat} {C C' : Nat → Prop} {l q : Nat} {f : Nat → Option Nat} {a : AN} {k : AK} {po ac wa fi : Nat} {se : Int32}
def addF (k : AK) (x : AG) : AK := (k.1, (dfr k ++ [x], k.2.1.2), k.2.2)
theorem LK.slot (h : LK σ w l q k po ac wa fi se) : ∃ fw q' v0 v1 v2 v3 v4 v5, σ.2[wa]? = some (.inl (8, rfs 8 fw)) ∧ fw ((fi + (dfr k).length) % 8) = some q' ∧ w q' = lb l + 8 + (fi + (dfr k).length) % 8 ∧ σ.2[q']? = some (.inr (1, [.int v0, .int v1, .int v2, .int v3, .int v4, .int v5])) := by
  obtain ⟨_, _, _, _, _, fw, h6, h7, _⟩ := h
  obtain ⟨q', v0, v1, v2, v3, v4, v5, e1, e2, e3⟩ := h7 ((fi + (dfr k).length) % 8) (Nat.mod_lt _ (by decide))
  exact ⟨fw, q', v0, v1, v2, v3, v4, v5, h6, e1, e2, e3⟩
theorem LK.addf {x : AG} {q' : Nat} {fw : Nat → Option Nat} (h : LK σ w l q k po ac wa fi se) (hl8 : (dfr k).length < 8) (hfw : σ.2[wa]? = some (.inl (8, rfs 8 fw))) (hq' : fw ((fi + (dfr k).length) % 8) = some q') (wq' : w q' = lb l + 8 + (fi + (dfr k).length) % 8) (hx : 1 ≤ x.2.1 ∧ x.2.1 ≤ 400 ∧ x.2.2.2 < 8 + x.2.1) (s : Sa (fun c => c = lb l ∨ c = lb l + 8 + (fi + (dfr k).length) % 8) σ w σ1 w) (hc : σ1.2[q]? = some (LkC l (addF k x) po ac wa fi se)) (hc' : σ1.2[q']? = some (FG (rmm (kmo k) (kqu k)) x)) : LK σ1 w l q (addF k x) po ac wa fi se := by
  obtain ⟨⟨a1, a2, a3, a4⟩, h1, h2, h3, ⟨fa, h4, h5⟩, fw', h6, h7, h8⟩ := h
  rw [hfw] at h6
  injection h6 with z
  injection z with z
  injection z with z1 z
  injection z with z1 z
  injection z with z
  injection z with z
  injection z with z
  injection z with z
  subst z
  have hmod : (fi + (dfr k).length) % 8 < 8 := Nat.mod_lt _ (by decide)
  have hlen : (dfr (addF k x)).length = (dfr k).length + 1 := by show (dfr k ++ [x]).length = _; rw [List.length_append]; rfl
  refine ⟨⟨a1, a2, a3, a4⟩, hc, ⟨h2.1, h2.2.1, h2.2.2.1, by omega⟩, h3, ⟨fa, s.at h4 (by omega), h5⟩, fw, s.at hfw (by omega), fun j hj => ?_, fun j y hy => ?_⟩
  · obtain ⟨q'', v0, v1, v2, v3, v4, v5, e1, e2, e3⟩ := h7 j hj
    by_cases c : j = (fi + (dfr k).length) % 8
    · rw [c, hq'] at e1
      injection e1 with e1
      subst e1
      exact ⟨q', _, _, _, _, _, _, by rw [c]; exact hq', e2, hc'⟩
    · exact ⟨q'', v0, v1, v2, v3, v4, v5, e1, e2, s.at e3 (by omega)⟩
  · replace hy : (dfr k ++ [x])[j]? = some y := hy
    by_cases c : j < (dfr k).length
    · rw [List.getElem?_append_left c] at hy
      obtain ⟨e0, q'', e1, e2⟩ := h8 j y hy
      obtain ⟨q3, v0, v1, v2, v3, v4, v5, e3, e4, e5⟩ := h7 ((fi + j) % 8) (Nat.mod_lt _ (by decide))
      have e6 : q3 = q'' := by
        rw [e1] at e3
        injection e3 with e3
        exact e3.symm
      subst e6
      have hfi := h2.2.2.1
      exact ⟨e0, q3, e1, s.at e2 (by omega)⟩
    · rw [List.getElem?_append_right (by omega)] at hy
      have hj0 : j - (dfr k).length = 0 := by
        have := (List.getElem?_eq_some_iff.mp hy).1
        simp at this
        omega
      rw [hj0] at hy
      injection hy with hy
      rw [← hy, show j = (dfr k).length by omega]
      exact ⟨hx, q', hq', hc'⟩
def frl (me : Int32) (sz : Nat) (sd : Int32) (rm i : Nat) : List AG := (List.range i).map (fun j => (me, sz, sd, j * rm))
def adj (k : AK) (sz : Nat) (sd : Int32) (i : Nat) : AK := (k.1, (dfr k ++ frl (dme k) sz sd (rmm (kmo k) (kqu k)) i, k.2.1.2), k.2.2)
theorem adj_s {sz : Nat} {sd : Int32} {i : Nat} : addF (adj k sz sd i) (dme k, sz, sd, i * rmm (kmo k) (kqu k)) = adj k sz sd (i + 1) := by
  have e : dfr k ++ frl (dme k) sz sd (rmm (kmo k) (kqu k)) (i + 1) = dfr k ++ frl (dme k) sz sd (rmm (kmo k) (kqu k)) i ++ [(dme k, sz, sd, i * rmm (kmo k) (kqu k))] := by
    unfold frl
    rw [List.range_succ, List.map_append, List.append_assoc]
    rfl
  unfold adj
  rw [e]
  rfl
theorem adj_0 {sz : Nat} {sd : Int32} : adj k sz sd 0 = k := by
  unfold adj frl
  obtain ⟨k1, ⟨k2, k3⟩, k4⟩ := k
  simp
theorem frl_len {me sd : Int32} {sz rm i : Nat} : (frl me sz sd rm i).length = i := by
  unfold frl
  simp
/-- how the fragments of a message are cut -/
theorem cut {rm sz n i : Nat} (h1 : rm * (n - 1) < sz + 8) (h2 : sz + 8 ≤ rm * n) (hr : 24 ≤ rm) (hi : i < n) : (i * rm < 8 + sz) ∧ (i + 1 < n ↔ i * rm + (if rm ≤ 8 + sz - i * rm then rm else 8 + sz - i * rm) < 8 + sz) := by
  have e1 : i * rm ≤ rm * (n - 1) := by
    rw [Nat.mul_comm]
    exact Nat.mul_le_mul_left _ (by omega)
  refine ⟨by omega, ?_⟩
  by_cases c : i + 1 < n
  · have e2 : rm * (i + 1) ≤ rm * (n - 1) := Nat.mul_le_mul_left _ (by omega)
    rw [Nat.mul_add, Nat.mul_one, Nat.mul_comm] at e2
    rw [if_pos (by omega)]
    omega
  · have e3 : n = i + 1 := by omega
    rw [e3, Nat.mul_add, Nat.mul_one, Nat.mul_comm] at h2
    split <;> omega
theorem c_90lz {sz n : Nat} {sd : Int32} (hsz : 1 ≤ sz ∧ sz ≤ 400) (hm0 : 64 ≤ kmo k ∧ kmo k ≤ 128) (hn8 : (dfr k).length + n ≤ 8) (n1 : rmm (kmo k) (kqu k) * (n - 1) < sz + 8) (n2 : sz + 8 ≤ rmm (kmo k) (kqu k) * n) {P : ae_S × ae_O → Prop}
    (hX : ∀ σ x6, LK σ w l q (adj k sz sd n) po ac wa fi se → Sa (fun c => c = lb l ∨ (lb l + 8 ≤ c ∧ c < lb l + 16)) σ0 w σ w → hG ra (d + 2) 90 σ [some (.ref q), some (.int (nI sz)), some (.int sd), some (.int (nI n)), some (.int (nI (rmm (kmo k) (kqu k)))), some (.int (nI n)), x6] [] 134 P) :
    ∀ (m i : Nat) (σ : ae_S) (x6 : Option Value), i + m = n → LK σ w l q (adj k sz sd i) po ac wa fi se → Sa (fun c => c = lb l ∨ (lb l + 8 ≤ c ∧ c < lb l + 16)) σ0 w σ w → hG ra (d + 2) 90 σ [some (.ref q), some (.int (nI sz)), some (.int sd), some (.int (nI n)), some (.int (nI (rmm (kmo k) (kqu k)))), some (.int (nI i)), x6] [] 15 P := by
  have hrm := rmm_bd (qu := kqu k) hm0
  intro m
  induction m with
  | zero =>
    intro i σ x6 hi h s
    have hi : i = n := by omega
    subst hi
    refine h_st rfl rfl ?_
    refine h_st rfl rfl ?_
    refine h_st rfl rfl ?_
    refine h_pc (if_pos (decide_eq_true (nI_le (Nat.le_refl _) (by omega)))) ?_
    exact hX _ _ h s
  | succ m ih =>
    intro i σ x6 hi h s
    have hin : i < n := by omega
    have hfi := h.2.2.1.2.2.1
    obtain ⟨cut1, cut2⟩ := cut n1 n2 hrm.1 hin
    have hlen : (dfr (adj k sz sd i)).length = (dfr k).length + i := by show (dfr k ++ frl _ _ _ _ _).length = _; rw [List.length_append, frl_len]
    have ih1 : ∀ σ x6, LK σ w l q (adj k sz sd (i + 1)) po ac wa fi se → Sa (fun c => c = lb l ∨ (lb l + 8 ≤ c ∧ c < lb l + 16)) σ0 w σ w → hG ra (d + 2) 90 σ [some (.ref q), some (.int (nI sz)), some (.int sd), some (.int (nI n)), some (.int (nI (rmm (kmo k) (kqu k)))), some (.int (nI i + 1)), x6] [] 15 P := fun σ x6 h s => by rw [nI_1]; exact ih (i + 1) σ x6 (by omega) h s
    obtain ⟨fw, q', v0, v1, v2, v3, v4, v5, hfw, hq', wq', hc'⟩ := h.slot
    rw [hlen] at hq' wq'
    have h1 := h.2.1
    have wq := h.1.1
    have hne : q ≠ q' := fun e => by rw [e] at wq; omega
    have em : nI fi + nI (dfr (adj k sz sd i)).length - (nI fi + nI (dfr (adj k sz sd i)).length) / 8 * 8 = nI ((fi + ((dfr k).length + i)) % 8) := by rw [hlen, nI_add]; exact pk_rem (d := 8) (by omega) (by decide) (by decide)
    have hmod : (fi + ((dfr k).length + i)) % 8 < 8 := Nat.mod_lt _ (by decide)
    have hix : ¬ (nI ((fi + ((dfr k).length + i)) % 8) < 0 ∨ 8 ≤ (nI ((fi + ((dfr k).length + i)) % 8)).toNatClampNeg) := nI_in hmod (by decide)
    have er : fw (nI ((fi + ((dfr k).length + i)) % 8)).toNatClampNeg = some q' := by rw [nI_clamp (by omega)]; exact hq'
    have c8 : ¬ (8 : Int32) ≤ nI (dfr (adj k sz sd i)).length := by rw [hlen]; exact nI_ge (b := 8) (by omega) (by decide)
    have epl : nI i * nI (rmm (kmo k) (kqu k)) = nI (i * rmm (kmo k) (kqu k)) := pk_mul _ _
    have ele : (8 : Int32) + nI sz - nI i * nI (rmm (kmo k) (kqu k)) = nI (8 + sz - i * rmm (kmo k) (kqu k)) := by rw [epl, show (8 : Int32) = nI 8 from rfl, nI_add, pk_sub (by omega)]
    have hfl : fln (rmm (kmo k) (kqu k)) (dme k, sz, sd, i * rmm (kmo k) (kqu k)) = (if rmm (kmo k) (kqu k) ≤ 8 + sz - i * rmm (kmo k) (kqu k) then rmm (kmo k) (kqu k) else 8 + sz - i * rmm (kmo k) (kqu k)) := rfl
    have emn : (if nI (8 + sz - i * rmm (kmo k) (kqu k)) < nI (rmm (kmo k) (kqu k)) then nI (8 + sz - i * rmm (kmo k) (kqu k)) else nI (rmm (kmo k) (kqu k))) = nI (fln (rmm (kmo k) (kqu k)) (dme k, sz, sd, i * rmm (kmo k) (kqu k))) := by
      rw [hfl]
      by_cases c : rmm (kmo k) (kqu k) ≤ 8 + sz - i * rmm (kmo k) (kqu k)
      · rw [if_pos c, if_neg (nI_nlt c (by omega))]
      · rw [if_neg c, if_pos (nI_lt (by omega) (by omega))]
    refine h_st rfl rfl ?_
    refine h_st rfl rfl ?_
    refine h_st rfl rfl ?_
    refine h_pc (if_neg (fun z9 => (nI_ge hin (by omega)) (of_decide_eq_true z9))) ?_
    refine h_st rfl rfl ?_
    refine h_st rfl (e_get h1 rfl) ?_
    refine h_st rfl rfl ?_
    refine h_st rfl rfl ?_
    refine h_pc (if_neg (fun z9 => (c8) (of_decide_eq_true z9))) ?_
    refine h_st rfl rfl ?_
    refine h_st rfl (e_get h1 rfl) ?_
    refine h_st rfl rfl ?_
    refine h_st rfl (e_get h1 rfl) ?_
    refine h_st rfl rfl ?_
    refine h_st rfl (e_get h1 rfl) ?_
    refine h_st rfl rfl ?_
    refine h_st rfl rfl ?_
    refine h_st rfl (e_dv (by decide)) ?_
    refine h_st rfl ((by rw [em]; exact (e_aa hfw (by decide) hix).trans (by rw [er]))) ?_
    refine h_st rfl rfl ?_
    have hne' : q' ≠ q := Ne.symm hne
    refine h_st rfl rfl ?_
    refine h_st rfl rfl ?_
    refine h_st rfl (e_get h1 rfl) ?_
    refine h_st rfl (e_put hc' rfl (Nat.le_of_ble_eq_true rfl)) ?_
    refine h_st rfl rfl ?_
    refine h_st rfl rfl ?_
    refine h_st rfl (e_put (st_get hc') rfl (Nat.le_of_ble_eq_true rfl)) ?_
    refine h_st rfl rfl ?_
    refine h_st rfl rfl ?_
    refine h_st rfl (e_put (st_get (st_get hc')) rfl (Nat.le_of_ble_eq_true rfl)) ?_
    refine h_st rfl rfl ?_
    refine h_st rfl rfl ?_
    refine h_st rfl rfl ?_
    refine h_st rfl rfl ?_
    refine h_st rfl (e_put (st_get (st_get (st_get hc'))) rfl (Nat.le_of_ble_eq_true rfl)) ?_
    refine h_st rfl rfl ?_
    refine h_st rfl rfl ?_
    refine h_st rfl rfl ?_
    refine h_st rfl rfl ?_
    refine h_st rfl rfl ?_
    refine h_st rfl rfl ?_
    refine h_st rfl (e_get (st_get (st_get (st_get (st_get hc')))) rfl) ?_
    refine h_st rfl rfl ?_
    refine h_st rfl rfl ?_
    refine h_st rfl (e_put (st_get (st_get (st_get (st_get hc')))) rfl (Nat.le_of_ble_eq_true rfl)) ?_
    refine hG_eq (σ1 := (σ.1, σ.2.set q' (.inr (1, [.int (dme k), .int (nI sz), .int sd, .int (nI (i * rmm (kmo k) (kqu k))), .int (nI (fln (rmm (kmo k) (kqu k)) (dme k, sz, sd, i * rmm (kmo k) (kqu k)))), .int v5])))) ?_ ?_
    · refine Prod.ext rfl ?_
      show ((((σ.2.set q' _).set q' _).set q' _).set q' _).set q' _ = _
      rw [List.set_set, List.set_set, List.set_set, List.set_set, ← emn, ← ele, ← epl]
      rfl
    have hc2 : ((σ.1, σ.2.set q' (.inr (1, [.int (dme k), .int (nI sz), .int sd, .int (nI (i * rmm (kmo k) (kqu k))), .int (nI (fln (rmm (kmo k) (kqu k)) (dme k, sz, sd, i * rmm (kmo k) (kqu k)))), .int v5]))) : ae_S).2[q']? = some (.inr (1, [.int (dme k), .int (nI sz), .int sd, .int (nI (i * rmm (kmo k) (kqu k))), .int (nI (fln (rmm (kmo k) (kqu k)) (dme k, sz, sd, i * rmm (kmo k) (kqu k)))), .int v5])) := st_get hc'
    have h12 : ((σ.1, σ.2.set q' (.inr (1, [.int (dme k), .int (nI sz), .int sd, .int (nI (i * rmm (kmo k) (kqu k))), .int (nI (fln (rmm (kmo k) (kqu k)) (dme k, sz, sd, i * rmm (kmo k) (kqu k)))), .int v5]))) : ae_S).2[q]? = some (LkC l (adj k sz sd i) po ac wa fi se) := (st_ne hne').trans h1
    have s2 := Sa.set (σ := σ) (w := w) (p := q') (y := .inr (1, [.int (dme k), .int (nI sz), .int sd, .int (nI (i * rmm (kmo k) (kqu k))), .int (nI (fln (rmm (kmo k) (kqu k)) (dme k, sz, sd, i * rmm (kmo k) (kqu k)))), .int v5]))
    rw [wq'] at s2
    generalize ((σ.1, σ.2.set q' (.inr (1, [.int (dme k), .int (nI sz), .int sd, .int (nI (i * rmm (kmo k) (kqu k))), .int (nI (fln (rmm (kmo k) (kqu k)) (dme k, sz, sd, i * rmm (kmo k) (kqu k)))), .int v5]))) : ae_S) = σ2 at hc2 h12 s2
    have fin : ∀ v, v = fmo (rmm (kmo k) (kqu k)) (dme k, sz, sd, i * rmm (kmo k) (kqu k)) → LK ((σ2.1, (σ2.2.set q' (.inr (1, [.int (dme k), .int (nI sz), .int sd, .int (nI (i * rmm (kmo k) (kqu k))), .int (nI (fln (rmm (kmo k) (kqu k)) (dme k, sz, sd, i * rmm (kmo k) (kqu k)))), .int v]))).set q (LkC l (adj k sz sd (i + 1)) po ac wa fi se)) : ae_S) w l q (adj k sz sd (i + 1)) po ac wa fi se ∧ Sa (fun c => c = lb l ∨ (lb l + 8 ≤ c ∧ c < lb l + 16)) σ0 w ((σ2.1, (σ2.2.set q' (.inr (1, [.int (dme k), .int (nI sz), .int sd, .int (nI (i * rmm (kmo k) (kqu k))), .int (nI (fln (rmm (kmo k) (kqu k)) (dme k, sz, sd, i * rmm (kmo k) (kqu k)))), .int v]))).set q (LkC l (adj k sz sd (i + 1)) po ac wa fi se)) : ae_S) w := fun v hv => by
      have s3 : Sa (fun c => c = lb l ∨ c = lb l + 8 + (fi + ((dfr k).length + i)) % 8) σ2 w ((σ2.1, (σ2.2.set q' (.inr (1, [.int (dme k), .int (nI sz), .int sd, .int (nI (i * rmm (kmo k) (kqu k))), .int (nI (fln (rmm (kmo k) (kqu k)) (dme k, sz, sd, i * rmm (kmo k) (kqu k)))), .int v]))).set q (LkC l (adj k sz sd (i + 1)) po ac wa fi se)) : ae_S) w := ⟨by simp, fun u _ hu => ⟨(st_ne (σ := (σ2.1, σ2.2.set q' (.inr (1, [.int (dme k), .int (nI sz), .int sd, .int (nI (i * rmm (kmo k) (kqu k))), .int (nI (fln (rmm (kmo k) (kqu k)) (dme k, sz, sd, i * rmm (kmo k) (kqu k)))), .int v])))) (fun e => hu (Or.inl (by rw [← e]; exact wq)))).trans (st_ne (fun e => hu (Or.inr (by rw [← e]; exact wq')))), rfl⟩⟩
      have s4 := (s2.mono (fun c z => Or.inr z)).trans s3
      have hA := h.addf (x := (dme k, sz, sd, i * rmm (kmo k) (kqu k))) (by omega) hfw (by rw [hlen]; exact hq') (by rw [hlen]; exact wq') ⟨hsz.1, hsz.2, cut1⟩ (by rw [hlen]; exact s4) (by rw [adj_s]; exact st_get (σ := (σ2.1, σ2.2.set q' _)) ((st_ne hne').trans h12)) (by rw [hv]; exact (st_ne (σ := (σ2.1, σ2.2.set q' _)) hne).trans (st_get hc2))
      rw [adj_s] at hA
      exact ⟨hA, s.trans (s4.mono (fun c z => by omega))⟩
    have ecn : nI (dfr (adj k sz sd i)).length + 1 = nI (dfr (adj k sz sd (i + 1))).length := by
      rw [nI_1, hlen, show (dfr (adj k sz sd (i + 1))).length = (dfr k).length + (i + 1) by show (dfr k ++ frl _ _ _ _ _).length = _; rw [List.length_append, frl_len]]
      rfl
    have efm : ∀ v : Int32, (i + 1 < n → v = 1) → (¬ i + 1 < n → v = 0) → v = fmo (rmm (kmo k) (kqu k)) (dme k, sz, sd, i * rmm (kmo k) (kqu k)) := fun v z1 z2 => by
      unfold fmo
      rw [hfl]
      by_cases c : i + 1 < n
      · rw [z1 c]
        exact (if_pos (cut2.mp c)).symm
      · rw [z2 c]
        exact (if_neg (fun z => c (cut2.mpr z))).symm
    refine h_st rfl rfl ?_
    refine h_st rfl rfl ?_
    refine h_st rfl rfl ?_
    refine h_st rfl rfl ?_
    refine h_st rfl rfl ?_
    refine h_st rfl rfl ?_
    refine h_br (fun q3 => ?_) (fun q3 => ?_)
    · refine h_st rfl rfl ?_
      refine h_st rfl (e_put hc2 rfl (Nat.le_of_ble_eq_true rfl)) ?_
      refine h_st rfl rfl ?_
      refine h_st rfl rfl ?_
      refine h_st rfl (e_get ((st_ne hne').trans h12) rfl) ?_
      refine h_st rfl rfl ?_
      refine h_st rfl rfl ?_
      refine h_st rfl (e_put ((st_ne hne').trans h12) rfl (Nat.le_of_ble_eq_true rfl)) ?_
      refine hG_eq (σ1 := (σ2.1, (σ2.2.set q' (.inr (1, [.int (dme k), .int (nI sz), .int sd, .int (nI (i * rmm (kmo k) (kqu k))), .int (nI (fln (rmm (kmo k) (kqu k)) (dme k, sz, sd, i * rmm (kmo k) (kqu k)))), .int 0]))).set q (LkC l (adj k sz sd (i + 1)) po ac wa fi se))) (by unfold LkC; rw [← ecn]; rfl) ?_
      refine h_st rfl rfl ?_
      refine h_st rfl rfl ?_
      exact ih1 _ _ (fin 0 (efm 0 (fun z => absurd q3 (show ¬ nI n ≤ nI i + 1 by rw [nI_1]; exact nI_ge z (by omega))) (fun _ => rfl))).1 (fin 0 (efm 0 (fun z => absurd q3 (show ¬ nI n ≤ nI i + 1 by rw [nI_1]; exact nI_ge z (by omega))) (fun _ => rfl))).2
    · refine h_st rfl rfl ?_
      refine h_st rfl rfl ?_
      refine h_st rfl (e_put hc2 rfl (Nat.le_of_ble_eq_true rfl)) ?_
      refine h_st rfl rfl ?_
      refine h_st rfl rfl ?_
      refine h_st rfl (e_get ((st_ne hne').trans h12) rfl) ?_
      refine h_st rfl rfl ?_
      refine h_st rfl rfl ?_
      refine h_st rfl (e_put ((st_ne hne').trans h12) rfl (Nat.le_of_ble_eq_true rfl)) ?_
      refine hG_eq (σ1 := (σ2.1, (σ2.2.set q' (.inr (1, [.int (dme k), .int (nI sz), .int sd, .int (nI (i * rmm (kmo k) (kqu k))), .int (nI (fln (rmm (kmo k) (kqu k)) (dme k, sz, sd, i * rmm (kmo k) (kqu k)))), .int 1]))).set q (LkC l (adj k sz sd (i + 1)) po ac wa fi se))) (by unfold LkC; rw [← ecn]; rfl) ?_
      refine h_st rfl rfl ?_
      refine h_st rfl rfl ?_
      exact ih1 _ _ (fin 1 (efm 1 (fun _ => rfl) (fun z => absurd (show nI n ≤ nI i + 1 by rw [nI_1]; exact nI_le (by omega) (by omega)) q3))).1 (fin 1 (efm 1 (fun _ => rfl) (fun z => absurd (show nI n ≤ nI i + 1 by rw [nI_1]; exact nI_le (by omega) (by omega)) q3))).2
/-- a message is cut into fragments that wait -/
def adm (k : AK) (sz : Nat) (sd : Int32) (n : Nat) : AK := (k.1, (dfr k ++ frl (dme k) sz sd (rmm (kmo k) (kqu k)) n, (dme k + 1) &&& 65535, dsq k, dop k), k.2.2)
theorem c_90z {sz : Nat} {sd u : Int32} (eu : u = nI sz) (h : LK σ w l q k po ac wa fi se) (hsz : 1 ≤ sz ∧ sz ≤ 400) (hn8 : (dfr k).length + ned (kmo k) (kqu k) (nI sz) ≤ 8) (n1 : rmm (kmo k) (kqu k) * (ned (kmo k) (kqu k) (nI sz) - 1) < sz + 8) (n2 : sz + 8 ≤ rmm (kmo k) (kqu k) * ned (kmo k) (kqu k) (nI sz)) : hE ra (d + 3) 90 [.ref q, .int u, .int sd] σ (pV (fun σ' => LK σ' w l q (adm k sz sd (ned (kmo k) (kqu k) (nI sz))) po ac wa fi se ∧ Sa (fun c => c = lb l ∨ (lb l + 8 ≤ c ∧ c < lb l + 16)) σ w σ' w)) := by
  subst eu
  have hmo := h.2.2.1.2.1
  refine h_in rfl rfl (Nat.le_of_ble_eq_true rfl) ?_
  refine h_st rfl rfl ?_
  refine h_st rfl rfl ?_
  refine h_ci2 rfl (Nat.le_of_ble_eq_true rfl) (h.rcv) rfl (c_88x h.2.1 hmo (nI sz)) (fun σ' y hy => ?_)
  obtain ⟨rfl, rfl⟩ := hy
  refine h_st rfl rfl ?_
  refine h_st rfl rfl ?_
  refine h_ci1 rfl (Nat.le_of_ble_eq_true rfl) (h.rcv) rfl (c_89x h.2.1 hmo) (fun σ' y hy => ?_)
  obtain ⟨rfl, rfl⟩ := hy
  refine h_st rfl rfl ?_
  refine h_st rfl rfl ?_
  refine h_st rfl rfl ?_
  refine c_90lz (k := k) (w := w) (σ0 := σ') hsz hmo hn8 n1 n2 (fun σ2 x6 h2 s2 => ?_) _ 0 _ _ (Nat.zero_add _) (by rw [adj_0]; exact h) Sa.refl
  obtain ⟨g3, s3⟩ := h2.put (a' := adm k sz sd (ned (kmo k) (kqu k) (nI sz))) (fi' := fi) (se' := se) h2.2.2.1 h2.2.2.2.1 rfl rfl rfl (fun j y hy => ⟨j, rfl, hy⟩)
  refine h_st rfl rfl ?_
  refine h_st rfl rfl ?_
  refine h_st rfl (e_get h2.2.1 rfl) ?_
  refine h_st rfl rfl ?_
  refine h_st rfl rfl ?_
  refine h_st rfl rfl ?_
  refine h_st rfl rfl ?_
  refine h_st rfl (e_put h2.2.1 rfl (Nat.le_of_ble_eq_true rfl)) ?_
  exact h_rv rfl (⟨_, rfl, g3, s2.trans (s3.mono (fun c z => Or.inl z))⟩)
end SX20
