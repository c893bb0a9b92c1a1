section SY11
variable {ra : ae_R} {d : Nat} {σ : ae_S}
section S11
variable {F F' Fb : Nat → Nat → Int32} {v v' : Nat → Nat} {L : Nat → ALn} {A A' : ALn} {f i r l : Nat} {k : AK} {K : Nat → Option AK} {a : AN} {x : AF}
theorem crc_cg {g g' : Nat → Int32} : ∀ n, (∀ k, k < n → g k = g' k) → crc g n = crc g' n
  | 0, _ => rfl
  | n + 1, h => by
    rw [crc, crc, crc_cg n (fun k hk => h k (by omega)), h n (by omega)]
theorem chk_cg {g g' : Nat → Int32} {n : Nat} (h : ∀ k, k < n → g k = g' k) : chk n g = chk n g' := by
  unfold chk
  rw [crc_cg (n - 4) (fun k hk => h k (by omega))]
theorem okc_cg {g g' : Nat → Int32} {n : Nat} (hn : 64 ≤ n) (h : ∀ k, k < n → g k = g' k) : okc n g ↔ okc n g' := by
  unfold okc
  rw [chk_cg h]
  exact ⟨fun z i hi => by rw [← h _ (by omega)]; exact z i hi, fun z i hi => by rw [h _ (by omega)]; exact z i hi⟩
theorem pa_cg {g g' : Nat → Int32} {n k : Nat} (h : ∀ k, k < n → g k = g' k) (hk : k + 1 < n) : pa g k = pa g' k := by
  unfold pa
  rw [h k (by omega), h (k + 1) hk]
theorem lnk_cg {g g' : Nat → Int32} {n : Nat} (hn : 64 ≤ n) (h : ∀ k, k < n → g k = g' k) : lnk g = lnk g' := by
  unfold lnk
  rw [h 0 (by omega), h 5 (by omega), pa_cg h (show 1 + 1 < n by omega), pa_cg h (show 3 + 1 < n by omega)]
theorem fom_cg {g g' : Nat → Int32} {n : Nat} (hn : 64 ≤ n) (h : ∀ k, k < n → g k = g' k) : fom n g ↔ fom n g' := by
  unfold fom
  rw [h 12 (by omega), h 13 (by omega), h 14 (by omega), h 23 (by omega), pa_cg h (show 24 + 1 < n by omega), pa_cg h (show 16 + 1 < n by omega), smc_cg (fun k hk => h k (by omega))]
theorem lvt_i : ∀ j, j < 12 → lvt j = frI (nI j) := by decide
theorem ent_i : ∀ j, j < 12 → ent j = toI (nI j) := by decide
theorem enq_hi {hi hi' : Int32} (h : hi = 0 ↔ hi' = 0) : enq i hi x A = enq i hi' x A := by
  unfold enq
  by_cases c : ¬ hi = 0 ∧ ¬ i % 12 < 4
  · have c' : ¬ hi' = 0 ∧ ¬ i % 12 < 4 := ⟨fun z => c.1 (h.mpr z), c.2⟩
    rw [if_pos c, if_pos c']
  · have c' : ¬ (¬ hi' = 0 ∧ ¬ i % 12 < 4) := fun z => c ⟨fun y => z.1 (h.mp y), z.2⟩
    rw [if_neg c, if_neg c']
theorem Wr.set {F1 : Nat → Nat → Int32} {k : Nat} {gc : Nat → Int32} {z : Int32} (h : Wr F f gc F1) (hk : k < 200) : Wr F f (upd gc k z) (fu F1 194 (upd (F1 194) (200 * f + k) z)) := by
  obtain ⟨h1, h2, h3⟩ := h
  refine ⟨fun q hq => (fu_n hq).trans (h1 q hq), fun i hi => ?_, fun j hj => ?_⟩
  · rw [fu_s, pk_un (by omega)]
    exact h2 i hi
  · rw [fu_s]
    by_cases c : j = k
    · rw [c, pk_us, pk_us]
    · rw [pk_un (by omega), pk_un c]
      exact h3 j hj
def cpy (gf : Nat → Int32) (i : Nat) : Nat → Int32 := fun k => if k < i then gf k else 0
theorem cpy_s {gf : Nat → Int32} {i : Nat} : upd (cpy gf i) i (gf i) = cpy gf (i + 1) := by
  funext k
  by_cases c : k = i
  · rw [c, pk_us]
    exact (if_pos (by omega)).symm
  · rw [pk_un c]
    unfold cpy
    by_cases c2 : k < i
    · rw [if_pos c2, if_pos (by omega)]
    · rw [if_neg c2, if_neg (by omega)]
end S11
theorem r_124iw {b : Bool} {σ0 : ae_S} {F0 Fb : Nat → Nat → Int32} {c u g : Int32} {aa e : List Nat} {f l gg sz nt ln : Nat} {gf : Nat → Int32} {x5 x6 : Option Value} (hf : f < 400) (hgg : gg < 400) (hne : f ≠ gg) (hz : Fb 195 f = nI sz) (hz1 : 64 ≤ sz ∧ sz ≤ 200) (hg : ∀ k, k < 200 → Fb 194 (200 * f + k) = gf k) {P : ae_S × ae_O → Prop} (hx : ∀ σ F, RS b σ0 F0 σ c u g F → RP F g aa e → Wr Fb gg (cpy gf sz) F → hG ra (d + 2) 124 σ [some (.ref 176), some (.int (nI f)), some (.int (nI nt)), some (.int (nI ln)), some (.int (nI l)), x5, x6, some (.int (nI gg)), some (.int (nI sz))] [] 251 P) : ∀ (m i : Nat) (σ : ae_S) (F : Nat → Nat → Int32), i + m = sz → RS b σ0 F0 σ c u g F → RP F g aa e → Wr Fb gg (cpy gf i) F → hG ra (d + 2) 124 σ [some (.ref 176), some (.int (nI f)), some (.int (nI nt)), some (.int (nI ln)), some (.int (nI l)), x5, x6, some (.int (nI gg)), some (.int (nI i))] [] 213 P := by
  intro m
  induction m with
  | zero =>
    intro i σ F hi h hP hW
    have hi : i = sz := by omega
    subst hi
    have hz' : F 195 f = nI i := by rw [hW.1 195 (by decide)]; exact hz
    refine h_st rfl rfl ?_
    refine h_st rfl rfl ?_
    refine h_st rfl (e_get h.2.1 rfl) ?_
    refine h_st rfl rfl ?_
    refine h_st rfl (q_iaE h.a195 (rfl) (hf) (by decide) (hz')) ?_
    refine h_st rfl rfl ?_
    refine h_pc (if_pos (decide_eq_true (nI_le (Nat.le_refl _) (by omega)))) ?_
    exact hx _ _ h hP hW
  | succ m ih =>
    intro i σ F hi h hP hW
    have ih1 := fun σ F => ih (i + 1) σ F (by omega)
    simp only [← nI_1] at ih1
    have hz' : F 195 f = nI sz := by rw [hW.1 195 (by decide)]; exact hz
    have hgi : F 194 (200 * f + i) = gf i := by rw [hW.2.1 _ (by omega)]; exact hg i (by omega)
    have hB := hP.2.2.1
    refine h_st rfl rfl ?_
    refine h_st rfl rfl ?_
    refine h_st rfl (e_get h.2.1 rfl) ?_
    refine h_st rfl rfl ?_
    refine h_st rfl (q_iaE h.a195 (rfl) (hf) (by decide) (hz')) ?_
    refine h_st rfl rfl ?_
    refine h_pc (if_neg (fun z9 => (nI_ge (show i < sz by omega) (by omega)) (of_decide_eq_true z9))) ?_
    refine h_st rfl rfl ?_
    refine h_st rfl (e_get h.2.1 rfl) ?_
    refine h_st rfl rfl ?_
    refine h_st rfl rfl ?_
    refine h_st rfl rfl ?_
    refine h_st rfl rfl ?_
    refine h_st rfl rfl ?_
    refine h_st rfl rfl ?_
    refine h_st rfl rfl ?_
    refine h_st rfl rfl ?_
    refine h_ci3 rfl (Nat.le_of_ble_eq_true rfl) (e_rcv h.2.1) rfl (r_108 h (rfl) (hf) (rfl) (by omega)) (fun σ' y hq => ?_)
    obtain ⟨hss, rfl⟩ := hq
    replace hss := hss.symm
    subst hss
    refine r_ias rfl h m194 (fun _ => by decide) (by decide) (ix2 gg i) (by omega) (rfl) (fun σ2 h2 => ?_)
    replace h := h2
    clear h2
    refine h_st rfl rfl ?_
    refine h_st rfl rfl ?_
    refine ih1 _ _ h (hP.b (hB.upd (hB _ (by omega)))) ?_
    have hs := hW.set (k := i) (z := F 194 (200 * f + i)) (by omega)
    rw [← cpy_s, ← hgi]
    exact hs
theorem r_124lw {b : Bool} {σ0 : ae_S} {F0 Fx : Nat → Nat → Int32} {c u g : Int32} {aa e : List Nat} {a : AN} {k : AK} {x : AF} {f l nt ln : Nat} {x5 : Option Value} (hf : f < 400) (hnt : nt < 2) (hln : ln < 12) (hl : l < 8) (he : e.length ≤ 90) (hK : RK Fx l k) : ∀ (m j : Nat) (σ : ae_S) (F : Nat → Nat → Int32) (v : Nat → Nat) (x7 x8 : Option Value), j + m = 8 → RS b σ0 F0 σ c u g F → RP F g (f :: aa) (f :: e) → ML F v (nL (fwd a nt ln k x j)) → RX F v f 2000 x → (∀ q, q < 194 ∨ (198 < q ∧ q ≠ 213) → F q = Fx q) → hG ra (d + 3) 124 σ [some (.ref 176), some (.int (nI f)), some (.int (nI nt)), some (.int (nI ln)), some (.int (nI l)), x5, some (.int (nI (4 + j))), x7, x8] [] 158 (pV (fun σ' => ∃ F' v', RS b σ0 F0 σ' c u g F' ∧ RP F' g aa e ∧ ML F' v' (nL (fwd a nt ln k x 8)) ∧ (∀ q, q < 194 ∨ (198 < q ∧ q ≠ 213) → F' q = Fx q))) := by
  intro m
  induction m with
  | zero =>
    intro j σ F v x7 x8 hj h hP hML hX ag
    have hj : j = 8 := by omega
    subst hj
    refine h_st rfl rfl ?_
    refine h_st rfl rfl ?_
    refine h_st rfl rfl ?_
    refine h_pc (if_pos (decide_eq_true (nI_le (Nat.le_refl 12) (by decide)))) ?_
    refine h_st rfl rfl ?_
    refine h_st rfl (e_get h.2.1 rfl) ?_
    refine h_st rfl rfl ?_
    refine h_st rfl rfl ?_
    refine r_bas rfl h m196 (fun _ => by decide) (by decide) (rfl) (hf) ((rfl : vp_nar .boolean 0 = 0)) (fun σ2 h2 => ?_)
    replace h := h2
    clear h2
    exact h_rv rfl (⟨_, rfl, _, v, h, hP.n6 hP.2.2.2.1.free, hML.free (f := f) (by rw [hX.2.1]; exact Nat.le_refl _) (fun q z1 z2 => fu_n z1) fu_s, fun q hq => (fu_n (by omega)).trans (ag q hq)⟩)
  | succ m ih =>
    intro j σ F v x7 x8 hj h hP hML hX ag
    have ih1 := fun σ F v x7 x8 => ih (j + 1) σ F v x7 x8 (by omega)
    rw [show nI (4 + (j + 1)) = nI (4 + j) + 1 from (nI_1 _).symm] at ih1
    have e12 : (12 : Int32) * nI nt + nI (4 + j) = nI (12 * nt + (4 + j)) := by rw [show (12 : Int32) = nI 12 from rfl, pk_mul, nI_add]
    have hX' := hX
    obtain ⟨-, hvf, huf, hz, hz1, gf, hgf, hbf, hxf⟩ := hX'
    obtain ⟨⟨-, -, -, -, -, a6, -⟩, -, -, -, d2⟩ := hK
    have hd := d2 (4 + j) (by omega)
    have hno : ¬ (lvt (4 + j) = ent ln ∧ bit (kpa k) (nI (4 + j))) → fwd a nt ln k x (j + 1) = fwd a nt ln k x j := fun z => if_neg z
    have hyes : (lvt (4 + j) = ent ln ∧ bit (kpa k) (nI (4 + j))) → fwd a nt ln k x (j + 1) = setL (fwd a nt ln k x j) (12 * nt + (4 + j)) (enq (12 * nt + (4 + j)) (khi k) x (nL (fwd a nt ln k x j) (12 * nt + (4 + j)))) := fun z => if_pos z
    rw [lvt_i (4 + j) (by omega), ent_i ln hln] at hno hyes
    have e80 : F 180 l = Fx 180 l := by rw [ag 180 (by decide)]
    have e83 : F 183 l = Fx 183 l := by rw [ag 183 (by decide)]
    rw [← e80, ← e83] at hd
    refine h_st rfl rfl ?_
    refine h_st rfl rfl ?_
    refine h_st rfl rfl ?_
    refine h_pc (if_neg (fun z9 => (nI_ge (b := 12) (show 4 + j < 12 by omega) (by decide)) (of_decide_eq_true z9))) ?_
    refine h_st rfl rfl ?_
    refine h_ci1 rfl (Nat.le_of_ble_eq_true rfl) rfl rfl (r_127x _) (fun σ' y9 hq => ?_)
    obtain ⟨hss, rfl⟩ := hq
    replace hss := hss.symm
    subst hss
    refine h_st rfl rfl ?_
    refine h_ci1 rfl (Nat.le_of_ble_eq_true rfl) rfl rfl (r_115x _) (fun σ' y8 hq => ?_)
    obtain ⟨hss, rfl⟩ := hq
    replace hss := hss.symm
    subst hss
    refine h_st rfl rfl ?_
    refine h_br (fun q1 => ?_) (fun q1 => ?_)
    · refine h_st rfl rfl ?_
      refine h_st rfl rfl ?_
      exact ih1 _ F v _ _ h hP (by rw [hno (fun z => q1 z.1)]; exact hML) hX ag
    · refine h_st rfl rfl ?_
      refine h_st rfl rfl ?_
      refine h_st rfl rfl ?_
      refine h_ci3 rfl (Nat.le_of_ble_eq_true rfl) (e_rcv h.2.1) rfl (r_125x h rfl hl) (fun σ' y7 hq => ?_)
      obtain ⟨hss, rfl⟩ := hq
      replace hss := hss.symm
      subst hss
      refine h_st rfl rfl ?_
      refine h_br (fun q2 => ?_) (fun q2 => ?_)
      · refine h_st rfl rfl ?_
        refine h_ci1 rfl (Nat.le_of_ble_eq_true rfl) (e_rcv h.2.1) rfl (pI_and (r_104 h hP (by simp; omega)) (r_104w h (hP.2.2.2.1.some (by simp; omega)))) (fun σ1 v1 hq => ?_)
        obtain ⟨⟨g0, F0', e0, hg0, h0, hP0, -⟩, gg, F1, ev, hgg, hug, h1, hW1⟩ := hq
        have eg : g0 = gg := nI_inj (by omega) (by omega) (e0.symm.trans ev)
        subst eg
        subst ev
        replace h := h1
        replace hP := hP0.tr h0 h1
        have hne : f ≠ g0 := fun z => huf (by rw [z]; exact hug)
        have hz2 : F1 195 f = nI x.1 := by rw [hW1.1 195 (by decide), fu_n (by decide)]; exact hz
        refine h_st rfl rfl ?_
        refine h_st rfl rfl ?_
        refine h_st rfl (e_get h.2.1 rfl) ?_
        refine h_st rfl rfl ?_
        refine h_st rfl rfl ?_
        refine h_st rfl (e_get h.2.1 rfl) ?_
        refine h_st rfl rfl ?_
        refine h_st rfl (q_iaE h.a195 (rfl) (hf) (by decide) (hz2)) ?_
        refine r_ias rfl h m195 (fun _ => by decide) (by decide) (rfl) (hgg) (rfl) (fun σ2 h2 => ?_)
        replace h := h2
        clear h2
        replace hP := hP.n5 (hP.2.2.2.1.size (f := g0) hz1.1 hz1.2)
        refine h_st rfl rfl ?_
        refine h_st rfl rfl ?_
        have hW2 : Wr (fu (fu F 196 (upd (F 196) g0 1)) 195 (upd (F 195) g0 (nI x.1))) g0 (cpy gf 0) (fu F1 195 (upd (F1 195) g0 (nI x.1))) := hW1.sz.cg (fun k hk => if_neg (by omega))
        refine r_124iw (Fb := fu (fu F 196 (upd (F 196) g0 1)) 195 (upd (F 195) g0 (nI x.1))) hf hgg hne (by rw [fu_s, pk_un hne]; exact hz) hz1 hgf (fun σ3 F3 h3 hP3 hW3 => ?_) x.1 0 _ _ (Nat.zero_add _) h hP hW2
        replace h := h3
        have hby : byt (cpy gf x.1) 200 := fun k hk => by
          unfold cpy
          by_cases c : k < x.1
          · rw [if_pos c]; exact hbf k hk
          · rw [if_neg c]; exact ⟨0, by decide, rfl⟩
        obtain ⟨hML3, hXg⟩ := hML.mk (x2 := x.2) hgg hug hW3 hz1 hby (fun j hj => (if_pos hj).trans (hxf j hj))
        have hX3 := hX.mk hug hW3
        have ag3 : ∀ q, q < 194 ∨ (198 < q ∧ q ≠ 213) → F3 q = Fx q := fun q hq => (hW3.1 q (by omega)).trans ((fu_n (by omega)).trans ((fu_n (by omega)).trans (ag q hq)))
        have e78 : F3 178 l = 0 ↔ khi k = 0 := by rw [ag3 178 (by decide)]; exact a6
        refine h_st rfl rfl ?_
        refine h_st rfl rfl ?_
        refine h_st rfl rfl ?_
        refine h_st rfl rfl ?_
        refine h_st rfl rfl ?_
        refine h_st rfl rfl ?_
        refine h_st rfl rfl ?_
        refine h_st rfl rfl ?_
        refine h_st rfl (e_get h.2.1 rfl) ?_
        refine h_st rfl rfl ?_
        refine h_st rfl (q_ba h.a178 (rfl) (hl) (by decide)) ?_
        refine h_cv4 rfl (Nat.le_of_ble_eq_true rfl) (e_rcv h.2.1) rfl (r_112m h hML3 hXg (Nat.le_refl _) rfl hP3 e12 (by omega) _) (fun σ4 hq => ?_)
        obtain ⟨F4, v4, h4, hP4, hML4, ag4, ho4⟩ := hq
        refine h_st rfl rfl ?_
        refine h_st rfl rfl ?_
        refine ih1 _ F4 v4 _ _ h4 hP4 ?_ (hX3.ag ⟨(ho4 f hne).1, by rw [ag4 195 (by decide)], fun k hk => by rw [ag4 194 (by decide)], (ho4 f hne).2⟩) (fun q hq => (ag4 q (by omega)).trans (ag3 q hq))
        rw [hyes ⟨Decidable.of_not_not q1, hd.mpr q2⟩, ← enq_hi (x := x) e78]
        exact hML4
      · refine h_st rfl rfl ?_
        refine h_st rfl rfl ?_
        refine h_st rfl rfl ?_
        exact ih1 _ F v _ _ h hP (by rw [hno (fun z => hd.mp z.2 (Decidable.of_not_not q2))]; exact hML) hX ag
end SY11
