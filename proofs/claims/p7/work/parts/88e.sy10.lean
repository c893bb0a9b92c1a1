section SY10
variable {ra : ae_R} {d : Nat} {σ : ae_S}
section S10
variable {F F' Fb : Nat → Nat → Int32} {v v' : Nat → Nat} {L : Nat → ALn} {A A' : ALn} {f i r l : Nat} {k : AK} {K : Nat → Option AK} {a : AN}
theorem enq_lo {hi : Int32} {x : AF} (h : i % 12 < 4) : enq i hi x A = enq i 0 x A := by
  have e0 : ∀ hi' : Int32, ¬ (¬ hi' = 0 ∧ ¬ i % 12 < 4) := fun hi' z => z.2 h
  unfold enq
  rw [if_neg (e0 hi), if_neg (e0 0)]
/-- a link of the reference that has sent -/
theorem RK.sent {x : AG} {t : List AG} {tm : Int32} {F8 F9 : Nat → Nat → Int32} (h : RK F l k) (hx : dfr k = x :: t) (hl : l < 8) (e : ∀ q, q < 194 → F9 q = F q) (hS : SHF (fu (fu (fu F9 187 (upd (F9 187) l (F9 187 l - F9 187 l / 255 * 255 + 1))) 185 (upd (F9 185) l (tm + F9 181 l))) 189 (upd (F9 189) l (nI t.length))) (8 * l) (8 * l + t.length) F8) : RK F8 l (opn (nsq (pop k)) tm) ∧ ∀ j, j < 8 → j ≠ l → (∀ k', RK F j k' → RK F8 j k') ∧ (F8 177 j = F 177 j ∧ F8 185 j = F 185 j ∧ F8 186 j = F 186 j ∧ F8 187 j = F 187 j ∧ F8 189 j = F 189 j) := by
  obtain ⟨s1, s2, s3, s4, s5⟩ := hS
  have eo : ∀ q, q < 194 → q ≠ 185 → q ≠ 187 → q ≠ 189 → q ≠ 190 → q ≠ 191 → q ≠ 192 → q ≠ 193 → F8 q = F q := fun q z0 z1 z2 z3 z4 z5 z6 z7 => by rw [s1 q z4 z5 z6 z7, fu_n z3, fu_n z1, fu_n z2, e q z0]
  have e85 : F8 185 = upd (F 185) l (tm + F 181 l) := by rw [s1 185 (by decide) (by decide) (by decide) (by decide), fu_n (by decide), fu_s, e 185 (by decide), e 181 (by decide)]
  have e87 : F8 187 = upd (F 187) l (F 187 l - F 187 l / 255 * 255 + 1) := by rw [s1 187 (by decide) (by decide) (by decide) (by decide), fu_n (by decide), fu_n (by decide), fu_s, e 187 (by decide)]
  have e89 : F8 189 = upd (F 189) l (nI t.length) := by rw [s1 189 (by decide) (by decide) (by decide) (by decide), fu_s, e 189 (by decide)]
  have e90 : F8 190 = shf (F 190) (8 * l) (8 * l + t.length) := by rw [s2, fu_n (by decide), fu_n (by decide), fu_n (by decide), e 190 (by decide)]
  have e91 : F8 191 = shf (F 191) (8 * l) (8 * l + t.length) := by rw [s3, fu_n (by decide), fu_n (by decide), fu_n (by decide), e 191 (by decide)]
  have e92 : F8 192 = shf (F 192) (8 * l) (8 * l + t.length) := by rw [s4, fu_n (by decide), fu_n (by decide), fu_n (by decide), e 192 (by decide)]
  have e93 : F8 193 = shf (F 193) (8 * l) (8 * l + t.length) := by rw [s5, fu_n (by decide), fu_n (by decide), fu_n (by decide), e 193 (by decide)]
  have o177 := eo 177 (by decide) (by decide) (by decide) (by decide) (by decide) (by decide) (by decide) (by decide)
  have o178 := eo 178 (by decide) (by decide) (by decide) (by decide) (by decide) (by decide) (by decide) (by decide)
  have o179 := eo 179 (by decide) (by decide) (by decide) (by decide) (by decide) (by decide) (by decide) (by decide)
  have o180 := eo 180 (by decide) (by decide) (by decide) (by decide) (by decide) (by decide) (by decide) (by decide)
  have o181 := eo 181 (by decide) (by decide) (by decide) (by decide) (by decide) (by decide) (by decide) (by decide)
  have o182 := eo 182 (by decide) (by decide) (by decide) (by decide) (by decide) (by decide) (by decide) (by decide)
  have o183 := eo 183 (by decide) (by decide) (by decide) (by decide) (by decide) (by decide) (by decide) (by decide)
  have o186 := eo 186 (by decide) (by decide) (by decide) (by decide) (by decide) (by decide) (by decide) (by decide)
  have o188 := eo 188 (by decide) (by decide) (by decide) (by decide) (by decide) (by decide) (by decide) (by decide)
  have hlen : (dfr k).length = t.length + 1 := by rw [hx]; rfl
  have et : dfr (opn (nsq (pop k)) tm) = t := by show (dfr k).tail = t; rw [hx]; rfl
  refine ⟨?_, fun j hj hne => ⟨fun k' hk' => ?_, by rw [o177], by rw [e85, pk_un hne], by rw [o186], by rw [e87, pk_un hne], by rw [e89, pk_un hne]⟩⟩
  · obtain ⟨⟨a1, a2, a3, a4, a5, a6, a7⟩, ⟨b1, b2, b3, b4, b5, b6⟩, ⟨c1, c2, c3, c4, c5⟩, d1, d2⟩ := h
    unfold RK
    rw [o177, o178, o179, o180, o181, o182, o183, o186, o188, e85, e87, e89, pk_us, pk_us, pk_us, et, b3, fol_eq c5, a3]
    refine ⟨⟨a1, a2, rfl, a4, a5, a6, a7⟩, ⟨rfl, b2, rfl, rfl, b5, b6⟩, ⟨c1, c2, by omega, c4, (fol_rg c5).1⟩, fun j y hy => ?_, d2⟩
    have hj := (List.getElem?_eq_some_iff.mp hy).1
    obtain ⟨⟨y1, y2, y3, y4⟩, y5⟩ := d1 (j + 1) y (by rw [hx]; exact hy)
    have hs : ∀ g : Nat → Int32, shf g (8 * l) (8 * l + t.length) (8 * l + j) = g (8 * l + (j + 1)) := fun g => by
      unfold shf
      rw [if_pos (by omega)]
      rfl
    exact ⟨⟨by rw [e90, hs]; exact y1, by rw [e91, hs]; exact y2, by rw [e92, hs]; exact y3, by rw [e93, hs]; exact y4⟩, y5⟩
  · obtain ⟨⟨a1, a2, a3, a4, a5, a6, a7⟩, ⟨b1, b2, b3, b4, b5, b6⟩, ⟨c1, c2, c3, c4, c5⟩, d1, d2⟩ := hk'
    obtain ⟨-, -, ⟨-, -, cc3, -⟩, -⟩ := h
    unfold RK
    rw [o177, o178, o179, o180, o181, o182, o183, o186, o188, e85, e87, e89, pk_un hne, pk_un hne, pk_un hne]
    refine ⟨⟨a1, a2, a3, a4, a5, a6, a7⟩, ⟨b1, b2, b3, b4, b5, b6⟩, ⟨c1, c2, c3, c4, c5⟩, fun i y hy => ?_, d2⟩
    have hi := (List.getElem?_eq_some_iff.mp hy).1
    obtain ⟨⟨y1, y2, y3, y4⟩, y5⟩ := d1 i y hy
    have hs : ∀ g : Nat → Int32, shf g (8 * l) (8 * l + t.length) (8 * j + i) = g (8 * j + i) := fun g => by
      unfold shf
      rw [if_neg (by omega)]
    exact ⟨⟨by rw [e90, hs]; exact y1, by rw [e91, hs]; exact y2, by rw [e92, hs]; exact y3, by rw [e93, hs]; exact y4⟩, y5⟩
end S10
theorem r_102bw {σ0 : ae_S} {F0 F : Nat → Nat → Int32} {c g : Int32} {a : AN} {v : Nat → Nat} (h : RS false σ0 F0 σ c (nT a) g F) {aa e : List Nat} (hP : RP F g aa e) (hML : ML F v (nL a)) (hQ : Mlk F (nK a)) (he : e.length ≤ 90) {l M : Nat} {k : AK} {x : AG} {t : List AG} {x5 x6 x7 : Option Value} (hl : l < 8) (hk : nK a l = some k) (hx : dfr k = x :: t) (hM : fln (rmm (kmo k) (kqu k)) x = M) : hG ra (d + 4) 102 σ [some (.ref 176), some (.int (nI l)), some (.int (nI x.2.1)), some (.int (nI x.2.2.2)), some (.int (nI M)), x5, x6, x7] [] 82 (pV (fun σ' => ∃ F' v', RS false σ0 F0 σ' c (nT a) g F' ∧ RP F' g aa e ∧ ML F' v' (nL (snd1 a l k x)) ∧ Mlk F' (nK (snd1 a l k x)) ∧ ∀ q, q < 185 ∨ q = 186 ∨ q = 188 ∨ (202 < q ∧ q ≠ 213) → F' q = F q)) := by
  have hR := (hQ l hl).2 k hk
  have hR' := hR
  obtain ⟨⟨a1, a2, a3, a4, a5, a6, a7⟩, ⟨b1, b2, b3, b4, b5, b6⟩, ⟨c1, c2, c3, c4, c5⟩, d1, d2⟩ := hR'
  obtain ⟨⟨y1, y2, y3, y4⟩, y5, y6⟩ := d1 0 x (by rw [hx]; rfl)
  rw [Nat.add_zero] at y1 y2 y3 y4
  have hrm := rmm_bd (qu := kqu k) c2
  have hM2 : M ≤ 89 := by
    have := fln_le (rm := rmm (kmo k) (kqu k)) (x := x)
    omega
  have hlen : (dfr k).length = t.length + 1 := by rw [hx]; rfl
  have en : ∀ (nt : Nat) (A : ALn) (y : AF), nt < 2 → enq (12 * nt + kso k) (khi k) y A = enq (12 * nt + kso k) 0 y A := fun nt A y hnt => enq_lo (by omega)
  refine h_st rfl rfl ?_
  refine h_st rfl rfl ?_
  refine r_102nw (nt := 0) (k := k) h hP hML he hl (by decide) ⟨a2, b3, y2, y3⟩ c1 hM hM2 ⟨y5.2.1, y5.2.2⟩ y6 (fun σ1 F1 v1 x6 x7 h1 hP1 hML1 ag1 => ?_)
  refine r_102nw (nt := 1) (k := k) h1 hP1 hML1 he hl (by decide) ⟨by rw [ag1 180 (by omega)]; exact a2, by rw [ag1 187 (by omega)]; exact b3, by rw [ag1 191 (by omega)]; exact y2, by rw [ag1 192 (by omega)]; exact y3⟩ c1 hM hM2 ⟨y5.2.1, y5.2.2⟩ y6 (fun σ2 F2 v2 x6 x7 h2 hP2 hML2 ag2 => ?_)
  have ag9 : ∀ q, q < 194 ∨ (198 < q ∧ q ≠ 213) → F2 q = F q := fun q hq => (ag2 q hq).trans (ag1 q hq)
  have e9 : F2 189 l - 1 = nI t.length := by rw [ag9 189 (by omega), b4, hlen]; exact nI_pred _
  refine h_st rfl rfl ?_
  refine h_st rfl rfl ?_
  refine h_st rfl rfl ?_
  refine h_pc (if_pos (decide_eq_true (nI_le (Nat.le_refl 2) (by decide)))) ?_
  refine h_st rfl rfl ?_
  refine h_st rfl (e_get h2.2.1 rfl) ?_
  refine h_st rfl rfl ?_
  refine h_st rfl rfl ?_
  refine h_st rfl (e_get h2.2.1 rfl) ?_
  refine h_st rfl rfl ?_
  refine h_st rfl (q_ia h2.a187 (rfl) (hl) (by decide)) ?_
  refine h_st rfl rfl ?_
  refine h_st rfl (e_dv (by decide)) ?_
  refine h_st rfl rfl ?_
  refine h_st rfl rfl ?_
  refine r_ias rfl h2 m187 (fun z => by cases z) (by decide) (rfl) (hl) (rfl) (fun σ2 h2' => ?_)
  replace h2 := h2'
  clear h2'
  replace hP2 := RP.fo (p := 187) (f := upd (F2 187) l (F2 187 l - F2 187 l / 255 * 255 + 1)) hP2 (by decide)
  refine h_st rfl rfl ?_
  refine h_st rfl (e_get h2.2.1 rfl) ?_
  refine h_st rfl rfl ?_
  refine h_st rfl rfl ?_
  refine h_st rfl (e_get h2.2.1 rfl) ?_
  refine h_st rfl rfl ?_
  refine h_st rfl (e_get h2.2.1 rfl) ?_
  refine h_st rfl rfl ?_
  refine h_st rfl (q_ia h2.a181 (rfl) (hl) (by decide)) ?_
  refine h_st rfl rfl ?_
  refine r_ias rfl h2 m185 (fun z => by cases z) (by decide) (rfl) (hl) (rfl) (fun σ2 h2' => ?_)
  replace h2 := h2'
  clear h2'
  replace hP2 := RP.fo (p := 185) (f := upd (F2 185) l (nT a + F2 181 l)) hP2 (by decide)
  refine h_st rfl rfl ?_
  refine h_st rfl (e_get h2.2.1 rfl) ?_
  refine h_st rfl rfl ?_
  refine h_st rfl rfl ?_
  refine h_st rfl (q_ia h2.a189 (rfl) (hl) (by decide)) ?_
  refine h_st rfl rfl ?_
  refine h_st rfl rfl ?_
  refine r_ias rfl h2 m189 (fun z => by cases z) (by decide) (rfl) (hl) (show F2 189 l - 1 = nI t.length from e9) (fun σ2 h2' => ?_)
  replace h2 := h2'
  clear h2'
  replace hP2 := hP2.w9 (hP2.2.1.up (k := l) (x := nI t.length) ⟨t.length, by omega, rfl⟩)
  refine h_st rfl rfl ?_
  refine h_st rfl rfl ?_
  refine h_st rfl rfl ?_
  refine h_st rfl rfl ?_
  simp only [ix8]
  refine r_102sw (wn := t.length) hl (by omega) (fun σ8 F8 h8 hP8 hS8 => ?_) pk_us t.length (8 * l) _ _ rfl (Nat.le_refl _) h2 hP2 ⟨fun _ _ _ _ _ => rfl, (shf_0 _ _).symm, (shf_0 _ _).symm, (shf_0 _ _).symm, (shf_0 _ _).symm⟩
  obtain ⟨hR8, ho8⟩ := hR.sent (tm := nT a) hx hl (fun q hq => ag9 q (Or.inl hq)) hS8
  have ag8 : ∀ q, 189 < q → q ≠ 190 → q ≠ 191 → q ≠ 192 → q ≠ 193 → F8 q = F2 q := fun q z z1 z2 z3 z4 => by rw [hS8.1 q z1 z2 z3 z4, fu_n (by omega), fu_n (by omega), fu_n (by omega)]
  refine ⟨_, rfl, F8, v2, h8, hP8, ?_, fun j hj => ?_, fun q hq => ?_⟩
  · have e1 : nL (snd1 a l k x) = updL (updL (nL a) (12 * 0 + kso k) (enq (12 * 0 + kso k) 0 (mkf l k (dsq k) 0 x) (nL a (12 * 0 + kso k)))) (12 * 1 + kso k) (enq (12 * 1 + kso k) 0 (mkf l k (dsq k) 1 x) (updL (nL a) (12 * 0 + kso k) (enq (12 * 0 + kso k) 0 (mkf l k (dsq k) 0 x) (nL a (12 * 0 + kso k))) (12 * 1 + kso k))) := by
      rw [← en 0 _ _ (by decide), ← en 1 _ _ (by decide)]
      rfl
    rw [e1]
    exact hML2.ag (fun q z1 z2 => ag8 q (by omega) (by omega) (by omega) (by omega) (by omega)) (fun f' b1 b2 b3 => ⟨by rw [ag8 196 (by decide) (by decide) (by decide) (by decide) (by decide)], by rw [ag8 195 (by decide) (by decide) (by decide) (by decide) (by decide)], fun k hk => by rw [ag8 194 (by decide) (by decide) (by decide) (by decide) (by decide)], rfl⟩)
  · by_cases cj : j = l
    · subst cj
      have e1 : nK (snd1 a j k x) j = some (opn (nsq (pop k)) (nT a)) := updK_s
      refine ⟨fun z => (by rw [e1] at z; cases z), fun k' hk' => ?_⟩
      rw [e1] at hk'
      cases hk'
      exact hR8
    · have e1 : nK (snd1 a l k x) j = nK a j := (updK_n cj).trans (updK_n cj)
      rw [e1]
      obtain ⟨q1, q2⟩ := ho8 j hj cj
      refine ⟨fun z => ?_, fun k' hk' => q1 k' ((hQ j hj).2 k' hk')⟩
      obtain ⟨z1, z2, z3, z4, z5⟩ := (hQ j hj).1 z
      exact ⟨q2.1.trans z1, q2.2.1.trans z2, q2.2.2.1.trans z3, q2.2.2.2.1.trans z4, q2.2.2.2.2.trans z5⟩
  · rw [hS8.1 q (by omega) (by omega) (by omega) (by omega), fu_n (by omega), fu_n (by omega), fu_n (by omega)]
    exact ag9 q (by omega)
theorem r_102w {σ0 : ae_S} {F0 F : Nat → Nat → Int32} {c g : Int32} {a : AN} {v : Nat → Nat} (h : RS false σ0 F0 σ c (nT a) g F) {aa e : List Nat} (hP : RP F g aa e) (hML : ML F v (nL a)) (hQ : Mlk F (nK a)) (he : e.length ≤ 90) {l : Nat} {x9 : Int32} (el : x9 = nI l) (hl : l < 8) : hE ra (d + 5) 102 [.ref 176, .int x9] σ (pV (fun σ' => ∃ F' v', RS false σ0 F0 σ' c (nT a) g F' ∧ RP F' g aa e ∧ ML F' v' (nL (snd a l)) ∧ Mlk F' (nK (snd a l)) ∧ ∀ q, q < 185 ∨ q = 186 ∨ q = 188 ∨ (202 < q ∧ q ≠ 213) → F' q = F q)) := by
  subst el
  cases hk : nK a l with
  | none =>
    obtain ⟨z1, -⟩ := (hQ l hl).1 hk
    have es : snd a l = a := by unfold snd; rw [hk]
    rw [es]
    refine h_in rfl rfl (Nat.le_of_ble_eq_true rfl) ?_
    refine h_st rfl rfl ?_
    refine h_st rfl (e_get h.2.1 rfl) ?_
    refine h_st rfl rfl ?_
    refine h_st rfl (q_baE h.a177 (rfl) (hl) (by decide) (z1)) ?_
    refine h_st rfl rfl ?_
    refine h_pc (if_pos (by decide)) ?_
    exact h_rv rfl (⟨_, rfl, F, v, h, hP, hML, hQ, fun q _ => rfl⟩)
  | some k =>
    have hR := (hQ l hl).2 k hk
    obtain ⟨⟨a1, a2, a3, a4, a5, a6, a7⟩, ⟨b1, b2, b3, b4, b5, b6⟩, ⟨c1, c2, c3, c4, c5⟩, d1, d2⟩ := hR
    cases hx : dfr k with
    | nil =>
      rw [hx] at b4
      rw [show snd a l = a from (by unfold snd; simp only [hk, hx])]
      refine h_in rfl rfl (Nat.le_of_ble_eq_true rfl) ?_
      refine h_st rfl rfl ?_
      refine h_st rfl (e_get h.2.1 rfl) ?_
      refine h_st rfl rfl ?_
      refine h_st rfl (q_ba h.a177 (rfl) (hl) (by decide)) ?_
      refine h_st rfl rfl ?_
      refine h_pc (if_neg (fun z9 => (a1) (of_decide_eq_true z9))) ?_
      refine h_st rfl rfl ?_
      refine h_st rfl (e_get h.2.1 rfl) ?_
      refine h_st rfl rfl ?_
      refine h_st rfl (q_iaE h.a189 (rfl) (hl) (by decide) (b4)) ?_
      refine h_st rfl rfl ?_
      refine h_pc (if_pos (by decide)) ?_
      exact h_rv rfl (⟨_, rfl, F, v, h, hP, hML, hQ, fun q _ => rfl⟩)
    | cons x t =>
      have es : snd a l = (if nT a < dop k then a else snd1 a l k x) := by unfold snd; simp only [hk, hx]
      have b4' : ¬ F 189 l = 0 := by rw [b4, hx]; exact nI_ne0 (by simp) (by rw [← hx]; omega)
      obtain ⟨⟨y1, y2, y3, y4⟩, y5, y6⟩ := d1 0 x (by rw [hx]; rfl)
      rw [Nat.add_zero] at y1 y2 y3 y4
      have hrm := rmm_bd (qu := kqu k) c2
      have epc : nI (if F 179 l = 0 then kmo k - 39 else (kmo k - 39) / 8 * 8) = nI (rmm (kmo k) (kqu k)) := by
        unfold rmm
        by_cases cq : kqu k = 0
        · rw [if_pos cq, if_pos (a7.mpr cq)]
        · rw [if_neg cq, if_neg (fun z => cq (a7.mp z))]
      have e8 : nI x.2.1 + 8 - nI x.2.2.2 = nI (8 + x.2.1 - x.2.2.2) := by rw [show nI x.2.1 + 8 = nI (x.2.1 + 8) from nI_add x.2.1 8, pk_sub (by omega), Nat.add_comm x.2.1 8]
      refine h_in rfl rfl (Nat.le_of_ble_eq_true rfl) ?_
      refine h_st rfl rfl ?_
      refine h_st rfl (e_get h.2.1 rfl) ?_
      refine h_st rfl rfl ?_
      refine h_st rfl (q_ba h.a177 (rfl) (hl) (by decide)) ?_
      refine h_st rfl rfl ?_
      refine h_pc (if_neg (fun z9 => (a1) (of_decide_eq_true z9))) ?_
      refine h_st rfl rfl ?_
      refine h_st rfl (e_get h.2.1 rfl) ?_
      refine h_st rfl rfl ?_
      refine h_st rfl (q_ia h.a189 (rfl) (hl) (by decide)) ?_
      refine h_st rfl rfl ?_
      refine h_pc (if_neg (fun z9 => (b4') (of_decide_eq_true z9))) ?_
      refine h_st rfl rfl ?_
      refine h_st rfl (e_get h.2.1 rfl) ?_
      refine h_st rfl rfl ?_
      refine h_st rfl (e_get h.2.1 rfl) ?_
      refine h_st rfl rfl ?_
      refine h_st rfl (q_iaE h.a185 (rfl) (hl) (by decide) (b1)) ?_
      refine h_st rfl rfl ?_
      refine h_br (fun q3 => ?_) (fun q3 => ?_)
      · rw [show snd a l = snd1 a l k x from by rw [es, if_neg (Int32.not_lt.mpr q3)]]
        refine h_st rfl rfl ?_
        refine h_st rfl (e_get h.2.1 rfl) ?_
        refine h_st rfl rfl ?_
        refine h_st rfl rfl ?_
        refine h_st rfl rfl ?_
        refine h_st rfl (q_iaE h.a190 (ix8 l) (by omega) (by decide) (y1)) ?_
        refine h_st rfl rfl ?_
        refine h_st rfl rfl ?_
        refine h_st rfl (e_get h.2.1 rfl) ?_
        refine h_st rfl rfl ?_
        refine h_st rfl rfl ?_
        refine h_st rfl rfl ?_
        refine h_st rfl (q_iaE h.a193 (ix8 l) (by omega) (by decide) (y4)) ?_
        refine h_st rfl rfl ?_
        refine h_st rfl rfl ?_
        refine h_st rfl rfl ?_
        refine h_st rfl rfl ?_
        refine h_st rfl rfl ?_
        refine h_st rfl rfl ?_
        refine h_st rfl rfl ?_
        refine h_st rfl rfl ?_
        refine h_ci2 rfl (Nat.le_of_ble_eq_true rfl) (e_rcv h.2.1) rfl (r_100 h rfl hl a4 c2) (fun σ' y9 hq => ?_)
        obtain ⟨hss, eyy9⟩ := hq
        replace hss := hss.symm
        subst hss
        rw [epc] at eyy9
        subst eyy9
        refine h_st rfl rfl ?_
        refine h_br (fun q4 => ?_) (fun q4 => ?_)
        · have hfl : fln (rmm (kmo k) (kqu k)) x = rmm (kmo k) (kqu k) := if_pos ((nI_leI (by omega) (by omega)).mp (show nI (rmm (kmo k) (kqu k)) ≤ nI (8 + x.2.1 - x.2.2.2) from by rw [← e8]; exact q4))
          refine h_st rfl rfl ?_
          refine h_st rfl rfl ?_
          refine h_ci2 rfl (Nat.le_of_ble_eq_true rfl) (e_rcv h.2.1) rfl (r_100 h rfl hl a4 c2) (fun σ' y8 hq => ?_)
          obtain ⟨hss, eyy8⟩ := hq
          replace hss := hss.symm
          subst hss
          rw [epc] at eyy8
          subst eyy8
          refine h_st rfl rfl ?_
          exact r_102bw h hP hML hQ he hl hk hx hfl
        · have hfl : fln (rmm (kmo k) (kqu k)) x = 8 + x.2.1 - x.2.2.2 := if_neg (fun z => q4 (show nI (rmm (kmo k) (kqu k)) ≤ nI x.2.1 + 8 - nI x.2.2.2 from by rw [e8]; exact nI_le z (by omega)))
          refine h_st rfl rfl ?_
          refine h_st rfl rfl ?_
          refine h_st rfl rfl ?_
          refine h_st rfl rfl ?_
          refine h_st rfl rfl ?_
          refine h_st rfl rfl ?_
          rw [show (fun x y => x - y) ((fun x y => x + y) (nI x.2.1) 8) (nI x.2.2.2) = nI (8 + x.2.1 - x.2.2.2) from e8]
          refine h_st rfl rfl ?_
          exact r_102bw h hP hML hQ he hl hk hx hfl
      · rw [show snd a l = a from by rw [es, if_pos (Int32.not_le.mp q3)]]
        exact h_rv rfl (⟨_, rfl, F, v, h, hP, hML, hQ, fun q _ => rfl⟩)
end SY10
