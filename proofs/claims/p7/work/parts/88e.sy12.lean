section SY12
variable {ra : ae_R} {d : Nat} {σ : ae_S}
section S12
variable {F F' Fb : Nat → Nat → Int32} {v v' : Nat → Nat} {L : Nat → ALn} {A A' : ALn} {f i r l : Nat} {k : AK} {K : Nat → Option AK} {a : AN} {x : AF}
theorem fpr_o {F9 : Nat → Nat → Int32} (e : ∀ q, 194 ≤ q → q ≤ 196 → F9 q = F q) : fpr F v F9 v f := ⟨by rw [e 196 (by decide) (by decide)], by rw [e 195 (by decide) (by decide)], fun k _ => by rw [e 194 (by decide) (by decide)], rfl⟩
theorem ML.o (h : ML F v L) (e : ∀ q, 194 ≤ q → q ≤ 202 → F' q = F q) : ML F' v L := h.ag (fun q z1 z2 => e q (by omega) z2) (fun _ _ _ _ => fpr_o (fun q z1 z2 => e q z1 (by omega)))
theorem RX.o {c : Nat} (h : RX F v f c x) (e : ∀ q, 194 ≤ q → q ≤ 196 → F' q = F q) : RX F' v f c x := h.ag (fpr_o e)
theorem kat_no {y : Int32} (hQ : Mlk F (nK a)) (h : ∀ l, l < 8 → y = nI l → F 177 l = 0) : kat a y = none := by
  unfold kat
  by_cases c : y < 0 ∨ 8 ≤ y
  · rw [if_pos c]
  · rw [if_neg c]
    obtain ⟨j, hj, rfl⟩ := i_ix (n := 8) (x := y) (by decide) (fun z => c (Or.inl z)) (fun z => c (Or.inr z))
    have ej : (nI j).toNatClampNeg = j := nI_clamp (by omega)
    rw [ej]
    cases hk : nK a j with
    | none => rfl
    | some k => exact absurd (h j hj rfl) ((hQ j hj).2 k hk).1.1
theorem kat_yes (hQ : Mlk F (nK a)) (hl : l < 8) (hn : F 177 l ≠ 0) : ∃ k, nK a l = some k ∧ kat a (nI l) = some (l, k) ∧ RK F l k := by
  cases hk : nK a l with
  | none => exact absurd ((hQ l hl).1 hk).1 hn
  | some k =>
    refine ⟨k, rfl, ?_, (hQ l hl).2 k hk⟩
    have ej : (nI l).toNatClampNeg = l := nI_clamp (by omega)
    have c : ¬ (nI l < 0 ∨ (8 : Int32) ≤ nI l) := fun z => z.elim (nI_pos (by omega)) (nI_ge (b := 8) hl (by decide))
    unfold kat
    rw [if_neg c, ej, hk]
theorem RK.kac (h : RK F l k) {nt : Nat} (hnt : nt < 2) : F 188 (8 * nt + l) = kac k nt := by
  obtain ⟨-, ⟨-, -, -, -, b5, b6⟩, -⟩ := h
  have c : nt = 0 ∨ nt = 1 := by omega
  rcases c with rfl | rfl
  · rw [show 8 * 0 + l = l by omega]
    exact b5
  · exact b6
theorem Mlk.pay {nt : Nat} {s : Int32} (h : Mlk F (nK a)) (hl : l < 8) (hnt : nt < 2) (hk : nK a l = some k) : Mlk (fu F 188 (upd (F 188) (8 * nt + l) (kac k nt - s))) (nK (setK a l (pyk k nt s))) := by
  have o : ∀ q, q ≠ 188 → fu F 188 (upd (F 188) (8 * nt + l) (kac k nt - s)) q = F q := fun q hq => fu_n hq
  have c : nt = 0 ∨ nt = 1 := by omega
  intro j hj
  by_cases cj : j = l
  · subst cj
    have e1 : nK (setK a j (pyk k nt s)) j = some (pyk k nt s) := updK_s
    refine ⟨fun z => (by rw [e1] at z; cases z), fun k' hk' => ?_⟩
    rw [e1] at hk'
    cases hk'
    obtain ⟨h1, ⟨b1, b2, b3, b4, b5, b6⟩, h3⟩ := (h j hj).2 k hk
    unfold RK
    rw [o 177 (by decide), o 178 (by decide), o 179 (by decide), o 180 (by decide), o 181 (by decide), o 182 (by decide), o 183 (by decide), o 185 (by decide), o 186 (by decide), o 187 (by decide), o 189 (by decide), o 190 (by decide), o 191 (by decide), o 192 (by decide), o 193 (by decide), fu_s]
    refine ⟨h1, ⟨b1, b2, b3, b4, ?_, ?_⟩, h3⟩
    · show _ = upd (kac k) nt (kac k nt - s) 0
      rcases c with rfl | rfl
      · rw [show 8 * 0 + j = j by omega, pk_us, pk_us]
      · rw [pk_un (by omega), pk_un (by decide)]
        exact b5
    · show _ = upd (kac k) nt (kac k nt - s) 1
      rcases c with rfl | rfl
      · rw [pk_un (by omega), pk_un (by decide)]
        exact b6
      · rw [show 8 * 1 + j = 8 + j by omega, pk_us, pk_us]
  · have e1 : nK (setK a l (pyk k nt s)) j = nK a j := updK_n cj
    rw [e1]
    refine ⟨fun z => ?_, fun k' hk' => ?_⟩
    · rw [o 177 (by decide), o 185 (by decide), o 186 (by decide), o 187 (by decide), o 189 (by decide)]
      exact (h j hj).1 z
    · have h' := (h j hj).2 k' hk'
      unfold RK at h' ⊢
      rw [o 177 (by decide), o 178 (by decide), o 179 (by decide), o 180 (by decide), o 181 (by decide), o 182 (by decide), o 183 (by decide), o 185 (by decide), o 186 (by decide), o 187 (by decide), o 189 (by decide), o 190 (by decide), o 191 (by decide), o 192 (by decide), o 193 (by decide), fu_s, pk_un (show j ≠ 8 * nt + l by rcases c with rfl | rfl <;> omega), pk_un (show 8 + j ≠ 8 * nt + l by rcases c with rfl | rfl <;> omega)]
      exact h'
end S12
theorem r_124dw {b : Bool} {σ0 : ae_S} {F0 F : Nat → Nat → Int32} {c u g : Int32} (h : RS b σ0 F0 σ c u g F) {aa e : List Nat} {a : AN} {x : AF} {v : Nat → Nat} {f nt ln : Nat} (hP : RP F g (f :: aa) (f :: e)) (hML : ML F v (nL a)) (hQ : Mlk F (nK a)) (hX : RX F v f 2000 x) {A : AN} {wy : Nat} {x5 : Int32} (e5 : x5 = nI wy) (hwy : 0 < wy ∧ wy < 12) (hA : A = a) {x4 x6 x7 x8 : Option Value} : hG ra (d + 3) 124 σ [some (.ref 176), some (.int (nI f)), some (.int (nI nt)), some (.int (nI ln)), x4, some (.int x5), x6, x7, x8] [] 108 (pV (fun σ' => ∃ F' v', RS b σ0 F0 σ' c u g F' ∧ RP F' g aa e ∧ ML F' v' (nL (A)) ∧ Mlk F' (nK (A)) ∧ ∀ q, (q < 194 ∧ q ≠ 188) ∨ (198 < q ∧ q ≠ 213) → F' q = F q)) := by
  subst e5
  subst hA
  have hf := hX.1
  refine h_st rfl rfl ?_
  refine h_st rfl rfl ?_
  refine h_pc (if_neg (fun z9 => (show ¬ nI wy ≤ 0 from nI_ge hwy.1 (by omega)) (of_decide_eq_true z9))) ?_
  refine h_st rfl rfl ?_
  refine h_st rfl rfl ?_
  refine h_st rfl rfl ?_
  refine h_cv3 rfl (Nat.le_of_ble_eq_true rfl) (e_rcv h.2.1) rfl (pV_and (r_113 h rfl hf hP rfl hwy.2) (r_113w h rfl hf rfl hwy.2)) (fun σ4 hq => ?_)
  obtain ⟨⟨F3, h3, hP3, -⟩, F4, h4, ag4, e4⟩ := hq
  exact h_rv rfl (⟨_, rfl, F4, v, h4, hP3.tr h3 h4, hML.free (f := f) (by rw [hX.2.1]; exact Nat.le_refl _) ag4 e4, hQ.ag (fun q z1 z2 => ag4 q (by omega) (by omega)), fun q hq => ag4 q (by omega) (by omega)⟩)
theorem r_124cw {b : Bool} {σ0 : ae_S} {F0 F : Nat → Nat → Int32} {c u g : Int32} (h : RS b σ0 F0 σ c u g F) {aa e : List Nat} {a : AN} {x : AF} {v : Nat → Nat} {f nt ln : Nat} (hP : RP F g (f :: aa) (f :: e)) (hML : ML F v (nL a)) (hQ : Mlk F (nK a)) (hX : RX F v f 2000 x) {l : Nat} {k : AK} (hl : l < 8) (hk : nK a l = some k) (hnt : nt < 2) (hln : ln < 12) (he : e.length ≤ 90) (h4 : ¬ ln < 4) {x6 x7 x8 : Option Value} : hG ra (d + 3) 124 σ [some (.ref 176), some (.int (nI f)), some (.int (nI nt)), some (.int (nI ln)), some (.int (nI l)), some (.int 0), x6, x7, x8] [] 121 (pV (fun σ' => ∃ F' v', RS b σ0 F0 σ' c u g F' ∧ RP F' g aa e ∧ ML F' v' (nL (fwd a nt ln k x 8)) ∧ Mlk F' (nK (fwd a nt ln k x 8)) ∧ ∀ q, (q < 194 ∧ q ≠ 188) ∨ (198 < q ∧ q ≠ 213) → F' q = F q)) := by
  have hf := hX.1
  refine h_st rfl rfl ?_
  refine h_st rfl rfl ?_
  refine h_st rfl rfl ?_
  refine h_pc (if_pos (decide_eq_true (show (4 : Int32) ≤ nI ln from nI_le (a := 4) (by omega) (by omega)))) ?_
  refine h_st rfl rfl ?_
  refine h_st rfl rfl ?_
  refine hG_mono (r_124lw (Fx := F) hf hnt hln hl he ((hQ l hl).2 k hk) 8 0 _ F v _ _ rfl h hP hML hX (fun q _ => rfl)) (fun r hr => ?_)
  obtain ⟨σ', rfl, F', v', h1, h2, h3, h4⟩ := hr
  exact ⟨σ', rfl, F', v', h1, h2, h3, by rw [fwd_K]; exact hQ.ag (fun q z1 z2 => h4 q (by omega)), fun q hq => h4 q (by omega)⟩
theorem r_124cv {b : Bool} {σ0 : ae_S} {F0 F : Nat → Nat → Int32} {c u g : Int32} (h : RS b σ0 F0 σ c u g F) {aa e : List Nat} {a : AN} {x : AF} {v : Nat → Nat} {f nt ln : Nat} (hP : RP F g (f :: aa) (f :: e)) (hML : ML F v (nL a)) (hQ : Mlk F (nK a)) (hX : RX F v f 2000 x) {l : Nat} {k : AK} (hl : l < 8) (hk : nK a l = some k) (hnt : nt < 2) (hln : ln < 12) (he : e.length ≤ 90) (h4 : ln < 4) {x6 x7 x8 : Option Value} : hG ra (d + 3) 124 σ [some (.ref 176), some (.int (nI f)), some (.int (nI nt)), some (.int (nI ln)), some (.int (nI l)), some (.int 0), x6, x7, x8] [] 121 (pV (fun σ' => ∃ F' v', RS b σ0 F0 σ' c u g F' ∧ RP F' g aa e ∧ ML F' v' (nL (fwd (setK a l (pyk k nt (nI x.1 * kga k))) nt ln (pyk k nt (nI x.1 * kga k)) x 8)) ∧ Mlk F' (nK (fwd (setK a l (pyk k nt (nI x.1 * kga k))) nt ln (pyk k nt (nI x.1 * kga k)) x 8)) ∧ ∀ q, (q < 194 ∧ q ≠ 188) ∨ (198 < q ∧ q ≠ 213) → F' q = F q)) := by
  have hf := hX.1
  have e8 : (8 : Int32) * nI nt + nI l = nI (8 * nt + l) := by rw [show (8 : Int32) = nI 8 from rfl, pk_mul, nI_add]
  have hK := (hQ l hl).2 k hk
  have a3 : F 181 l = kga k := hK.1.2.2.1
  have hz := hX.2.2.2.1
  have eac := hK.kac hnt
  have hQ1 := hQ.pay (s := nI x.1 * kga k) hl hnt hk
  refine h_st rfl rfl ?_
  refine h_st rfl rfl ?_
  refine h_st rfl rfl ?_
  refine h_pc (if_neg (fun z9 => (show ¬ (4 : Int32) ≤ nI ln from nI_ge (b := 4) h4 (by decide)) (of_decide_eq_true z9))) ?_
  refine h_st rfl rfl ?_
  refine h_st rfl (e_get h.2.1 rfl) ?_
  refine h_st rfl rfl ?_
  refine h_st rfl rfl ?_
  refine h_st rfl rfl ?_
  refine h_st rfl rfl ?_
  refine h_st rfl rfl ?_
  refine h_st rfl rfl ?_
  refine h_st rfl (q_iaE h.a188 (e8) (by omega) (by decide) (eac)) ?_
  refine h_st rfl rfl ?_
  refine h_st rfl (e_get h.2.1 rfl) ?_
  refine h_st rfl rfl ?_
  refine h_st rfl (q_iaE h.a195 (rfl) (hf) (by decide) (hz)) ?_
  refine h_st rfl rfl ?_
  refine h_st rfl (e_get h.2.1 rfl) ?_
  refine h_st rfl rfl ?_
  refine h_st rfl (q_iaE h.a181 (rfl) (hl) (by decide) (a3)) ?_
  refine h_st rfl rfl ?_
  refine h_st rfl rfl ?_
  refine r_ias rfl h m188 (fun _ => by decide) (by decide) (e8) (by omega) (rfl) (fun σ2 h2 => ?_)
  replace h := h2
  clear h2
  refine h_st rfl rfl ?_
  refine h_st rfl rfl ?_
  refine hG_mono (r_124lw (a := setK a l (pyk k nt (nI x.1 * kga k))) (k := pyk k nt (nI x.1 * kga k)) (Fx := fu F 188 (upd (F 188) (8 * nt + l) (kac k nt - nI x.1 * kga k))) hf hnt hln hl he ((hQ1 l hl).2 _ updK_s) 8 0 _ _ v _ _ rfl h (hP.fo (by decide)) (hML.o (fun q z1 z2 => fu_n (by omega))) (hX.o (fun q z1 z2 => fu_n (by omega))) (fun q _ => rfl)) (fun r hr => ?_)
  obtain ⟨σ', rfl, F', v', h1, h2, h3, h4⟩ := hr
  exact ⟨σ', rfl, F', v', h1, h2, h3, by rw [fwd_K]; exact hQ1.ag (fun q z1 z2 => h4 q (by omega)), fun q hq => (h4 q (by omega)).trans (fu_n (by omega))⟩
theorem r_124w {b : Bool} {σ0 : ae_S} {F0 F : Nat → Nat → Int32} {c u g : Int32} (h : RS b σ0 F0 σ c u g F) {aa e : List Nat} {a : AN} {x : AF} {v : Nat → Nat} {f nt ln : Nat} (hP : RP F g (f :: aa) (f :: e)) (hML : ML F v (nL a)) (hQ : Mlk F (nK a)) (hX : RX F v f 2000 x) (hnt : nt < 2) (hln : ln < 12) (he : e.length ≤ 90) {x1 x2 y : Int32} (e1 : x1 = nI f) (e2 : x2 = nI nt) (e3 : y = nI ln) : hE ra (d + 4) 124 [.ref 176, .int x1, .int x2, .int y] σ (pV (fun σ' => ∃ F' v', RS b σ0 F0 σ' c u g F' ∧ RP F' g aa e ∧ ML F' v' (nL (psw a nt ln x)) ∧ Mlk F' (nK (psw a nt ln x)) ∧ ∀ q, (q < 194 ∧ q ≠ 188) ∨ (198 < q ∧ q ≠ 213) → F' q = F q)) := by
  subst e1
  subst e2
  subst e3
  have hX' := hX
  obtain ⟨hf, hvf, huf, hz, hz1, gf, hgf, hbf, hxf⟩ := hX'
  have hk1 := okc_cg hz1.1 hxf
  have hk2 := lnk_cg hz1.1 hxf
  have hno : ¬ okc x.1 x.2 → psw a nt ln x = a := fun z => if_neg z
  have hnk : kat a (lnk x.2) = none → psw a nt ln x = a := fun z => by
    unfold psw
    rw [z]
    by_cases c : okc x.1 x.2
    · rw [if_pos c]
    · rw [if_neg c]
  refine h_in rfl rfl (Nat.le_of_ble_eq_true rfl) ?_
  refine h_st rfl rfl ?_
  refine h_st rfl rfl ?_
  refine h_ci2 rfl (Nat.le_of_ble_eq_true rfl) (e_rcv h.2.1) rfl (r_117w h rfl hf hgf hbf) (fun σ' y9 hq => ?_)
  obtain ⟨hss, hv⟩ := hq
  replace hss := hss.symm
  subst hss
  rcases hv with ⟨rfl, hv⟩ | ⟨l, hl, rfl, hlk, hil⟩
  · rw [hk2] at hv
    refine h_st rfl rfl ?_
    refine h_st rfl rfl ?_
    refine h_st rfl rfl ?_
    refine h_ci2 rfl (Nat.le_of_ble_eq_true rfl) (e_rcv h.2.1) rfl (r_118w h rfl hf hgf hz hz1 hbf) (fun σ' y8 hq => ?_)
    obtain ⟨hss, hv8⟩ := hq
    replace hss := hss.symm
    subst hss
    refine h_st rfl rfl ?_
    refine h_br (fun q1 => ?_) (fun q1 => ?_)
    · refine h_st rfl rfl ?_
      refine h_st rfl rfl ?_
      refine h_st rfl rfl ?_
      refine h_pc (if_neg (by decide)) ?_
      refine h_st rfl rfl ?_
      refine h_st rfl rfl ?_
      refine h_st rfl rfl ?_
      refine h_st rfl rfl ?_
      refine h_st rfl rfl ?_
      refine h_pc (if_pos (by decide)) ?_
      exact r_124dw h hP hML hQ hX (rfl : (2 : Int32) = nI 2) (by decide) (hnk (kat_no hQ hv))
    · refine h_st rfl rfl ?_
      refine h_st rfl rfl ?_
      refine h_st rfl rfl ?_
      refine h_st rfl rfl ?_
      refine h_st rfl rfl ?_
      refine h_pc (if_pos (by decide)) ?_
      exact r_124dw h hP hML hQ hX (rfl : (1 : Int32) = nI 1) (by decide) (hno (fun z => (hv8.elim (fun z => absurd (z.1.symm.trans (Decidable.of_not_not q1)) (by decide)) (fun z => z.2)) (hk1.mpr z)))
  · rw [hk2] at hlk
    have e8 : (8 : Int32) * nI nt + nI l = nI (8 * nt + l) := by rw [show (8 : Int32) = nI 8 from rfl, pk_mul, nI_add]
    obtain ⟨k, hk, hkat, hK⟩ := kat_yes hQ hl hil
    have eac := hK.kac hnt
    obtain ⟨⟨a1, a2, a3, a4, a5, a6, a7⟩, -, ⟨c1, c2, c3, c4, c5⟩, -, d2⟩ := hK
    have hd := d2 ln hln
    rw [← hlk] at hkat
    have ep : okc x.1 x.2 → psw a nt ln x = (if bit (kpa k) (nI ln) then (if x.1 ≤ kmo k then (if ln < 4 then (if nI x.1 * kga k ≤ kac k nt then fwd (setK a l (pyk k nt (nI x.1 * kga k))) nt ln (pyk k nt (nI x.1 * kga k)) x 8 else a) else fwd a nt ln k x 8) else a) else a) := fun z => by
      unfold psw
      rw [if_pos z, hkat]
    refine h_st rfl rfl ?_
    refine h_st rfl rfl ?_
    refine h_st rfl rfl ?_
    refine h_ci2 rfl (Nat.le_of_ble_eq_true rfl) (e_rcv h.2.1) rfl (r_118w h rfl hf hgf hz hz1 hbf) (fun σ' y8 hq => ?_)
    obtain ⟨hss, hv8⟩ := hq
    replace hss := hss.symm
    subst hss
    refine h_st rfl rfl ?_
    refine h_br (fun q1 => ?_) (fun q1 => ?_)
    · refine h_st rfl rfl ?_
      refine h_st rfl rfl ?_
      refine h_st rfl rfl ?_
      refine h_pc (if_pos (decide_eq_true (nI_nm1 (by omega)))) ?_
      refine h_st rfl rfl ?_
      refine h_st rfl rfl ?_
      refine h_st rfl rfl ?_
      refine h_ci3 rfl (Nat.le_of_ble_eq_true rfl) (e_rcv h.2.1) rfl (r_125x h rfl hl) (fun σ' y7 hq => ?_)
      obtain ⟨hss, rfl⟩ := hq
      replace hss := hss.symm
      subst hss
      refine h_st rfl rfl ?_
      refine h_br (fun q3 => ?_) (fun q3 => ?_)
      · refine h_st rfl rfl ?_
        refine h_st rfl (e_get h.2.1 rfl) ?_
        refine h_st rfl rfl ?_
        refine h_st rfl (q_iaE h.a195 (rfl) (hf) (by decide) (hz)) ?_
        refine h_st rfl rfl ?_
        refine h_st rfl (e_get h.2.1 rfl) ?_
        refine h_st rfl rfl ?_
        refine h_st rfl (q_iaE h.a182 (rfl) (hl) (by decide) (a4)) ?_
        refine h_st rfl rfl ?_
        refine h_br (fun q4 => ?_) (fun q4 => ?_)
        · refine h_st rfl rfl ?_
          refine h_st rfl rfl ?_
          refine h_st rfl rfl ?_
          refine h_st rfl rfl ?_
          refine h_pc (if_neg (by decide)) ?_
          refine h_st rfl rfl ?_
          refine h_st rfl rfl ?_
          refine h_st rfl rfl ?_
          refine h_br (fun q5 => ?_) (fun q5 => ?_)
          · have h4 : ¬ ln < 4 := fun z => (nI_ge (b := 4) z (by decide)) q5
            rw [ep (hk1.mp (b_2 hv8 q1)), if_pos (hd.mpr q3), if_pos ((nI_leI (by omega) (by omega)).mp q4), if_neg h4]
            refine h_st rfl rfl ?_
            refine h_st rfl rfl ?_
            refine h_pc (if_pos (by decide)) ?_
            exact r_124cw h hP hML hQ hX hl hk hnt hln he h4
          · refine h_st rfl rfl ?_
            refine h_st rfl (e_get h.2.1 rfl) ?_
            refine h_st rfl rfl ?_
            refine h_st rfl rfl ?_
            refine h_st rfl rfl ?_
            refine h_st rfl rfl ?_
            refine h_st rfl rfl ?_
            refine h_st rfl (q_iaE h.a188 (e8) (by omega) (by decide) (eac)) ?_
            refine h_st rfl rfl ?_
            refine h_st rfl (e_get h.2.1 rfl) ?_
            refine h_st rfl rfl ?_
            refine h_st rfl (q_iaE h.a195 (rfl) (hf) (by decide) (hz)) ?_
            refine h_st rfl rfl ?_
            refine h_st rfl (e_get h.2.1 rfl) ?_
            refine h_st rfl rfl ?_
            refine h_st rfl (q_iaE h.a181 (rfl) (hl) (by decide) (a3)) ?_
            refine h_st rfl rfl ?_
            refine h_st rfl rfl ?_
            refine h_br (fun q6 => ?_) (fun q6 => ?_)
            · have h4 : ln < 4 := Nat.lt_of_not_le (fun z => q5 (nI_le (a := 4) z (by omega)))
              rw [ep (hk1.mp (b_2 hv8 q1)), if_pos (hd.mpr q3), if_pos ((nI_leI (by omega) (by omega)).mp q4), if_pos h4, if_pos q6]
              refine h_st rfl rfl ?_
              refine h_st rfl rfl ?_
              refine h_pc (if_pos (by decide)) ?_
              exact r_124cv h hP hML hQ hX hl hk hnt hln he h4
            · refine h_st rfl rfl ?_
              refine h_st rfl rfl ?_
              exact r_124dw h hP hML hQ hX (rfl : (5 : Int32) = nI 5) (by decide) (by rw [ep (hk1.mp (b_2 hv8 q1)), if_pos (hd.mpr q3), if_pos ((nI_leI (by omega) (by omega)).mp q4), if_pos (Nat.lt_of_not_le (fun z => q5 (nI_le (a := 4) z (by omega)))), if_neg q6])
        · refine h_st rfl rfl ?_
          refine h_st rfl rfl ?_
          refine h_st rfl rfl ?_
          refine h_st rfl rfl ?_
          refine h_st rfl rfl ?_
          refine h_pc (if_pos (by decide)) ?_
          exact r_124dw h hP hML hQ hX (rfl : (4 : Int32) = nI 4) (by decide) (by rw [ep (hk1.mp (b_2 hv8 q1)), if_pos (hd.mpr q3), if_neg (fun z => q4 (nI_le z (by omega)))])
      · refine h_st rfl rfl ?_
        refine h_st rfl rfl ?_
        refine h_st rfl rfl ?_
        refine h_st rfl rfl ?_
        refine h_st rfl rfl ?_
        refine h_pc (if_pos (by decide)) ?_
        exact r_124dw h hP hML hQ hX (rfl : (3 : Int32) = nI 3) (by decide) (by rw [ep (hk1.mp (b_2 hv8 q1)), if_neg (fun z => hd.mp z (Decidable.of_not_not q3))])
    · refine h_st rfl rfl ?_
      refine h_st rfl rfl ?_
      refine h_st rfl rfl ?_
      refine h_st rfl rfl ?_
      refine h_st rfl rfl ?_
      refine h_pc (if_pos (by decide)) ?_
      exact r_124dw h hP hML hQ hX (rfl : (1 : Int32) = nI 1) (by decide) (hno (fun z => (hv8.elim (fun z => absurd (z.1.symm.trans (Decidable.of_not_not q1)) (by decide)) (fun z => z.2)) (hk1.mpr z)))
end SY12
