section SY16
variable {ra : ae_R} {d : Nat} {σ : ae_S}
section S16
variable {F F' Fz : Nat → Nat → Int32} {l e i p nt : Nat} {P : AP} {x : AF} {z : Int32} {K K' : Nat → Option AK} {Q : Nat → Nat → Option AP} {k : AK}
/-- a port that was never used -/
def Rp0 (F : Nat → Nat → Int32) (k : Nat) : Prop := F 203 k = -1 ∧ F 203 (32 + k) = -1 ∧ F 204 k = -1 ∧ F 205 k = 0 ∧ F 206 k = -1 ∧ F 209 k = 0 ∧ F 212 k = 0
def Mpt (F : Nat → Nat → Int32) (K : Nat → Option AK) (Q : Nat → Nat → Option AP) : Prop := ∀ l e, l < 8 → e < 4 → (K l = none → Rp0 F (8 * e + l)) ∧ (∀ k, K l = some k → (Q l e = none ↔ (kta k >>> (nI e &&& 31)) &&& 1 = 0)) ∧ ∀ p, Q l e = some p → Rpt F l e p
/-- what never changes of the links -/
def stK (K : Nat → Option AK) : Nat → Option (Nat × Int32 × Nat × Int32 × Int32 × Int32 × Int32) := fun l => (K l).map (fun k => k.1)
theorem stK_no (h : stK K' = stK K) (hl : K' l = none) : K l = none := by
  have e := congrFun h l
  unfold stK at e
  rw [hl] at e
  cases hk : K l with
  | none => rfl
  | some k =>
    rw [hk] at e
    cases e
theorem stK_so (h : stK K' = stK K) (hl : K' l = some k) : ∃ k0, K l = some k0 ∧ k.1 = k0.1 := by
  have e := congrFun h l
  unfold stK at e
  rw [hl] at e
  cases hk : K l with
  | none =>
    rw [hk] at e
    cases e
  | some k0 =>
    rw [hk] at e
    injection e with e
    exact ⟨k0, rfl, e⟩
theorem stK_up {k0 : AK} (h0 : K l = some k0) (h : k.1 = k0.1) : stK (updK K l k) = stK K := by
  funext j
  unfold stK updK
  by_cases c : j = l
  · rw [if_pos c, c, h0]
    show some k.1 = some k0.1
    rw [h]
  · rw [if_neg c]
theorem Rpt.ag (h : Rpt F l e P) (ag : ∀ q, q = 179 ∨ q = 184 ∨ (203 ≤ q ∧ q ≤ 212) → F' q = F q) : Rpt F' l e P := by
  unfold Rpt Rbg at h ⊢
  rw [ag 179 (by decide), ag 184 (by decide), ag 203 (by decide), ag 204 (by decide), ag 205 (by decide), ag 206 (by decide), ag 207 (by decide), ag 208 (by decide), ag 209 (by decide), ag 210 (by decide), ag 212 (by decide)]
  exact h
theorem Mpt.ag (h : Mpt F K Q) (ag : ∀ q, q = 179 ∨ q = 184 ∨ (203 ≤ q ∧ q ≤ 212) → F' q = F q) (hs : stK K' = stK K) : Mpt F' K' Q := fun l e hl he => by
  obtain ⟨h1, h2, h3⟩ := h l e hl he
  refine ⟨fun z => ?_, fun k hk => ?_, fun p hp => (h3 p hp).ag ag⟩
  · unfold Rp0
    rw [ag 203 (by decide), ag 204 (by decide), ag 205 (by decide), ag 206 (by decide), ag 209 (by decide), ag 212 (by decide)]
    exact h1 (stK_no hs z)
  · obtain ⟨k0, hk0, e0⟩ := stK_so hs hk
    have h9 := h2 k0 hk0
    have e9 : kta k = kta k0 := by show k.1.2.2.2.2.2.2 = k0.1.2.2.2.2.2.2; rw [e0]
    rw [e9]
    exact h9
theorem Mpt.set {P0 : AP} (h : Mpt F K Q) (hl : l < 8) (he : e < 4) (hk : K l = some k) (hq : Q l e = some P0) (o : PO F F' (8 * e + l)) (hR : Rpt F' l e P) : Mpt F' K (fun l' e' => if l' = l ∧ e' = e then some P else Q l' e') := fun l' e' hl' he' => by
  obtain ⟨h1, h2, h3⟩ := h l' e' hl' he'
  by_cases c : l' = l ∧ e' = e
  · obtain ⟨rfl, rfl⟩ := c
    refine ⟨fun z => (by rw [hk] at z; cases z), fun k' hk' => ?_, fun p hp => ?_⟩
    · show (if l' = l' ∧ e' = e' then some P else Q l' e') = none ↔ _
      rw [if_pos ⟨rfl, rfl⟩]
      refine ⟨fun z => (by cases z), fun z => ?_⟩
      have z2 := (h2 k' hk').mpr z
      rw [hq] at z2
      cases z2
    · replace hp : (if l' = l' ∧ e' = e' then some P else Q l' e') = some p := hp
      rw [if_pos ⟨rfl, rfl⟩] at hp
      cases hp
      exact hR
  · have hne : 8 * e' + l' ≠ 8 * e + l := fun z => c (by omega)
    have n : ∀ q, q ≠ 211 → q ≠ 208 → q ≠ 210 → q ≠ 203 → F' q (8 * e' + l') = F q (8 * e' + l') := fun q z1 z2 z3 z4 => o.2 q _ z1 (by unfold own; omega)
    refine ⟨fun z => ?_, fun k' hk' => ?_, fun p hp => ?_⟩
    · obtain ⟨r1, r2, r3, r4, r5, r6, r7⟩ := h1 z
      exact ⟨(o.2 203 _ (by decide) (by unfold own; omega)).trans r1, (o.2 203 _ (by decide) (by unfold own; omega)).trans r2, (n 204 (by decide) (by decide) (by decide) (by decide)).trans r3, (n 205 (by decide) (by decide) (by decide) (by decide)).trans r4, (n 206 (by decide) (by decide) (by decide) (by decide)).trans r5, (n 209 (by decide) (by decide) (by decide) (by decide)).trans r6, (n 212 (by decide) (by decide) (by decide) (by decide)).trans r7⟩
    · show (if l' = l ∧ e' = e then some P else Q l' e') = none ↔ _
      rw [if_neg c]
      exact h2 k' hk'
    · replace hp : (if l' = l ∧ e' = e then some P else Q l' e') = some p := hp
      rw [if_neg c] at hp
      exact (h3 p hp).po hne (by omega) o
theorem and1 (y : Int32) : y &&& 1 = 1 ↔ ¬ y &&& 1 = 0 := by
  obtain ⟨j, hj, ej⟩ := pk_andE y (m := 1) 1 (by decide)
  rw [ej]
  have c : j = 0 ∨ j = 1 := by omega
  rcases c with rfl | rfl <;> decide
end S16
theorem r_116bw {b : Bool} {σ0 : ae_S} {F0 F F1 : Nat → Nat → Int32} {c u g : Int32} {aa ee : List Nat} {K : Nat → Option AK} {Q : Nat → Nat → Option AP} {f nt e wy : Nat} {x4 : Option Value} {x5 : Int32} (h : RS b σ0 F0 σ c u g F1) (hf : f < 400) (e5 : x5 = nI wy) (hwy : wy < 12) (hP : RP F1 g (f :: aa) (f :: ee)) (hM : Mpt F1 K Q) (ag : ∀ q, q < 203 ∨ 212 < q → F1 q = F q) : hG ra (d + 4) 116 σ [some (.ref 176), some (.int (nI f)), some (.int (nI nt)), some (.int (nI e)), x4, some (.int x5)] [] 92 (pV (fun σ' => ∃ F', RS b σ0 F0 σ' c u g F' ∧ RP F' g aa ee ∧ Mpt F' K Q ∧ F' 196 = upd (F 196) f 0 ∧ ∀ q, q ≠ 196 → q < 203 ∨ 213 < q → F' q = F q)) := by
  refine h_st rfl rfl ?_
  refine h_st rfl rfl ?_
  refine h_br (fun q1 => ?_) (fun q1 => ?_)
  · refine h_st rfl rfl ?_
    refine h_st rfl (e_get h.2.1 rfl) ?_
    refine h_st rfl rfl ?_
    refine h_st rfl rfl ?_
    refine r_bas rfl h m196 (fun _ => by decide) (by decide) (rfl) (hf) ((rfl : vp_nar .boolean 0 = 0)) (fun σ2 h2 => ?_)
    replace h := h2
    clear h2
    exact h_rv rfl (⟨_, rfl, _, h, hP.n6 hP.2.2.2.1.free, hM.ag (fun q hq => fu_n (by omega)) rfl, (show upd (F1 196) f 0 = upd (F 196) f 0 from by rw [ag 196 (by decide)]), fun q z1 z2 => (fu_n z1).trans (ag q (by omega))⟩)
  · refine h_st rfl rfl ?_
    refine h_st rfl (e_get h.2.1 rfl) ?_
    refine h_st rfl rfl ?_
    refine h_st rfl rfl ?_
    refine h_st rfl (q_ia h.a213 (e5) (hwy) (by decide)) ?_
    refine h_st rfl rfl ?_
    refine h_st rfl rfl ?_
    refine r_ias rfl h m213 (fun _ => by decide) (by decide) (e5) (hwy) (rfl) (fun σ2 h2 => ?_)
    replace h := h2
    clear h2
    replace hP := RP.fo (p := 213) (f := upd (F1 213) wy (F1 213 wy + 1)) hP (by decide)
    refine h_st rfl rfl ?_
    refine h_st rfl (e_get h.2.1 rfl) ?_
    refine h_st rfl rfl ?_
    refine h_st rfl rfl ?_
    refine r_bas rfl h m196 (fun _ => by decide) (by decide) (rfl) (hf) ((rfl : vp_nar .boolean 0 = 0)) (fun σ2 h2 => ?_)
    replace h := h2
    clear h2
    exact h_rv rfl (⟨_, rfl, _, h, hP.n6 hP.2.2.2.1.free, hM.ag (fun q hq => (fu_n (by omega)).trans (fu_n (by omega))) rfl, (show upd (F1 196) f 0 = upd (F 196) f 0 from by rw [ag 196 (by decide)]), fun q z1 z2 => ((fu_n z1).trans (fu_n (by omega))).trans (ag q (by omega))⟩)
theorem r_116w {b : Bool} {σ0 : ae_S} {F0 F : Nat → Nat → Int32} {c g : Int32} {a : AN} (h : RS b σ0 F0 σ c (nT a) g F) {aa ee : List Nat} {x : AF} {v : Nat → Nat} {f nt e : Nat} (hP : RP F g (f :: aa) (f :: ee)) (hQ : Mlk F (nK a)) (hM : Mpt F (nK a) (nP a)) (hX : RX F v f 2000 x) (hnt : nt < 2) (he : e < 4) {x1 x2 x3 : Int32} (g1 : x1 = nI f) (g2 : x2 = nI nt) (g3 : x3 = nI e) : hE ra (d + 5) 116 [.ref 176, .int x1, .int x2, .int x3] σ (pV (fun σ' => ∃ F', RS b σ0 F0 σ' c (nT a) g F' ∧ RP F' g aa ee ∧ Mpt F' (nK a) (nP (ens a nt e x)) ∧ F' 196 = upd (F 196) f 0 ∧ ∀ q, q ≠ 196 → q < 203 ∨ 213 < q → F' q = F q)) := by
  subst g1
  subst g2
  subst g3
  obtain ⟨hf, hvf, huf, hz, hz1, gf, hgf, hbf, hxf⟩ := hX
  have hk1 := okc_cg hz1.1 hxf
  have hk2 := lnk_cg hz1.1 hxf
  have hk3 := fom_cg hz1.1 hxf
  have hg : ∀ j, j < x.1 → F 194 (200 * f + j) = x.2 j := fun j hj => (hgf j (by omega)).trans (hxf j hj)
  have hbx : ∀ j, j < x.1 → rg (x.2 j) 256 := fun j hj => by rw [← hxf j hj]; exact hbf j (by omega)
  have e5 : nI x.1 - 5 = nI (x.1 - 5) := by rw [show (5 : Int32) = nI 5 from rfl, pk_sub (by omega)]
  obtain ⟨sv, hsv, esv⟩ := hbx (x.1 - 5) (by omega)
  have hno : ¬ okc x.1 x.2 → ens a nt e x = a := fun z => if_neg z
  have hnk : kat a (lnk x.2) = none → ens a nt e x = a := fun z => by
    unfold ens
    rw [z]
    by_cases c : okc x.1 x.2
    · rw [if_pos c]
    · rw [if_neg c]
  have hsame : ∀ {σ : ae_S} {L : ae_Ls} {st : List Value} {pc : Nat}, ens a nt e x = a → hG ra (d + 4) 116 σ L st pc (pV (fun σ' => ∃ F', RS b σ0 F0 σ' c (nT a) g F' ∧ RP F' g aa ee ∧ Mpt F' (nK a) (nP a) ∧ F' 196 = upd (F 196) f 0 ∧ ∀ q, q ≠ 196 → q < 203 ∨ 213 < q → F' q = F q)) → hG ra (d + 4) 116 σ L st pc (pV (fun σ' => ∃ F', RS b σ0 F0 σ' c (nT a) g F' ∧ RP F' g aa ee ∧ Mpt F' (nK a) (nP (ens a nt e x)) ∧ F' 196 = upd (F 196) f 0 ∧ ∀ q, q ≠ 196 → q < 203 ∨ 213 < q → F' q = F q)) := fun z z2 => by
    rw [z]
    exact z2
  refine h_in rfl rfl (Nat.le_of_ble_eq_true rfl) ?_
  refine h_st rfl rfl ?_
  refine h_st rfl rfl ?_
  refine h_ci2 rfl (Nat.le_of_ble_eq_true rfl) (e_rcv h.2.1) rfl (r_117w h rfl hf hgf hbf) (fun σ' y9 hq => ?_)
  obtain ⟨hss, hv⟩ := hq
  replace hss := hss.symm
  subst hss
  rcases hv with ⟨rfl, hv⟩ | ⟨l, hl, rfl, hlk, hil⟩
  · rw [hk2] at hv
    refine h_st rfl rfl ?_
    refine h_st rfl rfl ?_
    refine h_st rfl rfl ?_
    refine h_ci2 rfl (Nat.le_of_ble_eq_true rfl) (e_rcv h.2.1) rfl (r_118w h rfl hf hgf hz hz1 hbf) (fun σ' y8 hq => ?_)
    obtain ⟨hss, hv8⟩ := hq
    replace hss := hss.symm
    subst hss
    refine h_st rfl rfl ?_
    refine h_br (fun q1 => ?_) (fun q1 => ?_)
    · refine h_st rfl rfl ?_
      refine h_st rfl rfl ?_
      refine h_st rfl rfl ?_
      refine h_pc (if_neg (by decide)) ?_
      refine h_st rfl rfl ?_
      refine h_st rfl rfl ?_
      refine h_st rfl rfl ?_
      refine h_st rfl rfl ?_
      refine h_st rfl rfl ?_
      refine h_pc (if_pos (by decide)) ?_
      exact hsame (hnk (kat_no hQ hv)) (r_116bw h hf (rfl : (2 : Int32) = nI 2) (by decide) hP hM (fun q _ => rfl))
    · refine h_st rfl rfl ?_
      refine h_st rfl rfl ?_
      refine h_st rfl rfl ?_
      refine h_st rfl rfl ?_
      refine h_st rfl rfl ?_
      refine h_pc (if_pos (by decide)) ?_
      exact hsame (hno (fun z => (hv8.elim (fun z => absurd (z.1.symm.trans (Decidable.of_not_not q1)) (by decide)) (fun z => z.2)) (hk1.mpr z))) (r_116bw h hf (rfl : (1 : Int32) = nI 1) (by decide) hP hM (fun q _ => rfl))
  · rw [hk2] at hlk
    obtain ⟨k, hk, hkat, hK⟩ := kat_yes hQ hl hil
    have a5 : F 183 l = kta k := hK.1.2.2.2.2.1
    rw [← hlk] at hkat
    obtain ⟨-, m2, m3⟩ := hM l e hl he
    replace m2 := m2 k hk
    have e8 : (8 : Int32) * nI e + nI l = nI (8 * e + l) := by rw [show (8 : Int32) = nI 8 from rfl, pk_mul, nI_add]
    have ep : okc x.1 x.2 → ens a nt e x = (match nP a l e with | none => a | some p => if fom x.1 x.2 then setP a l e (rvA p nt x (nT a)) else a) := fun z => by
      unfold ens
      rw [if_pos z, hkat]
      rfl
    refine h_st rfl rfl ?_
    refine h_st rfl rfl ?_
    refine h_st rfl rfl ?_
    refine h_ci2 rfl (Nat.le_of_ble_eq_true rfl) (e_rcv h.2.1) rfl (r_118w h rfl hf hgf hz hz1 hbf) (fun σ' y8 hq => ?_)
    obtain ⟨hss, hv8⟩ := hq
    replace hss := hss.symm
    subst hss
    refine h_st rfl rfl ?_
    refine h_br (fun q1 => ?_) (fun q1 => ?_)
    · refine h_st rfl rfl ?_
      refine h_st rfl rfl ?_
      refine h_st rfl rfl ?_
      refine h_pc (if_pos (decide_eq_true (nI_nm1 (by omega)))) ?_
      refine h_st rfl rfl ?_
      refine h_st rfl rfl ?_
      refine h_st rfl rfl ?_
      refine h_ci3 rfl (Nat.le_of_ble_eq_true rfl) (e_rcv h.2.1) rfl (r_119x h (nI e) (nI l)) (fun σ' y7 hq => ?_)
      obtain ⟨hss, hv7⟩ := hq
      replace hss := hss.symm
      subst hss
      rcases hv7 with ⟨rfl, hv7⟩ | ⟨rfl, hv7⟩
      · refine h_st rfl rfl ?_
        refine h_pc (if_neg (by decide)) ?_
        refine h_st rfl rfl ?_
        refine h_st rfl rfl ?_
        refine h_st rfl rfl ?_
        refine h_st rfl rfl ?_
        refine h_st rfl rfl ?_
        refine h_pc (if_pos (by decide)) ?_
        exact hsame ((by rw [ep (hk1.mp (b_2 hv8 q1)), m2.mpr (Decidable.of_not_not (fun z9 => ((hv7 l e hl he rfl rfl).resolve_left hil) (by rw [a5]; exact (and1 _).mpr z9)))])) (r_116bw h hf (rfl : (3 : Int32) = nI 3) (by decide) hP hM (fun q _ => rfl))
      · obtain ⟨j9, k9, hj9, hk9, ej9, ek9, hf9, hb9⟩ := hv7
        have ej9' : l = j9 := nI_inj (by omega) (by omega) ej9
        subst ej9'
        have ek9' : e = k9 := nI_inj (by omega) (by omega) ek9
        subst ek9'
        have hpn : ¬ nP a l e = none := fun z => (and1 _).mp (by rw [← a5]; exact hb9) (m2.mp z)
        obtain ⟨p, hp⟩ := Option.ne_none_iff_exists'.mp hpn
        refine h_st rfl rfl ?_
        refine h_pc (if_pos (by decide)) ?_
        refine h_st rfl rfl ?_
        refine h_st rfl rfl ?_
        refine h_ci2 rfl (Nat.le_of_ble_eq_true rfl) (e_rcv h.2.1) rfl (r_120w h rfl hf hgf hz hz1 hbf) (fun σ' y6 hq => ?_)
        obtain ⟨hss, hv6⟩ := hq
        replace hss := hss.symm
        subst hss
        refine h_st rfl rfl ?_
        refine h_br (fun q4 => ?_) (fun q4 => ?_)
        · refine h_st rfl rfl ?_
          refine h_st rfl rfl ?_
          refine h_st rfl rfl ?_
          refine h_st rfl rfl ?_
          refine h_pc (if_neg (by decide)) ?_
          have hfo : fom x.1 x.2 := hk3.mp (b_2 hv6 q4)
          obtain ⟨-, -, -, -, -, v1, v2⟩ := hfo
          obtain ⟨n, hn, en⟩ := i_nn v1
          have hn161 : n ≤ x.1 - 39 := (nI_leI (by omega) (by omega)).mp (by rw [← en, show nI (x.1 - 39) = nI x.1 - 39 from (pk_sub (a := x.1) (b := 39) (by omega)).symm]; exact Int32.not_lt.mp v2)
          have hnn : 256 * F 194 (200 * f + 16) + F 194 (200 * f + (16 + 1)) - 20 = nI n := by rw [hg 16 (by omega), hg (16 + 1) (by omega), two_sh (hbx 16 (by omega)) (hbx (16 + 1) (by omega))]; exact en
          have epe : ens a nt e x = setP a l e (rvA p nt x (nT a)) := by
            rw [ep (hk1.mp (b_2 hv8 q1)), hp]
            exact if_pos (hk3.mp (b_2 hv6 q4))
          rw [epe]
          refine h_st rfl rfl ?_
          refine h_st rfl rfl ?_
          refine h_st rfl rfl ?_
          refine h_st rfl rfl ?_
          refine h_st rfl rfl ?_
          refine h_st rfl rfl ?_
          refine h_st rfl rfl ?_
          refine h_st rfl rfl ?_
          refine h_st rfl rfl ?_
          refine h_st rfl rfl ?_
          refine h_st rfl rfl ?_
          refine h_st rfl (e_get h.2.1 rfl) ?_
          refine h_st rfl rfl ?_
          refine h_st rfl (q_iaE h.a195 (rfl) (hf) (by decide) (hz)) ?_
          refine h_st rfl rfl ?_
          refine h_st rfl rfl ?_
          refine h_ci3 rfl (Nat.le_of_ble_eq_true rfl) (e_rcv h.2.1) rfl (r_108v h rfl hf e5 (by omega) ((hg (x.1 - 5) (by omega)).trans esv)) (fun σ' y hq => ?_)
          obtain ⟨hss, rfl⟩ := hq
          replace hss := hss.symm
          subst hss
          refine h_ci5 rfl (Nat.le_of_ble_eq_true rfl) (e_rcv h.2.1) rfl (pI_and (r_121 h hP rfl hf rfl hnt e8 (by omega) rfl hsv (by omega) hnn) (r_121w h rfl hl he (m3 p hp) PO.refl hf hg hbx hz1 (by omega) en hsv hnt esv rfl rfl e8 rfl)) (fun σ5 v5 hq => ?_)
          obtain ⟨⟨F5, w5, rfl, hw5, h5, hP5⟩, F6, h6, hR6, hO6⟩ := hq
          refine h_st rfl rfl ?_
          exact r_116bw (F := F) h6 hf rfl hw5 (hP5.tr h5 h6) (hM.set hl he hk hp hO6 hR6) hO6.1
        · refine h_st rfl rfl ?_
          refine h_st rfl rfl ?_
          refine h_st rfl rfl ?_
          refine h_st rfl rfl ?_
          refine h_st rfl rfl ?_
          refine h_pc (if_pos (by decide)) ?_
          exact hsame ((by rw [ep (hk1.mp (b_2 hv8 q1)), hp]; exact if_neg (fun z => (hv6.elim (fun z => absurd (z.1.symm.trans (Decidable.of_not_not q4)) (by decide)) (fun z => z.2)) (hk3.mpr z)))) (r_116bw h hf (rfl : (7 : Int32) = nI 7) (by decide) hP hM (fun q _ => rfl))
    · refine h_st rfl rfl ?_
      refine h_st rfl rfl ?_
      refine h_st rfl rfl ?_
      refine h_st rfl rfl ?_
      refine h_st rfl rfl ?_
      refine h_pc (if_pos (by decide)) ?_
      exact hsame (hno (fun z => (hv8.elim (fun z => absurd (z.1.symm.trans (Decidable.of_not_not q1)) (by decide)) (fun z => z.2)) (hk1.mpr z))) (r_116bw h hf (rfl : (1 : Int32) = nI 1) (by decide) hP hM (fun q _ => rfl))
end SY16
