section TYB
variable {ra : ae_R} {d : Nat} {σ σ0 σ' : ae_S} {p : Nat} {K K0 : Nat → Nat} {b : Bool} {s t : Nat}
theorem Ex.c1 {K' : Nat → Nat} (h : Ex b s t K σ K' σ') (hp : K p = 2) : σ'.2[p]? = σ.2[p]? := h.2.2.2.2.1 p (Or.inl hp)
/-- what a call of the class does to the store -/
def Up (s t : Nat) (K : Nat → Nat) (σ : ae_S) (K' : Nat → Nat) (σ' : ae_S) : Prop :=
  Ty σ' K' ∧ σ.2.length ≤ σ'.2.length ∧ (∀ p, K p ≠ 0 → K' p = K p) ∧ (∀ p, p < σ.2.length → K p = 0 → K' p = 0 ∧ σ'.2[p]? = σ.2[p]?) ∧ Wt1 σ' ≤ Wt1 σ + s ∧ Wt2 σ' ≤ Wt2 σ + t
theorem Ex.up {K' : Nat → Nat} (h : Ex b s t K σ K' σ') : Up s t K σ K' σ' := ⟨h.1, h.2.1, h.2.2.1, h.2.2.2.1, h.2.2.2.2.2.1, h.2.2.2.2.2.2⟩
theorem Up.le {s' t' : Nat} {K' : Nat → Nat} (h : Up s t K σ K' σ') (h1 : s ≤ s') (h2 : t ≤ t') : Up s' t' K σ K' σ' := ⟨h.1, h.2.1, h.2.2.1, h.2.2.2.1, Nat.le_trans h.2.2.2.2.1 (by omega), Nat.le_trans h.2.2.2.2.2 (by omega)⟩
theorem Up.s0 {K' : Nat → Nat} (h : Up s t K σ K' σ') (hS : S0 K) : S0 K' := by
  have g : ∀ q k, k ≠ 0 → K q = k → K' q = k := fun q k hk e => (h.2.2.1 q (by rw [e]; exact hk)).trans e
  exact ⟨g _ _ (by decide) hS.1, g _ _ (by decide) hS.2.1, g _ _ (by decide) hS.2.2.1, g _ _ (by decide) hS.2.2.2.1, g _ _ (by decide) hS.2.2.2.2.1, g _ _ (by decide) hS.2.2.2.2.2⟩
theorem Up.thr (hT : Ty σ K) : Up 1 6 K σ K ((σ.1.1 + 1, σ.1.2 + 6), σ.2) := by
  refine ⟨hT, Nat.le_refl _, fun _ _ => rfl, fun _ _ h => ⟨h, rfl⟩, ?_, ?_⟩
  · unfold Wt1
    simp only
    omega
  · unfold Wt2
    simp only
    omega
theorem Up.trans {s' t' : Nat} {K' K2 : Nat → Nat} {σ2 : ae_S} (h : Up s t K σ K' σ') (h2 : Up s' t' K' σ' K2 σ2) : Up (s + s') (t + t') K σ K2 σ2 := by
  obtain ⟨a1, a2, a3, a4, a6, a7⟩ := h
  obtain ⟨b1, b2, b3, b4, b6, b7⟩ := h2
  refine ⟨b1, Nat.le_trans a2 b2, fun p hp => ?_, fun p h1 h2 => ?_, by omega, by omega⟩
  · have e := a3 p hp
    exact (b3 p (by rw [e]; exact hp)).trans e
  · obtain ⟨x1, x2⟩ := a4 p h1 h2
    obtain ⟨y1, y2⟩ := b4 p (Nat.lt_of_lt_of_le h1 a2) x1
    exact ⟨y1, y2.trans x2⟩
/-- the links' row takes a new link: its place pays -/
theorem Ex.upN {K' : Nat → Nat} {c c0 : ae_C} {a e : Nat} (h : Ex b (s + a) (t + e) K σ K' σ') (hp : σ'.2[p]? = some c0) (hk : K' p ≠ 0) (hok : okC K' (K' p) c) (hw : (wt c).1 + a ≤ (wt c0).1 ∧ (wt c).2 + e ≤ (wt c0).2) : Up s t K σ K' (σ'.1, σ'.2.set p c) := by
  obtain ⟨a1, a2, a3, a4, a5, a6, a7⟩ := h
  have w1 := sum_set (fun c => (wt c).1) (c0 := c0) (c := c) hp
  have w2 := sum_set (fun c => (wt c).2) (c0 := c0) (c := c) hp
  refine ⟨a1.set hp (fun _ => hok), by rw [List.length_set]; exact a2, a3, fun q h1 h2 => ?_, ?_, ?_⟩
  · obtain ⟨x1, x2⟩ := a4 q h1 h2
    exact ⟨x1, (st_ne (fun e => hk (by rw [e]; exact x1))).trans x2⟩
  · unfold Wt1 at *
    simp only at *
    omega
  · unfold Wt2 at *
    simp only at *
    omega
theorem c_80t (hT : Ty σ K) (hS : S0 K) (l so ga mo ta fl : Int32) : hE ra (d + 6) 80 [.ref 0, .int l, .int so, .int ga, .int mo, .int ta, .int fl] σ (fun r => (∃ σ' K' j f q, r = (σ', .inl none) ∧ Up 0 0 K σ K' σ' ∧ σ'.2[0]? = σ.2[0]? ∧ okL l so ga mo ta fl ∧ j < 8 ∧ l = nI j ∧ σ.2[1]? = some (.inl (4, rfs 8 f)) ∧ f j = none ∧ σ'.2[1]? = some (.inl (4, rfs 8 (va_up f j (some q))))) ∨ (r = (((σ.1.1 + 1, σ.1.2 + 6), σ.2), .inr 0) ∧ ¬ okL l so ga mo ta fl) ∨ (r = (((σ.1.1 + 1, σ.1.2 + 6), σ.2), .inr 1) ∧ okL l so ga mo ta fl ∧ ∃ j f, j < 8 ∧ l = nI j ∧ σ.2[1]? = some (.inl (4, rfs 8 f)) ∧ f j ≠ none)) := by
  obtain ⟨tm, h0⟩ := hT.k1 hS.1
  obtain ⟨f, hs, hf⟩ := hT.k2 hS.2.1
  have hx := Ex.refl (b := true) hT
  refine h_in rfl rfl (Nat.le_of_ble_eq_true rfl) ?_
  refine h_st rfl rfl ?_
  refine h_ci1 rfl (Nat.le_of_ble_eq_true rfl) rfl rfl (s_38 l) (fun σ' b1 hq => ?_)
  obtain ⟨hss, hb1⟩ := hq
  replace hss := hss.symm
  subst hss
  refine h_st rfl rfl ?_
  refine h_br (fun q1 => ?_) (fun q1 => ?_)
  · exact h_th rfl (by omega) (Nat.le_of_ble_eq_true rfl) (Or.inr (Or.inl ⟨rfl, fun z => absurd q1 (b_1 hb1 ⟨z.1, z.2.1⟩)⟩))
  · refine h_st rfl rfl ?_
    refine h_ci1 rfl (Nat.le_of_ble_eq_true rfl) rfl rfl (s_40 so) (fun σ' b1 hq => ?_)
    obtain ⟨hss, hb2⟩ := hq
    replace hss := hss.symm
    subst hss
    refine h_st rfl rfl ?_
    refine h_br (fun q2 => ?_) (fun q2 => ?_)
    · exact h_th rfl (by omega) (Nat.le_of_ble_eq_true rfl) (Or.inr (Or.inl ⟨rfl, fun z => absurd q2 (b_1 hb2 ⟨z.2.2.1, z.2.2.2.1⟩)⟩))
    · refine h_st rfl rfl ?_
      refine h_st rfl rfl ?_
      refine h_st rfl rfl ?_
      refine h_br (fun q3 => ?_) (fun q3 => ?_)
      · exact h_th rfl (by omega) (Nat.le_of_ble_eq_true rfl) (Or.inr (Or.inl ⟨rfl, fun z => z.2.2.2.2.1 q3⟩))
      · refine h_st rfl rfl ?_
        refine h_st rfl rfl ?_
        refine h_st rfl rfl ?_
        refine h_br (fun q4 => ?_) (fun q4 => ?_)
        · exact h_th rfl (by omega) (Nat.le_of_ble_eq_true rfl) (Or.inr (Or.inl ⟨rfl, fun z => z.2.2.2.2.2.1 q4⟩))
        · refine h_st rfl rfl ?_
          refine h_st rfl rfl ?_
          refine h_st rfl rfl ?_
          refine h_br (fun q5 => ?_) (fun q5 => ?_)
          · exact h_th rfl (by omega) (Nat.le_of_ble_eq_true rfl) (Or.inr (Or.inl ⟨rfl, fun z => z.2.2.2.2.2.2.1 q5⟩))
          · refine h_st rfl rfl ?_
            refine h_st rfl rfl ?_
            refine h_st rfl rfl ?_
            refine h_br (fun q6 => ?_) (fun q6 => ?_)
            · exact h_th rfl (by omega) (Nat.le_of_ble_eq_true rfl) (Or.inr (Or.inl ⟨rfl, fun z => z.2.2.2.2.2.2.2.1 q6⟩))
            · refine h_st rfl rfl ?_
              refine h_st rfl rfl ?_
              refine h_ci2 rfl (Nat.le_of_ble_eq_true rfl) rfl rfl (s_81 ta so) (fun σ' b1 hq => ?_)
              obtain ⟨hss, hb3⟩ := hq
              replace hss := hss.symm
              subst hss
              refine h_st rfl rfl ?_
              refine h_br (fun q7 => ?_) (fun q7 => ?_)
              · exact h_th rfl (by omega) (Nat.le_of_ble_eq_true rfl) (Or.inr (Or.inl ⟨rfl, fun z => absurd q7 (b_1 hb3 z.2.2.2.2.2.2.2.2.1)⟩))
              · refine h_st rfl rfl ?_
                refine h_ci1 rfl (Nat.le_of_ble_eq_true rfl) rfl rfl (s_82 fl) (fun σ' b1 hq => ?_)
                obtain ⟨hss, hb4⟩ := hq
                replace hss := hss.symm
                subst hss
                refine h_st rfl rfl ?_
                refine h_br (fun q8 => ?_) (fun q8 => ?_)
                · have hok : okL l so ga mo ta fl := ⟨(b_2 hb1 q1).1, (b_2 hb1 q1).2, (b_2 hb2 q2).1, (b_2 hb2 q2).2, q3, q4, q5, q6, b_2 hb3 q7, b_2 hb4 q8⟩
                  obtain ⟨j, hj, rfl⟩ := i_ix (n := 8) (by decide) (b_2 hb1 q1).1 (b_2 hb1 q1).2
                  obtain ⟨i, hi, rfl⟩ := i_ix (n := 4) (by decide) (b_2 hb2 q2).1 (b_2 hb2 q2).2
                  obtain ⟨m, hm, rfl⟩ := nI_of2 (x := mo) (M := 128) (n := 128) (by decide) (fun z => q5 (Int32.lt_trans z (by decide))) (Int32.not_lt.mp q6)
                  have hm2 : 64 ≤ m := Nat.le_of_not_lt (fun z => q5 ((nI_ltI (by omega) (by decide)).mpr z))
                  have hin : ¬ (nI j < 0 ∨ 8 ≤ (nI j).toNatClampNeg) := nI_in hj (by decide)
                  have ej : (nI j).toNatClampNeg = j := nI_clamp (by omega)
                  cases hv : f (nI j).toNatClampNeg with
                  | some q =>
                    refine h_st rfl rfl ?_
                    refine h_st rfl (e_get h0 rfl) ?_
                    refine h_st rfl rfl ?_
                    refine h_st rfl ((e_aa hs (by decide) hin).trans (by rw [hv])) ?_
                    refine h_st rfl rfl ?_
                    exact h_th rfl (by omega) (Nat.le_of_ble_eq_true rfl) (Or.inr (Or.inr ⟨rfl, hok, j, f, hj, rfl, hs, by rw [← ej, hv]; exact fun y => by cases y⟩))
                  | none =>
                    refine h_st rfl rfl ?_
                    refine h_st rfl (e_get h0 rfl) ?_
                    refine h_st rfl rfl ?_
                    refine h_st rfl ((e_aa hs (by decide) hin).trans (by rw [hv])) ?_
                    refine h_st rfl rfl ?_
                    refine h_st rfl rfl ?_
                    refine h_st rfl (e_get h0 rfl) ?_
                    refine h_st rfl rfl ?_
                    refine h_st rfl rfl ?_
                    have hz9 := ty_z hT (Nat.le_refl _)
                    have l1 := hT.lt (p := 1) (by rw [hS.2.1]; decide)
                    replace hx := hx.push (x := .inr (4, cd_Link)) (n := 15) (a := 0) (e := 0) rfl
                    have hnew : (((σ.1.1 + 1, σ.1.2 + 15), σ.2 ++ [.inr (4, cd_Link)]) : ae_S).2[σ.2.length]? = some (.inr (4, cd_Link)) := by simp
                    have hl1 : (((σ.1.1 + 1, σ.1.2 + 15), σ.2 ++ [.inr (4, cd_Link)]) : ae_S).2.length = σ.2.length + 1 := by simp
                    refine h_st rfl rfl ?_
                    refine h_st rfl rfl ?_
                    refine h_st rfl rfl ?_
                    refine h_st rfl rfl ?_
                    refine h_st rfl rfl ?_
                    refine h_st rfl rfl ?_
                    refine h_st rfl rfl ?_
                    refine h_st rfl rfl ?_
                    refine h_st rfl rfl ?_
                    refine h_cv7 rfl (Nat.le_of_ble_eq_true rfl) (e_rcv hnew) rfl (c_83t hi rfl ⟨hm2, hm⟩ hx (Nat.le_refl _) hz9 hnew) (fun σ2 hq => ?_)
                    obtain ⟨K2, hx2, hK2, -, hf2⟩ := hq
                    rw [hl1] at hf2
                    have f1 := hf2 1 (by omega) (by omega)
                    have hs2 := f1.2.trans ((List.getElem?_append_left l1).trans hs)
                    obtain ⟨nu, so9, ga9, mo9, hi9, qu9, pa9, po9, ac9, wa9, fi9, co9, me9, se9, op9, hk9, -⟩ := hx2.ty.k18 hK2
                    have hn9 := nl_lt (f := f) (q := σ.2.length) hv (n := 8) (by omega)
                    refine h_st rfl (e_aas hs2 hk9 (by decide) hin) ?_
                    exact h_rv rfl (Or.inl ⟨_, K2, j, f, σ.2.length, rfl, (hx2.le (s' := 0 + 100) (t' := 0 + 25000) (by omega) (by omega)).upN hs2 (by rw [f1.1, hS.2.1]; decide) (by rw [f1.1, hS.2.1]; exact ok_2 ⟨_, rfl, up_kd (fun i r hi hr => (hx2.kd (hf i r hi hr) (by decide))) hK2⟩) ⟨by show 100 * nl _ 8 + 100 ≤ 100 * nl f 8; omega, by show 25000 * nl _ 8 + 25000 ≤ 25000 * nl f 8; omega⟩, (st_ne (by decide)).trans ((hf2 0 (by omega) (by omega)).2.trans (List.getElem?_append_left (by omega))), hok, hj, rfl, hs, by rw [← ej]; exact hv, (st_get hs2).trans (by rw [ej])⟩)
                · exact h_th rfl (by omega) (Nat.le_of_ble_eq_true rfl) (Or.inr (Or.inl ⟨rfl, fun z => q8 (b_1 hb4 z.2.2.2.2.2.2.2.2.2)⟩))
theorem c_87t (hT : Ty σ K) (hS : S0 K) (l sz sd : Int32) : hE ra (d + 6) 87 [.ref 0, .int l, .int sz, .int sd] σ (fun r => (∃ σ' v K', r = (σ', .inl (some (.int v))) ∧ Up 0 0 K σ K' σ' ∧ σ'.2[0]? = σ.2[0]? ∧ σ'.2[1]? = σ.2[1]?) ∨ (∃ x : Nat, x < 2 ∧ r = (((σ.1.1 + 1, σ.1.2 + 6), σ.2), .inr x))) := by
  have hx := Ex.refl (b := false) hT
  refine h_in rfl rfl (Nat.le_of_ble_eq_true rfl) ?_
  refine h_st rfl rfl ?_
  refine h_st rfl rfl ?_
  refine h_cr2 rfl (Nat.le_of_ble_eq_true rfl) (rcv1 hx.ty hS.1) rfl (c_37t hx.ty hS l) (fun σ' q9 hq => ?_)
  obtain ⟨rfl, hq⟩ := hq
  have hK := c_37k hq
  rcases q9 with _ | r
  · refine h_st rfl rfl ?_
    refine h_st rfl rfl ?_
    refine h_st rfl rfl ?_
    exact h_th rfl (by omega) (Nat.le_of_ble_eq_true rfl) (Or.inr ⟨0, by decide, rfl⟩)
  · have hKr := hK r rfl
    refine h_st rfl rfl ?_
    refine h_st rfl rfl ?_
    refine h_st rfl rfl ?_
    refine h_st rfl rfl ?_
    refine h_st rfl rfl ?_
    refine h_ci2 rfl (Nat.le_of_ble_eq_true rfl) (rcv18 hx.ty hKr) rfl (c_88 hx.ty hKr sz) (fun σ' y hy => ?_)
    obtain ⟨rfl, m, rfl, hm⟩ := hy
    obtain ⟨nu, so, ga, mo, hi, qu, pa, po, ac, wa, fi, co, me, se, op, hk, hb, h19, h20, h21⟩ := hx.ty.k18 hKr
    refine h_st rfl rfl ?_
    refine h_st rfl rfl ?_
    refine h_st rfl rfl ?_
    refine h_br (fun q1 => ?_) (fun q1 => ?_)
    · refine h_st rfl rfl ?_
      refine h_st rfl (e_get hk rfl) ?_
      refine h_st rfl rfl ?_
      refine h_st rfl rfl ?_
      refine h_st rfl rfl ?_
      refine h_st rfl rfl ?_
      refine h_br (fun q2 => ?_) (fun q2 => ?_)
      · refine h_st rfl rfl ?_
        refine h_st rfl rfl ?_
        refine h_st rfl rfl ?_
        refine h_cv3 rfl (Nat.le_of_ble_eq_true rfl) (rcv18 hx.ty hKr) rfl (c_90 hx.ty hS.1 hKr sz sd) (fun σ2 hq => ?_)
        obtain ⟨ex, hn0⟩ := hq
        replace hx := hx.trans ex
        refine h_st rfl rfl ?_
        exact h_rt rfl rfl (Or.inl ⟨_, _, K, rfl, hx.up, hn0, hx.c1 hS.2.1⟩)
      · exact h_th rfl (by omega) (Nat.le_of_ble_eq_true rfl) (Or.inr ⟨1, by decide, rfl⟩)
    · exact h_th rfl (by omega) (Nat.le_of_ble_eq_true rfl) (Or.inr ⟨0, by decide, rfl⟩)
theorem c_92t (hT : Ty σ K) (hS : S0 K) (e l : Int32) : hE ra (d + 6) 92 [.ref 0, .int e, .int l] σ (fun r => (∃ σ' v K', r = (σ', .inl (some (.int v))) ∧ Up 0 0 K σ K' σ' ∧ σ'.2[0]? = σ.2[0]? ∧ σ'.2[1]? = σ.2[1]?) ∨ (∃ x : Nat, x < 1 ∧ r = (((σ.1.1 + 1, σ.1.2 + 6), σ.2), .inr x))) := by
  have hx := Ex.refl (b := true) hT
  obtain ⟨tm, h0⟩ := hT.k1 hS.1
  refine h_in rfl rfl (Nat.le_of_ble_eq_true rfl) ?_
  refine h_st rfl rfl ?_
  refine h_st rfl rfl ?_
  refine h_st rfl rfl ?_
  refine h_cr3 rfl (Nat.le_of_ble_eq_true rfl) (rcv1 hx.ty hS.1) rfl (c_65t hx.ty hS _ _) (fun σ' q9 hq => ?_)
  obtain ⟨rfl, hK⟩ := hq
  rcases q9 with _ | r
  · refine h_st rfl rfl ?_
    refine h_st rfl rfl ?_
    refine h_st rfl rfl ?_
    exact h_th rfl (by omega) (Nat.le_of_ble_eq_true rfl) (Or.inr ⟨0, by decide, rfl⟩)
  · have hKr := hK r rfl
    refine h_st rfl rfl ?_
    refine h_st rfl rfl ?_
    refine h_st rfl rfl ?_
    refine h_st rfl rfl ?_
    refine h_cr1 rfl (Nat.le_of_ble_eq_true rfl) (rcv23 hx.ty hKr) rfl (c_93 (b := true) hx.ty hKr) (fun σ2 q8 hq8 => ?_)
    obtain ⟨hq8, ex⟩ := hq8
    replace h0 := (ex.cs (Or.inl hS.1)).trans h0
    replace hx := hx.trans ex
    rcases q8 with _ | r8
    · refine h_st rfl rfl ?_
      refine h_st rfl rfl ?_
      refine h_st rfl rfl ?_
      refine h_st rfl rfl ?_
      exact h_rt rfl rfl (Or.inl ⟨_, _, K, rfl, hx.up, hx.cs (Or.inl hS.1), hx.c1 hS.2.1⟩)
    · have hK8 := hq8 r8 rfl
      obtain ⟨pb, k, hD, hpb⟩ := hx.ty.dr hK8
      obtain ⟨pb6, k6, hD6, hpb6⟩ := hx.ty.dr hS.2.2.2.2.2
      refine h_st rfl rfl ?_
      refine h_st rfl rfl ?_
      refine h_st rfl rfl ?_
      refine h_st rfl rfl ?_
      refine h_st rfl (e_get h0 rfl) ?_
      refine h_st rfl rfl ?_
      refine h_cv2 rfl (Nat.le_of_ble_eq_true rfl) (e_rcv hD6.1) rfl (c_94 hD hD6 (kne hpb6 hK8 (by decide))) (fun σ3 hq => ?_)
      obtain ⟨hD3, o3⟩ := hq
      replace h0 := (o3.2.2 0 (kne hS.1 hS.2.2.2.2.2 (by decide)) (kne hS.1 hpb6 (by decide))).trans h0
      replace hx := hx.opD hS.2.2.2.2.2 hpb6 hD6 hD3 o3
      refine h_st rfl rfl ?_
      refine h_st rfl (e_get h0 rfl) ?_
      refine h_st rfl (e_get hD3.1 rfl) ?_
      refine h_st rfl rfl ?_
      refine h_st rfl rfl ?_
      exact h_rt rfl rfl (Or.inl ⟨_, _, K, rfl, hx.up, hx.cs (Or.inl hS.1), hx.c1 hS.2.1⟩)
theorem e_las {np n : Nat} {L : ae_Ls} {k : List Value} {f : Nat → Int64} {i : Int32} {x : Int64} (h : σ.2[p]? = some (.inl (3, n, .inr (.inl f)))) (hi : ¬ (i < 0 ∨ n ≤ i.toNatClampNeg)) : o_las np ra σ L (.long x :: .int i :: .ref p :: k) = some ((σ.1, σ.2.set p (.inl (3, n, .inr (.inl (vp_updL f i.toNatClampNeg x))))), L, k, np) := by
  simp only [o_las, h]
  rw [if_pos ⟨by first | trivial | rfl, hi⟩]
/-- a call of the class by the law: the class's cells and the row of longs may move -/
def Lw (o : Nat) (K : Nat → Nat) (σ : ae_S) (K' : Nat → Nat) (σ' : ae_S) : Prop :=
  Ty σ' K' ∧ σ.2.length ≤ σ'.2.length ∧ (∀ p, K p ≠ 0 → K' p = K p) ∧ (∀ p, p < σ.2.length → K p = 0 → K' p = 0 ∧ (p ≠ o → σ'.2[p]? = σ.2[p]?)) ∧ (∃ f, σ'.2[o]? = some (.inl (3, 1, .inr (.inl f)))) ∧ Wt1 σ' ≤ Wt1 σ + 1 ∧ Wt2 σ' ≤ Wt2 σ + 6
theorem Up.lw {o : Nat} {K' : Nat → Nat} {f : Nat → Int64} (h : Up s t K σ K' σ') (h1 : s ≤ 1) (h2 : t ≤ 6) (ho : σ.2[o]? = some (.inl (3, 1, .inr (.inl f)))) (hK : K o = 0) : Lw o K σ K' σ' := by
  obtain ⟨a1, a2, a3, a4, a6, a7⟩ := h
  have hlt := (List.getElem?_eq_some_iff.mp ho).1
  exact ⟨a1, a2, a3, fun p q1 q2 => ⟨(a4 p q1 q2).1, fun _ => (a4 p q1 q2).2⟩, ⟨f, (a4 o hlt hK).2.trans ho⟩, by omega, by omega⟩
theorem Lw.las {o : Nat} {K' : Nat → Nat} {f f' : Nat → Int64} (h : Lw o K σ K' σ') (hK : K' o = 0) (ho : σ'.2[o]? = some (.inl (3, 1, .inr (.inl f)))) : Lw o K σ K' (σ'.1, σ'.2.set o (.inl (3, 1, .inr (.inl f')))) := by
  obtain ⟨a1, a2, a3, a4, a5, a6, a7⟩ := h
  have w1 := sum_set (fun c => (wt c).1) (c0 := .inl (3, 1, .inr (.inl f))) (c := .inl (3, 1, .inr (.inl f'))) ho
  have w2 := sum_set (fun c => (wt c).2) (c0 := .inl (3, 1, .inr (.inl f))) (c := .inl (3, 1, .inr (.inl f'))) ho
  refine ⟨a1.set ho (fun z => absurd hK z), by rw [List.length_set]; exact a2, a3, fun p q1 q2 => ⟨(a4 p q1 q2).1, fun q3 => (st_ne (Ne.symm q3)).trans ((a4 p q1 q2).2 q3)⟩, ⟨f', st_get ho⟩, ?_, ?_⟩
  · unfold Wt1 at *
    simp only [wt] at *
    omega
  · unfold Wt2 at *
    simp only [wt] at *
    omega
theorem c_79t (hT : Ty σ K) (hS : S0 K) {o9 : Nat} {f9 : Nat → Int64} (ho9 : σ.2[o9]? = some (.inl (3, 1, .inr (.inl f9)))) (hKo : K o9 = 0) (l so ga mo ta fl : Int32) : hE ra (d + 7) 79 [.ref 0, .int l, .int so, .int ga, .int mo, .int ta, .int fl] σ (pI (fun σ' x => (∃ K', Lw o9 K σ K' σ') ∧ σ'.2[0]? = σ.2[0]? ∧ ((x = 0 ∧ okL l so ga mo ta fl ∧ ∃ j f q, j < 8 ∧ l = nI j ∧ σ.2[1]? = some (.inl (4, rfs 8 f)) ∧ f j = none ∧ σ'.2[1]? = some (.inl (4, rfs 8 (va_up f j (some q))))) ∨ (x = 1 ∧ ¬ okL l so ga mo ta fl ∧ σ'.2[1]? = σ.2[1]?) ∨ (x = 2 ∧ okL l so ga mo ta fl ∧ σ'.2[1]? = σ.2[1]? ∧ ∃ j f, j < 8 ∧ l = nI j ∧ σ.2[1]? = some (.inl (4, rfs 8 f)) ∧ f j ≠ none)))) := by
  obtain ⟨r, g1, hr⟩ := c_80t (ra := ra) (d := d) hT hS l so ga mo ta fl
  rcases hr with ⟨σ', K', j, f, q, rfl, hu, hn0, hok, hj, hlj, hs1, hfj, hs2⟩ | ⟨rfl, hno⟩ | ⟨rfl, hok, hx2⟩
  · refine h_in rfl rfl (Nat.le_of_ble_eq_true rfl) ?_
    refine h_st rfl rfl ?_
    refine h_st rfl rfl ?_
    refine h_st rfl rfl ?_
    refine h_st rfl rfl ?_
    refine h_st rfl rfl ?_
    refine h_st rfl rfl ?_
    refine h_st rfl rfl ?_
    refine h_cv7 rfl (Nat.le_of_ble_eq_true rfl) (rcv1 hT hS.1) rfl ((⟨_, g1, σ', rfl, rfl⟩ : hE ra (d + 6) 80 [.ref 0, .int l, .int so, .int ga, .int mo, .int ta, .int fl] σ (pV (fun z => z = σ')))) (fun σ2 hq => ?_)
    subst hq
    refine h_st rfl rfl ?_
    refine h_st rfl rfl ?_
    exact h_rt rfl rfl (⟨_, _, rfl, ⟨K', hu.lw (by decide) (by decide) ho9 hKo⟩, hn0, Or.inl ⟨rfl, hok, j, f, q, hj, hlj, hs1, hfj, hs2⟩⟩)
  · refine h_in rfl rfl (Nat.le_of_ble_eq_true rfl) ?_
    refine h_st rfl rfl ?_
    refine h_st rfl rfl ?_
    refine h_st rfl rfl ?_
    refine h_st rfl rfl ?_
    refine h_st rfl rfl ?_
    refine h_st rfl rfl ?_
    refine h_st rfl rfl ?_
    refine h_cx7 rfl (Nat.le_of_ble_eq_true rfl) (rcv1 hT hS.1) rfl ((⟨_, g1, _, rfl, rfl⟩ : hE ra (d + 6) 80 [.ref 0, .int l, .int so, .int ga, .int mo, .int ta, .int fl] σ (pX 0 (fun z => z = ((σ.1.1 + 1, σ.1.2 + 6), σ.2))))) rfl (fun σ2 hq => ?_)
    subst hq
    refine h_st rfl rfl ?_
    exact h_rt rfl rfl (⟨_, _, rfl, ⟨K, (Up.thr hT).lw (by decide) (by decide) ho9 hKo⟩, rfl, Or.inr (Or.inl ⟨rfl, hno, rfl⟩)⟩)
  · refine h_in rfl rfl (Nat.le_of_ble_eq_true rfl) ?_
    refine h_st rfl rfl ?_
    refine h_st rfl rfl ?_
    refine h_st rfl rfl ?_
    refine h_st rfl rfl ?_
    refine h_st rfl rfl ?_
    refine h_st rfl rfl ?_
    refine h_st rfl rfl ?_
    refine h_cx7 rfl (Nat.le_of_ble_eq_true rfl) (rcv1 hT hS.1) rfl ((⟨_, g1, _, rfl, rfl⟩ : hE ra (d + 6) 80 [.ref 0, .int l, .int so, .int ga, .int mo, .int ta, .int fl] σ (pX 1 (fun z => z = ((σ.1.1 + 1, σ.1.2 + 6), σ.2))))) rfl (fun σ2 hq => ?_)
    subst hq
    refine h_st rfl rfl ?_
    exact h_rt rfl rfl (⟨_, _, rfl, ⟨K, (Up.thr hT).lw (by decide) (by decide) ho9 hKo⟩, rfl, Or.inr (Or.inr ⟨rfl, hok, rfl, hx2⟩)⟩)
theorem c_86t (hT : Ty σ K) (hS : S0 K) {o9 : Nat} {f9 : Nat → Int64} (ho9 : σ.2[o9]? = some (.inl (3, 1, .inr (.inl f9)))) (hKo : K o9 = 0) (l sz sd : Int32) : hE ra (d + 7) 86 [.ref 0, .int l, .int sz, .int sd, .ref o9] σ (pI (fun σ' _ => (∃ K', Lw o9 K σ K' σ') ∧ σ'.2[0]? = σ.2[0]? ∧ σ'.2[1]? = σ.2[1]?)) := by
  obtain ⟨r, g1, hr⟩ := c_87t (ra := ra) (d := d) hT hS l sz sd
  rcases hr with ⟨σ', v, K', rfl, hu, hn0, hn1⟩ | ⟨x, hx, rfl⟩
  · refine h_in rfl rfl (Nat.le_of_ble_eq_true rfl) ?_
    refine h_st rfl rfl ?_
    refine h_st rfl rfl ?_
    refine h_st rfl rfl ?_
    refine h_st rfl rfl ?_
    refine h_st rfl rfl ?_
    refine h_st rfl rfl ?_
    refine h_ci4 rfl (Nat.le_of_ble_eq_true rfl) (rcv1 hT hS.1) rfl ((⟨_, g1, σ', v, rfl, rfl, rfl⟩ : hE ra (d + 6) 87 [.ref 0, .int l, .int sz, .int sd] σ (pI (fun z y => z = σ' ∧ y = v)))) (fun σ2 y2 hq => ?_)
    obtain ⟨rfl, rfl⟩ := hq
    have hlw := hu.lw (by decide) (by decide) ho9 hKo
    obtain ⟨f8, ho8⟩ := hlw.2.2.2.2.1
    have hK8 := (hlw.2.2.2.1 o9 (List.getElem?_eq_some_iff.mp ho9).1 hKo).1
    refine h_st rfl rfl ?_
    refine h_st rfl (e_las ho8 (by decide)) ?_
    refine h_st rfl rfl ?_
    refine h_st rfl rfl ?_
    exact h_rt rfl rfl (⟨_, _, rfl, ⟨K', hlw.las hK8 ho8⟩, (st_ne (fun z => by rw [z, hS.1] at hKo; cases hKo)).trans hn0, (st_ne (fun z => by rw [z, hS.2.1] at hKo; cases hKo)).trans hn1⟩)
  · have hx2 : x = 0 ∨ x = 1 := by omega
    rcases hx2 with rfl | rfl
    · refine h_in rfl rfl (Nat.le_of_ble_eq_true rfl) ?_
      refine h_st rfl rfl ?_
      refine h_st rfl rfl ?_
      refine h_st rfl rfl ?_
      refine h_st rfl rfl ?_
      refine h_st rfl rfl ?_
      refine h_st rfl rfl ?_
      refine h_cx4 rfl (Nat.le_of_ble_eq_true rfl) (rcv1 hT hS.1) rfl ((⟨_, g1, _, rfl, rfl⟩ : hE ra (d + 6) 87 [.ref 0, .int l, .int sz, .int sd] σ (pX 0 (fun z => z = ((σ.1.1 + 1, σ.1.2 + 6), σ.2))))) rfl (fun σ2 hq => ?_)
      subst hq
      refine h_st rfl rfl ?_
      exact h_rt rfl rfl (⟨_, _, rfl, ⟨K, (Up.thr hT).lw (by decide) (by decide) ho9 hKo⟩, rfl, rfl⟩)
    · refine h_in rfl rfl (Nat.le_of_ble_eq_true rfl) ?_
      refine h_st rfl rfl ?_
      refine h_st rfl rfl ?_
      refine h_st rfl rfl ?_
      refine h_st rfl rfl ?_
      refine h_st rfl rfl ?_
      refine h_st rfl rfl ?_
      refine h_cx4 rfl (Nat.le_of_ble_eq_true rfl) (rcv1 hT hS.1) rfl ((⟨_, g1, _, rfl, rfl⟩ : hE ra (d + 6) 87 [.ref 0, .int l, .int sz, .int sd] σ (pX 1 (fun z => z = ((σ.1.1 + 1, σ.1.2 + 6), σ.2))))) rfl (fun σ2 hq => ?_)
      subst hq
      refine h_st rfl rfl ?_
      exact h_rt rfl rfl (⟨_, _, rfl, ⟨K, (Up.thr hT).lw (by decide) (by decide) ho9 hKo⟩, rfl, rfl⟩)
theorem c_91t (hT : Ty σ K) (hS : S0 K) {o9 : Nat} {f9 : Nat → Int64} (ho9 : σ.2[o9]? = some (.inl (3, 1, .inr (.inl f9)))) (hKo : K o9 = 0) (e l : Int32) : hE ra (d + 7) 91 [.ref 0, .int e, .int l, .ref o9] σ (pI (fun σ' _ => (∃ K', Lw o9 K σ K' σ') ∧ σ'.2[0]? = σ.2[0]? ∧ σ'.2[1]? = σ.2[1]?)) := by
  obtain ⟨r, g1, hr⟩ := c_92t (ra := ra) (d := d) hT hS e l
  rcases hr with ⟨σ', v, K', rfl, hu, hn0, hn1⟩ | ⟨x, hx, rfl⟩
  · refine h_in rfl rfl (Nat.le_of_ble_eq_true rfl) ?_
    refine h_st rfl rfl ?_
    refine h_st rfl rfl ?_
    refine h_st rfl rfl ?_
    refine h_st rfl rfl ?_
    refine h_st rfl rfl ?_
    refine h_ci3 rfl (Nat.le_of_ble_eq_true rfl) (rcv1 hT hS.1) rfl ((⟨_, g1, σ', v, rfl, rfl, rfl⟩ : hE ra (d + 6) 92 [.ref 0, .int e, .int l] σ (pI (fun z y => z = σ' ∧ y = v)))) (fun σ2 y2 hq => ?_)
    obtain ⟨rfl, rfl⟩ := hq
    have hlw := hu.lw (by decide) (by decide) ho9 hKo
    obtain ⟨f8, ho8⟩ := hlw.2.2.2.2.1
    have hK8 := (hlw.2.2.2.1 o9 (List.getElem?_eq_some_iff.mp ho9).1 hKo).1
    refine h_st rfl rfl ?_
    refine h_st rfl (e_las ho8 (by decide)) ?_
    refine h_st rfl rfl ?_
    refine h_st rfl rfl ?_
    exact h_rt rfl rfl (⟨_, _, rfl, ⟨K', hlw.las hK8 ho8⟩, (st_ne (fun z => by rw [z, hS.1] at hKo; cases hKo)).trans hn0, (st_ne (fun z => by rw [z, hS.2.1] at hKo; cases hKo)).trans hn1⟩)
  · have hx2 : x = 0 := by omega
    subst hx2
    refine h_in rfl rfl (Nat.le_of_ble_eq_true rfl) ?_
    refine h_st rfl rfl ?_
    refine h_st rfl rfl ?_
    refine h_st rfl rfl ?_
    refine h_st rfl rfl ?_
    refine h_st rfl rfl ?_
    refine h_cx3 rfl (Nat.le_of_ble_eq_true rfl) (rcv1 hT hS.1) rfl ((⟨_, g1, _, rfl, rfl⟩ : hE ra (d + 6) 92 [.ref 0, .int e, .int l] σ (pX 0 (fun z => z = ((σ.1.1 + 1, σ.1.2 + 6), σ.2))))) rfl (fun σ2 hq => ?_)
    subst hq
    refine h_st rfl rfl ?_
    exact h_rt rfl rfl (⟨_, _, rfl, ⟨K, (Up.thr hT).lw (by decide) (by decide) ho9 hKo⟩, rfl, rfl⟩)
end TYB
