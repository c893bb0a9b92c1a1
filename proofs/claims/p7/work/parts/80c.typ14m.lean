section TYE
variable {ra : ae_R} {d : Nat} {σ σ0 σ' : ae_S} {p : Nat} {K K0 : Nat → Nat} {b : Bool} {s t : Nat}
theorem rfs_inj {f f' : Nat → Option Nat} (h : σ.2[1]? = some (.inl (4, rfs 8 f))) (h' : σ.2[1]? = some (.inl (4, rfs 8 f'))) : f = f' := by
  rw [h] at h'
  simp only [Option.some.injEq, Sum.inl.injEq, Prod.mk.injEq, Sum.inr.injEq, true_and] at h'
  exact h'
theorem lk_none {f : Nat → Option Nat} {l : Int32} {A : Nat → Prop} (hs : σ.2[1]? = some (.inl (4, rfs 8 f))) (h : ((none : Option Nat) = none ∧ ¬ (¬ l < 0 ∧ ¬ 8 ≤ l)) ∨ ∃ j f', j < 8 ∧ l = nI j ∧ σ.2[1]? = some (.inl (4, rfs 8 f')) ∧ none = f' j ∧ ∀ r, none = some r → A r) : ∀ j, j < 8 → l = nI j → f j = none := by
  intro j hj e
  rcases h with ⟨_, h⟩ | ⟨j', f', hj', e', hs', hn, _⟩
  · exact absurd ⟨by rw [e]; exact Int32.not_lt.mpr (nI_le (a := 0) (Nat.zero_le _) (by omega)), by rw [e]; exact nI_ge hj (by decide)⟩ h
  · have ej : j = j' := nI_inj8 hj hj' (e.symm.trans e')
    rw [rfs_inj hs hs', ej]
    exact hn.symm
theorem lk_some {f : Nat → Option Nat} {l : Int32} {q : Nat} {A : Nat → Prop} (hs : σ.2[1]? = some (.inl (4, rfs 8 f))) (h : (some q = none ∧ ¬ (¬ l < 0 ∧ ¬ 8 ≤ l)) ∨ ∃ j f', j < 8 ∧ l = nI j ∧ σ.2[1]? = some (.inl (4, rfs 8 f')) ∧ some q = f' j ∧ ∀ r, some q = some r → A r) : ∃ j, j < 8 ∧ l = nI j ∧ f j = some q := by
  rcases h with ⟨h, _⟩ | ⟨j', f', hj', e', hs', hn, _⟩
  · cases h
  · exact ⟨j', hj', e', by rw [rfs_inj hs hs']; exact hn.symm⟩
theorem c_87x (hT : Ty σ K) (hS : S0 K) {f : Nat → Option Nat} {gaf hif quf paf : Nat → Int32} {sof mof pof acf waf : Nat → Nat} {sf : Nat → Nat × Int32} (hs : σ.2[1]? = some (.inl (4, rfs 8 f))) (hL : Ls σ f gaf hif quf paf sof mof pof acf waf (sf)) (l sz sd : Int32) : hE ra (d + 6) 87 [.ref 0, .int l, .int sz, .int sd] σ (fun r => (r = (((σ.1.1 + 1, σ.1.2 + 6), σ.2), .inr 0) ∧ (∀ j, j < 8 → l = nI j → f j = none ∨ ned (mof j) (quf j) sz = 0)) ∨ (r = (((σ.1.1 + 1, σ.1.2 + 6), σ.2), .inr 1) ∧ (∃ j, j < 8 ∧ l = nI j ∧ f j ≠ none ∧ ned (mof j) (quf j) sz ≠ 0 ∧ 8 < (sf j).1 + ned (mof j) (quf j) sz)) ∨ ∃ σ' K' j, r = (σ', .inl (some (.int (nI (ned (mof j) (quf j) sz))))) ∧ Up 0 0 K σ K' σ' ∧ σ'.2[0]? = σ.2[0]? ∧ σ'.2[1]? = σ.2[1]? ∧ (∀ q, K q = 19 → σ'.2[q]? = σ.2[q]?) ∧ j < 8 ∧ l = nI j ∧ f j ≠ none ∧ ned (mof j) (quf j) sz ≠ 0 ∧ (sf j).1 + ned (mof j) (quf j) sz ≤ 8 ∧ Ls σ' f gaf hif quf paf sof mof pof acf waf (fun i => if i = j then ((sf i).1 + ned (mof i) (quf i) sz, (sf i).2) else sf i)) := by
  have hx := Ex.refl (b := false) hT
  have hf18 := k18_of hT hS hs
  refine h_in rfl rfl (Nat.le_of_ble_eq_true rfl) ?_
  refine h_st rfl rfl ?_
  refine h_st rfl rfl ?_
  refine h_cr2 rfl (Nat.le_of_ble_eq_true rfl) (rcv1 hx.ty hS.1) rfl (c_37t hx.ty hS l) (fun σ' q9 hq => ?_)
  obtain ⟨hss, hq⟩ := hq
  replace hss := hss.symm
  subst hss
  rcases q9 with _ | r
  · have hno := lk_none hs hq
    refine h_st rfl rfl ?_
    refine h_st rfl rfl ?_
    refine h_st rfl rfl ?_
    exact h_th rfl (by omega) (Nat.le_of_ble_eq_true rfl) (Or.inl ⟨rfl, fun j hj e => Or.inl (hno j hj e)⟩)
  · obtain ⟨j, hj, hlj, hfj⟩ := lk_some hs hq
    have hKr := hf18 j r hj hfj
    obtain ⟨hb, fi, me, se, hfi, hk⟩ := hL j r hj hfj
    have hn8 := ned_le (mo := mof j) (qu := quf j) (x := sz)
    have hfn : f j ≠ none := by rw [hfj]; exact fun z => by cases z
    refine h_st rfl rfl ?_
    refine h_st rfl rfl ?_
    refine h_st rfl rfl ?_
    refine h_st rfl rfl ?_
    refine h_st rfl rfl ?_
    refine h_ci2 rfl (Nat.le_of_ble_eq_true rfl) (e_rcv hk) rfl (c_88x hk hb.2.1 sz) (fun σ' y hy => ?_)
    obtain ⟨hss, rfl⟩ := hy
    replace hss := hss.symm
    subst hss
    refine h_st rfl rfl ?_
    refine h_st rfl rfl ?_
    refine h_st rfl rfl ?_
    refine h_br (fun q1 => ?_) (fun q1 => ?_)
    · have hne : ned (mof j) (quf j) sz ≠ 0 := fun z => q1 (by rw [z]; rfl)
      refine h_st rfl rfl ?_
      refine h_st rfl (e_get hk rfl) ?_
      refine h_st rfl rfl ?_
      refine h_st rfl rfl ?_
      refine h_st rfl rfl ?_
      refine h_st rfl rfl ?_
      refine h_br (fun q2 => ?_) (fun q2 => ?_)
      · have hcm : (sf j).1 + ned (mof j) (quf j) sz ≤ 8 := (nI_leI (by omega) (by decide)).mp (show nI ((sf j).1 + ned (mof j) (quf j) sz) ≤ nI 8 from by rw [← nI_add]; exact q2)
        refine h_st rfl rfl ?_
        refine h_st rfl rfl ?_
        refine h_st rfl rfl ?_
        refine h_cv3 rfl (Nat.le_of_ble_eq_true rfl) (rcv18 hT hKr) rfl (c_90x hT hS.1 hKr hk hb.2.1 sz sd hcm) (fun σ2 hq => ?_)
        obtain ⟨ex, hfr, me2, hk2⟩ := hq
        replace hx := hx.trans ex
        have hL2 : Ls σ2 f gaf hif quf paf sof mof pof acf waf (fun i => if i = j then ((sf i).1 + ned (mof i) (quf i) sz, (sf i).2) else sf i) := by
          intro i q hi hq
          by_cases e2 : i = j
          · subst e2
            have eq : q = r := by rw [hfj] at hq; cases hq; rfl
            subst eq
            simp only [if_true]
            exact ⟨⟨hb.1, hb.2.1, hcm⟩, fi, me2, se, hfi, hk2⟩
          · have hqp : q ≠ r := fun e => e2 (nu_inj hi hj ((hL i q hi hq).nu (e ▸ hL j r hj hfj)))
            simp only [if_neg e2]
            exact (hL i q hi hq).same (hfr q (Or.inl (hf18 i q hi hq)) hqp)
        refine h_st rfl rfl ?_
        exact h_rt rfl rfl (Or.inr (Or.inr ⟨_, K, j, rfl, hx.up, hfr 0 (Or.inr rfl) (kne hS.1 hKr (by decide)), hx.c1 hS.2.1, (fun q hq => hx.c19 hq), hj, hlj, hfn, hne, hcm, hL2⟩))
      · exact h_th rfl (by omega) (Nat.le_of_ble_eq_true rfl) (Or.inr (Or.inl ⟨rfl, j, hj, hlj, hfn, hne, Nat.lt_of_not_le (fun z => q2 (show nI (sf j).1 + nI (ned (mof j) (quf j) sz) ≤ nI 8 from by rw [nI_add]; exact nI_le z (by decide)))⟩))
    · exact h_th rfl (by omega) (Nat.le_of_ble_eq_true rfl) (Or.inl ⟨rfl, fun j' hj' e' => Or.inr (by rw [nI_inj8 hj' hj (e'.symm.trans hlj)]; exact nI_z hn8 (by rw [Classical.not_not.mp q1]; decide))⟩)
theorem c_86x (hT : Ty σ K) (hS : S0 K) {f : Nat → Option Nat} {gaf hif quf paf : Nat → Int32} {sof mof pof acf waf : Nat → Nat} {sf : Nat → Nat × Int32}{o9 : Nat} {f9 : Nat → Int64} (ho9 : σ.2[o9]? = some (.inl (3, 1, .inr (.inl f9)))) (hKo : K o9 = 0)  (hs : σ.2[1]? = some (.inl (4, rfs 8 f))) (hL : Ls σ f gaf hif quf paf sof mof pof acf waf (sf)) (l sz sd : Int32) : hE ra (d + 7) 86 [.ref 0, .int l, .int sz, .int sd, .ref o9] σ (pI (fun σ' x => (∃ K', Lw o9 K σ K' σ') ∧ σ'.2[0]? = σ.2[0]? ∧ σ'.2[1]? = σ.2[1]? ∧ (∀ q, K q = 19 → σ'.2[q]? = σ.2[q]?) ∧ ((x = 1 ∧ (∀ j, j < 8 → l = nI j → f j = none ∨ ned (mof j) (quf j) sz = 0) ∧ Ls σ' f gaf hif quf paf sof mof pof acf waf (sf)) ∨ (x = 2 ∧ (∃ j, j < 8 ∧ l = nI j ∧ f j ≠ none ∧ ned (mof j) (quf j) sz ≠ 0 ∧ 8 < (sf j).1 + ned (mof j) (quf j) sz) ∧ Ls σ' f gaf hif quf paf sof mof pof acf waf (sf)) ∨ (x = 0 ∧ ∃ j, j < 8 ∧ l = nI j ∧ f j ≠ none ∧ ned (mof j) (quf j) sz ≠ 0 ∧ (sf j).1 + ned (mof j) (quf j) sz ≤ 8 ∧ Ls σ' f gaf hif quf paf sof mof pof acf waf (fun i => if i = j then ((sf i).1 + ned (mof i) (quf i) sz, (sf i).2) else sf i) ∧ ∃ f8, σ'.2[o9]? = some (.inl (3, 1, .inr (.inl (vp_updL f8 (0 : Int32).toNatClampNeg (nI (ned (mof j) (quf j) sz)).toInt64)))))))) := by
  obtain ⟨r, g1, hr⟩ := c_87x (ra := ra) (d := d) hT hS hs hL l sz sd
  rcases hr with ⟨rfl, hw⟩ | ⟨rfl, hw⟩ | ⟨σ', K', j, rfl, hu, hn0, hn1, h19, hj, hlj, hfn, hne, hcm, hL2⟩
  · refine h_in rfl rfl (Nat.le_of_ble_eq_true rfl) ?_
    refine h_st rfl rfl ?_
    refine h_st rfl rfl ?_
    refine h_st rfl rfl ?_
    refine h_st rfl rfl ?_
    refine h_st rfl rfl ?_
    refine h_st rfl rfl ?_
    refine h_cx4 rfl (Nat.le_of_ble_eq_true rfl) (rcv1 hT hS.1) rfl ((⟨_, g1, _, rfl, rfl⟩ : hE ra (d + 6) 87 [.ref 0, .int l, .int sz, .int sd] σ (pX 0 (fun z => z = ((σ.1.1 + 1, σ.1.2 + 6), σ.2))))) rfl (fun σ2 hq => ?_)
    subst hq
    refine h_st rfl rfl ?_
    exact h_rt rfl rfl (⟨_, _, rfl, ⟨K, (Up.thr hT).lw (by decide) (by decide) ho9 hKo⟩, rfl, rfl, fun _ _ => rfl, Or.inl ⟨rfl, hw, hL⟩⟩)
  · refine h_in rfl rfl (Nat.le_of_ble_eq_true rfl) ?_
    refine h_st rfl rfl ?_
    refine h_st rfl rfl ?_
    refine h_st rfl rfl ?_
    refine h_st rfl rfl ?_
    refine h_st rfl rfl ?_
    refine h_st rfl rfl ?_
    refine h_cx4 rfl (Nat.le_of_ble_eq_true rfl) (rcv1 hT hS.1) rfl ((⟨_, g1, _, rfl, rfl⟩ : hE ra (d + 6) 87 [.ref 0, .int l, .int sz, .int sd] σ (pX 1 (fun z => z = ((σ.1.1 + 1, σ.1.2 + 6), σ.2))))) rfl (fun σ2 hq => ?_)
    subst hq
    refine h_st rfl rfl ?_
    exact h_rt rfl rfl (⟨_, _, rfl, ⟨K, (Up.thr hT).lw (by decide) (by decide) ho9 hKo⟩, rfl, rfl, fun _ _ => rfl, Or.inr (Or.inl ⟨rfl, hw, hL⟩)⟩)
  · refine h_in rfl rfl (Nat.le_of_ble_eq_true rfl) ?_
    refine h_st rfl rfl ?_
    refine h_st rfl rfl ?_
    refine h_st rfl rfl ?_
    refine h_st rfl rfl ?_
    refine h_st rfl rfl ?_
    refine h_st rfl rfl ?_
    refine h_ci4 rfl (Nat.le_of_ble_eq_true rfl) (rcv1 hT hS.1) rfl ((⟨_, g1, σ', _, rfl, rfl, rfl⟩ : hE ra (d + 6) 87 [.ref 0, .int l, .int sz, .int sd] σ (pI (fun z y => z = σ' ∧ y = nI (ned (mof j) (quf j) sz))))) (fun σ2 y2 hq => ?_)
    obtain ⟨rfl, rfl⟩ := hq
    have hlw := hu.lw (by decide) (by decide) ho9 hKo
    obtain ⟨f8, ho8⟩ := hlw.2.2.2.2.1
    have hK8 := (hlw.2.2.2.1 o9 (List.getElem?_eq_some_iff.mp ho9).1 hKo).1
    have hf18 := k18_of hT hS hs
    refine h_st rfl rfl ?_
    refine h_st rfl (e_las ho8 (by decide)) ?_
    refine h_st rfl rfl ?_
    refine h_st rfl rfl ?_
    exact h_rt rfl rfl (⟨_, _, rfl, ⟨K', hlw.las hK8 ho8⟩, (st_ne (fun z => by rw [z, hS.1] at hKo; cases hKo)).trans hn0, (st_ne (fun z => by rw [z, hS.2.1] at hKo; cases hKo)).trans hn1, (fun q hq => (st_ne (fun z => by rw [z, hq] at hKo; cases hKo)).trans (h19 q hq)), Or.inr (Or.inr ⟨rfl, j, hj, hlj, hfn, hne, hcm, hL2.same (fun i q hi hq => st_ne (fun z => by rw [z, hf18 i q hi hq] at hKo; cases hKo)), f8, st_get ho8⟩)⟩)
theorem c_92x (hT : Ty σ K) (hS : S0 K) (e l : Int32) : hE ra (d + 6) 92 [.ref 0, .int e, .int l] σ (fun r => (∃ σ' v K', r = (σ', .inl (some (.int v))) ∧ Up 0 0 K σ K' σ' ∧ σ'.2[0]? = σ.2[0]? ∧ σ'.2[1]? = σ.2[1]? ∧ ∀ q, K q = 18 ∨ K q = 19 → σ'.2[q]? = σ.2[q]?) ∨ (∃ x : Nat, x < 1 ∧ r = (((σ.1.1 + 1, σ.1.2 + 6), σ.2), .inr x))) := by
  have hx := Ex.refl (b := true) hT
  obtain ⟨tm, h0⟩ := hT.k1 hS.1
  refine h_in rfl rfl (Nat.le_of_ble_eq_true rfl) ?_
  refine h_st rfl rfl ?_
  refine h_st rfl rfl ?_
  refine h_st rfl rfl ?_
  refine h_cr3 rfl (Nat.le_of_ble_eq_true rfl) (rcv1 hx.ty hS.1) rfl (c_65t hx.ty hS _ _) (fun σ' q9 hq => ?_)
  obtain ⟨rfl, hK⟩ := hq
  rcases q9 with _ | r
  · refine h_st rfl rfl ?_
    refine h_st rfl rfl ?_
    refine h_st rfl rfl ?_
    exact h_th rfl (by omega) (Nat.le_of_ble_eq_true rfl) (Or.inr ⟨0, by decide, rfl⟩)
  · have hKr := hK r rfl
    refine h_st rfl rfl ?_
    refine h_st rfl rfl ?_
    refine h_st rfl rfl ?_
    refine h_st rfl rfl ?_
    refine h_cr1 rfl (Nat.le_of_ble_eq_true rfl) (rcv23 hx.ty hKr) rfl (c_93 (b := true) hx.ty hKr) (fun σ2 q8 hq8 => ?_)
    obtain ⟨hq8, ex⟩ := hq8
    replace h0 := (ex.cs (Or.inl hS.1)).trans h0
    replace hx := hx.trans ex
    rcases q8 with _ | r8
    · refine h_st rfl rfl ?_
      refine h_st rfl rfl ?_
      refine h_st rfl rfl ?_
      refine h_st rfl rfl ?_
      exact h_rt rfl rfl (Or.inl ⟨_, _, K, rfl, hx.up, hx.cs (Or.inl hS.1), hx.c1 hS.2.1, fun q hq => hq.elim (fun h => hx.cs (Or.inr h)) (fun h => hx.c19 h)⟩)
    · have hK8 := hq8 r8 rfl
      obtain ⟨pb, k, hD, hpb⟩ := hx.ty.dr hK8
      obtain ⟨pb6, k6, hD6, hpb6⟩ := hx.ty.dr hS.2.2.2.2.2
      refine h_st rfl rfl ?_
      refine h_st rfl rfl ?_
      refine h_st rfl rfl ?_
      refine h_st rfl rfl ?_
      refine h_st rfl (e_get h0 rfl) ?_
      refine h_st rfl rfl ?_
      refine h_cv2 rfl (Nat.le_of_ble_eq_true rfl) (e_rcv hD6.1) rfl (c_94 hD hD6 (kne hpb6 hK8 (by decide))) (fun σ3 hq => ?_)
      obtain ⟨hD3, o3⟩ := hq
      replace h0 := (o3.2.2 0 (kne hS.1 hS.2.2.2.2.2 (by decide)) (kne hS.1 hpb6 (by decide))).trans h0
      replace hx := hx.opD hS.2.2.2.2.2 hpb6 hD6 hD3 o3
      refine h_st rfl rfl ?_
      refine h_st rfl (e_get h0 rfl) ?_
      refine h_st rfl (e_get hD3.1 rfl) ?_
      refine h_st rfl rfl ?_
      refine h_st rfl rfl ?_
      exact h_rt rfl rfl (Or.inl ⟨_, _, K, rfl, hx.up, hx.cs (Or.inl hS.1), hx.c1 hS.2.1, fun q hq => hq.elim (fun h => hx.cs (Or.inr h)) (fun h => hx.c19 h)⟩)
theorem c_91x (hT : Ty σ K) (hS : S0 K) {o9 : Nat} {f9 : Nat → Int64} (ho9 : σ.2[o9]? = some (.inl (3, 1, .inr (.inl f9)))) (hKo : K o9 = 0) (e l : Int32) : hE ra (d + 7) 91 [.ref 0, .int e, .int l, .ref o9] σ (pI (fun σ' _ => (∃ K', Lw o9 K σ K' σ') ∧ σ'.2[0]? = σ.2[0]? ∧ σ'.2[1]? = σ.2[1]? ∧ ∀ q, K q = 18 ∨ K q = 19 → σ'.2[q]? = σ.2[q]?)) := by
  obtain ⟨r, g1, hr⟩ := c_92x (ra := ra) (d := d) hT hS e l
  rcases hr with ⟨σ', v, K', rfl, hu, hn0, hn1, h18⟩ | ⟨x, hx, rfl⟩
  · refine h_in rfl rfl (Nat.le_of_ble_eq_true rfl) ?_
    refine h_st rfl rfl ?_
    refine h_st rfl rfl ?_
    refine h_st rfl rfl ?_
    refine h_st rfl rfl ?_
    refine h_st rfl rfl ?_
    refine h_ci3 rfl (Nat.le_of_ble_eq_true rfl) (rcv1 hT hS.1) rfl ((⟨_, g1, σ', v, rfl, rfl, rfl⟩ : hE ra (d + 6) 92 [.ref 0, .int e, .int l] σ (pI (fun z y => z = σ' ∧ y = v)))) (fun σ2 y2 hq => ?_)
    obtain ⟨rfl, rfl⟩ := hq
    have hlw := hu.lw (by decide) (by decide) ho9 hKo
    obtain ⟨f8, ho8⟩ := hlw.2.2.2.2.1
    have hK8 := (hlw.2.2.2.1 o9 (List.getElem?_eq_some_iff.mp ho9).1 hKo).1
    refine h_st rfl rfl ?_
    refine h_st rfl (e_las ho8 (by decide)) ?_
    refine h_st rfl rfl ?_
    refine h_st rfl rfl ?_
    exact h_rt rfl rfl (⟨_, _, rfl, ⟨K', hlw.las hK8 ho8⟩, (st_ne (fun z => by rw [z, hS.1] at hKo; cases hKo)).trans hn0, (st_ne (fun z => by rw [z, hS.2.1] at hKo; cases hKo)).trans hn1, fun q hq => (st_ne (fun z => by rw [← z] at hq; omega)).trans (h18 q hq)⟩)
  · have hx2 : x = 0 := by omega
    subst hx2
    refine h_in rfl rfl (Nat.le_of_ble_eq_true rfl) ?_
    refine h_st rfl rfl ?_
    refine h_st rfl rfl ?_
    refine h_st rfl rfl ?_
    refine h_st rfl rfl ?_
    refine h_st rfl rfl ?_
    refine h_cx3 rfl (Nat.le_of_ble_eq_true rfl) (rcv1 hT hS.1) rfl ((⟨_, g1, _, rfl, rfl⟩ : hE ra (d + 6) 92 [.ref 0, .int e, .int l] σ (pX 0 (fun z => z = ((σ.1.1 + 1, σ.1.2 + 6), σ.2))))) rfl (fun σ2 hq => ?_)
    subst hq
    refine h_st rfl rfl ?_
    exact h_rt rfl rfl (⟨_, _, rfl, ⟨K, (Up.thr hT).lw (by decide) (by decide) ho9 hKo⟩, rfl, rfl, fun _ _ => rfl⟩)
theorem c_80x (hT : Ty σ K) (hS : S0 K) {f : Nat → Option Nat} (hs : σ.2[1]? = some (.inl (4, rfs 8 f))) (l so ga mo ta fl : Int32) : hE ra (d + 6) 80 [.ref 0, .int l, .int so, .int ga, .int mo, .int ta, .int fl] σ (fun r => (∃ σ' K' j q, r = (σ', .inl none) ∧ Up 0 0 K σ K' σ' ∧ σ'.2[0]? = σ.2[0]? ∧ okL l so ga mo ta fl ∧ j < 8 ∧ l = nI j ∧ f j = none ∧ σ'.2[1]? = some (.inl (4, rfs 8 (va_up f j (some q)))) ∧ (∀ q, K q = 18 ∨ K q = 19 → σ'.2[q]? = σ.2[q]?) ∧ ∃ so9 mo9 hv po ac wa, so = nI so9 ∧ mo = nI mo9 ∧ Lk σ' q (nI j) (1 <<< (ga &&& 31)) hv (if fl &&& 2 = 0 then 0 else 1) (pths so9 ta 4) 0 so9 mo9 po ac wa 0 ∧ ∃ pf, σ'.2[po]? = some (.inl (7, rfs 4 pf)) ∧ ∀ e, e < 4 → (pf e = none ↔ (ta >>> (nI e &&& 31)) &&& 1 = 0)) ∨ (r = (((σ.1.1 + 1, σ.1.2 + 6), σ.2), .inr 0) ∧ ¬ okL l so ga mo ta fl) ∨ (r = (((σ.1.1 + 1, σ.1.2 + 6), σ.2), .inr 1) ∧ okL l so ga mo ta fl ∧ ∃ j, j < 8 ∧ l = nI j ∧ f j ≠ none)) := by
  obtain ⟨tm, h0⟩ := hT.k1 hS.1
  have hf := k18_of hT hS hs
  have hx := Ex.refl (b := true) hT
  refine h_in rfl rfl (Nat.le_of_ble_eq_true rfl) ?_
  refine h_st rfl rfl ?_
  refine h_ci1 rfl (Nat.le_of_ble_eq_true rfl) rfl rfl (s_38 l) (fun σ' b1 hq => ?_)
  obtain ⟨hss, hb1⟩ := hq
  replace hss := hss.symm
  subst hss
  refine h_st rfl rfl ?_
  refine h_br (fun q1 => ?_) (fun q1 => ?_)
  · exact h_th rfl (by omega) (Nat.le_of_ble_eq_true rfl) (Or.inr (Or.inl ⟨rfl, fun z => absurd q1 (b_1 hb1 ⟨z.1, z.2.1⟩)⟩))
  · refine h_st rfl rfl ?_
    refine h_ci1 rfl (Nat.le_of_ble_eq_true rfl) rfl rfl (s_40 so) (fun σ' b1 hq => ?_)
    obtain ⟨hss, hb2⟩ := hq
    replace hss := hss.symm
    subst hss
    refine h_st rfl rfl ?_
    refine h_br (fun q2 => ?_) (fun q2 => ?_)
    · exact h_th rfl (by omega) (Nat.le_of_ble_eq_true rfl) (Or.inr (Or.inl ⟨rfl, fun z => absurd q2 (b_1 hb2 ⟨z.2.2.1, z.2.2.2.1⟩)⟩))
    · refine h_st rfl rfl ?_
      refine h_st rfl rfl ?_
      refine h_st rfl rfl ?_
      refine h_br (fun q3 => ?_) (fun q3 => ?_)
      · exact h_th rfl (by omega) (Nat.le_of_ble_eq_true rfl) (Or.inr (Or.inl ⟨rfl, fun z => z.2.2.2.2.1 q3⟩))
      · refine h_st rfl rfl ?_
        refine h_st rfl rfl ?_
        refine h_st rfl rfl ?_
        refine h_br (fun q4 => ?_) (fun q4 => ?_)
        · exact h_th rfl (by omega) (Nat.le_of_ble_eq_true rfl) (Or.inr (Or.inl ⟨rfl, fun z => z.2.2.2.2.2.1 q4⟩))
        · refine h_st rfl rfl ?_
          refine h_st rfl rfl ?_
          refine h_st rfl rfl ?_
          refine h_br (fun q5 => ?_) (fun q5 => ?_)
          · exact h_th rfl (by omega) (Nat.le_of_ble_eq_true rfl) (Or.inr (Or.inl ⟨rfl, fun z => z.2.2.2.2.2.2.1 q5⟩))
          · refine h_st rfl rfl ?_
            refine h_st rfl rfl ?_
            refine h_st rfl rfl ?_
            refine h_br (fun q6 => ?_) (fun q6 => ?_)
            · exact h_th rfl (by omega) (Nat.le_of_ble_eq_true rfl) (Or.inr (Or.inl ⟨rfl, fun z => z.2.2.2.2.2.2.2.1 q6⟩))
            · refine h_st rfl rfl ?_
              refine h_st rfl rfl ?_
              refine h_ci2 rfl (Nat.le_of_ble_eq_true rfl) rfl rfl (s_81 ta so) (fun σ' b1 hq => ?_)
              obtain ⟨hss, hb3⟩ := hq
              replace hss := hss.symm
              subst hss
              refine h_st rfl rfl ?_
              refine h_br (fun q7 => ?_) (fun q7 => ?_)
              · exact h_th rfl (by omega) (Nat.le_of_ble_eq_true rfl) (Or.inr (Or.inl ⟨rfl, fun z => absurd q7 (b_1 hb3 z.2.2.2.2.2.2.2.2.1)⟩))
              · refine h_st rfl rfl ?_
                refine h_ci1 rfl (Nat.le_of_ble_eq_true rfl) rfl rfl (s_82 fl) (fun σ' b1 hq => ?_)
                obtain ⟨hss, hb4⟩ := hq
                replace hss := hss.symm
                subst hss
                refine h_st rfl rfl ?_
                refine h_br (fun q8 => ?_) (fun q8 => ?_)
                · have hok : okL l so ga mo ta fl := ⟨(b_2 hb1 q1).1, (b_2 hb1 q1).2, (b_2 hb2 q2).1, (b_2 hb2 q2).2, q3, q4, q5, q6, b_2 hb3 q7, b_2 hb4 q8⟩
                  obtain ⟨j, hj, rfl⟩ := i_ix (n := 8) (by decide) (b_2 hb1 q1).1 (b_2 hb1 q1).2
                  obtain ⟨i, hi, rfl⟩ := i_ix (n := 4) (by decide) (b_2 hb2 q2).1 (b_2 hb2 q2).2
                  obtain ⟨m, hm, rfl⟩ := nI_of2 (x := mo) (M := 128) (n := 128) (by decide) (fun z => q5 (Int32.lt_trans z (by decide))) (Int32.not_lt.mp q6)
                  have hm2 : 64 ≤ m := Nat.le_of_not_lt (fun z => q5 ((nI_ltI (by omega) (by decide)).mpr z))
                  have hin : ¬ (nI j < 0 ∨ 8 ≤ (nI j).toNatClampNeg) := nI_in hj (by decide)
                  have ej : (nI j).toNatClampNeg = j := nI_clamp (by omega)
                  cases hv : f (nI j).toNatClampNeg with
                  | some q =>
                    refine h_st rfl rfl ?_
                    refine h_st rfl (e_get h0 rfl) ?_
                    refine h_st rfl rfl ?_
                    refine h_st rfl ((e_aa hs (by decide) hin).trans (by rw [hv])) ?_
                    refine h_st rfl rfl ?_
                    exact h_th rfl (by omega) (Nat.le_of_ble_eq_true rfl) (Or.inr (Or.inr ⟨rfl, hok, j, hj, rfl, by rw [← ej, hv]; exact fun y => by cases y⟩))
                  | none =>
                    refine h_st rfl rfl ?_
                    refine h_st rfl (e_get h0 rfl) ?_
                    refine h_st rfl rfl ?_
                    refine h_st rfl ((e_aa hs (by decide) hin).trans (by rw [hv])) ?_
                    refine h_st rfl rfl ?_
                    refine h_st rfl rfl ?_
                    refine h_st rfl (e_get h0 rfl) ?_
                    refine h_st rfl rfl ?_
                    refine h_st rfl rfl ?_
                    have hz9 := ty_z hT (Nat.le_refl _)
                    have l1 := hT.lt (p := 1) (by rw [hS.2.1]; decide)
                    replace hx := hx.push (x := .inr (4, cd_Link)) (n := 15) (a := 0) (e := 0) rfl
                    have hnew : (((σ.1.1 + 1, σ.1.2 + 15), σ.2 ++ [.inr (4, cd_Link)]) : ae_S).2[σ.2.length]? = some (.inr (4, cd_Link)) := by simp
                    have hl1 : (((σ.1.1 + 1, σ.1.2 + 15), σ.2 ++ [.inr (4, cd_Link)]) : ae_S).2.length = σ.2.length + 1 := by simp
                    refine h_st rfl rfl ?_
                    refine h_st rfl rfl ?_
                    refine h_st rfl rfl ?_
                    refine h_st rfl rfl ?_
                    refine h_st rfl rfl ?_
                    refine h_st rfl rfl ?_
                    refine h_st rfl rfl ?_
                    refine h_st rfl rfl ?_
                    refine h_st rfl rfl ?_
                    refine h_cv7 rfl (Nat.le_of_ble_eq_true rfl) (e_rcv hnew) rfl (c_83t hi rfl ⟨hm2, hm⟩ hx (Nat.le_refl _) hz9 hnew) (fun σ2 hq => ?_)
                    obtain ⟨K2, hx2, hK2, ⟨hv9, po9, ac9, wa9, ⟨pf9, hpf9, hpe9⟩, hK19, hk9⟩, hf2⟩ := hq
                    rw [hl1] at hf2
                    have f1 := hf2 1 (by omega) (by omega)
                    have hs2 := f1.2.trans ((List.getElem?_append_left l1).trans hs)
                    have hn9 := nl_lt (f := f) (q := σ.2.length) hv (n := 8) (by omega)
                    have hne1 : σ.2.length ≠ 1 := by omega
                    refine h_st rfl (e_aas hs2 hk9 (by decide) hin) ?_
                    exact h_rv rfl (Or.inl ⟨_, K2, j, σ.2.length, rfl, (hx2.le (s' := 0 + 100) (t' := 0 + 25000) (by omega) (by omega)).upN hs2 (by rw [f1.1, hS.2.1]; decide) (by rw [f1.1, hS.2.1]; exact ok_2 ⟨_, rfl, up_kd (fun i r hi hr => (hx2.kd (hf i r hi hr) (by decide))) hK2⟩) ⟨by show 100 * nl _ 8 + 100 ≤ 100 * nl f 8; omega, by show 25000 * nl _ 8 + 25000 ≤ 25000 * nl f 8; omega⟩, (st_ne (by decide)).trans ((hf2 0 (by omega) (by omega)).2.trans (List.getElem?_append_left (by omega))), hok, hj, rfl, by rw [← ej]; exact hv, (st_get hs2).trans (by rw [ej]), fun q hq => (st_ne (fun e => by rw [← e, hS.2.1] at hq; omega)).trans ((hf2 q (by have := hT.lt (p := q) (by omega); omega) (by have := hT.lt (p := q) (by omega); omega)).2.trans (List.getElem?_append_left (hT.lt (by omega)))), i, m, hv9, po9, ac9, wa9, rfl, rfl, ⟨⟨hi, ⟨hm2, hm⟩, by decide⟩, 0, 0, -1, by decide, (st_ne (Ne.symm hne1)).trans hk9⟩, pf9, (st_ne (fun e => by rw [← e, f1.1, hS.2.1] at hK19; cases hK19)).trans hpf9, hpe9⟩)
                · exact h_th rfl (by omega) (Nat.le_of_ble_eq_true rfl) (Or.inr (Or.inl ⟨rfl, fun z => q8 (b_1 hb4 z.2.2.2.2.2.2.2.2.2)⟩))
theorem c_79x (hT : Ty σ K) (hS : S0 K) {f : Nat → Option Nat} {o9 : Nat} {f9 : Nat → Int64} (ho9 : σ.2[o9]? = some (.inl (3, 1, .inr (.inl f9)))) (hKo : K o9 = 0) (hs : σ.2[1]? = some (.inl (4, rfs 8 f))) (l so ga mo ta fl : Int32) : hE ra (d + 7) 79 [.ref 0, .int l, .int so, .int ga, .int mo, .int ta, .int fl] σ (pI (fun σ' x => (∃ K', Lw o9 K σ K' σ') ∧ σ'.2[0]? = σ.2[0]? ∧ (∀ q, K q = 18 ∨ K q = 19 → σ'.2[q]? = σ.2[q]?) ∧ ((x = 0 ∧ okL l so ga mo ta fl ∧ ∃ j q, j < 8 ∧ l = nI j ∧ f j = none ∧ σ'.2[1]? = some (.inl (4, rfs 8 (va_up f j (some q)))) ∧ ∃ so9 mo9 hv po ac wa, so = nI so9 ∧ mo = nI mo9 ∧ Lk σ' q (nI j) (1 <<< (ga &&& 31)) hv (if fl &&& 2 = 0 then 0 else 1) (pths so9 ta 4) 0 so9 mo9 po ac wa 0 ∧ ∃ pf, σ'.2[po]? = some (.inl (7, rfs 4 pf)) ∧ ∀ e, e < 4 → (pf e = none ↔ (ta >>> (nI e &&& 31)) &&& 1 = 0)) ∨ (x = 1 ∧ ¬ okL l so ga mo ta fl ∧ σ'.2[1]? = σ.2[1]?) ∨ (x = 2 ∧ okL l so ga mo ta fl ∧ σ'.2[1]? = σ.2[1]? ∧ ∃ j, j < 8 ∧ l = nI j ∧ f j ≠ none)))) := by
  obtain ⟨r, g1, hr⟩ := c_80x (ra := ra) (d := d) hT hS hs l so ga mo ta fl
  rcases hr with ⟨σ', K', j, q, rfl, hu, hn0, hok, hj, hlj, hfj, hs2, h18, hnl⟩ | ⟨rfl, hno⟩ | ⟨rfl, hok, hx2⟩
  · refine h_in rfl rfl (Nat.le_of_ble_eq_true rfl) ?_
    refine h_st rfl rfl ?_
    refine h_st rfl rfl ?_
    refine h_st rfl rfl ?_
    refine h_st rfl rfl ?_
    refine h_st rfl rfl ?_
    refine h_st rfl rfl ?_
    refine h_st rfl rfl ?_
    refine h_cv7 rfl (Nat.le_of_ble_eq_true rfl) (rcv1 hT hS.1) rfl ((⟨_, g1, σ', rfl, rfl⟩ : hE ra (d + 6) 80 [.ref 0, .int l, .int so, .int ga, .int mo, .int ta, .int fl] σ (pV (fun z => z = σ')))) (fun σ2 hq => ?_)
    subst hq
    refine h_st rfl rfl ?_
    refine h_st rfl rfl ?_
    exact h_rt rfl rfl (⟨_, _, rfl, ⟨K', hu.lw (by decide) (by decide) ho9 hKo⟩, hn0, h18, Or.inl ⟨rfl, hok, j, q, hj, hlj, hfj, hs2, hnl⟩⟩)
  · refine h_in rfl rfl (Nat.le_of_ble_eq_true rfl) ?_
    refine h_st rfl rfl ?_
    refine h_st rfl rfl ?_
    refine h_st rfl rfl ?_
    refine h_st rfl rfl ?_
    refine h_st rfl rfl ?_
    refine h_st rfl rfl ?_
    refine h_st rfl rfl ?_
    refine h_cx7 rfl (Nat.le_of_ble_eq_true rfl) (rcv1 hT hS.1) rfl ((⟨_, g1, _, rfl, rfl⟩ : hE ra (d + 6) 80 [.ref 0, .int l, .int so, .int ga, .int mo, .int ta, .int fl] σ (pX 0 (fun z => z = ((σ.1.1 + 1, σ.1.2 + 6), σ.2))))) rfl (fun σ2 hq => ?_)
    subst hq
    refine h_st rfl rfl ?_
    exact h_rt rfl rfl (⟨_, _, rfl, ⟨K, (Up.thr hT).lw (by decide) (by decide) ho9 hKo⟩, rfl, fun _ _ => rfl, Or.inr (Or.inl ⟨rfl, hno, rfl⟩)⟩)
  · refine h_in rfl rfl (Nat.le_of_ble_eq_true rfl) ?_
    refine h_st rfl rfl ?_
    refine h_st rfl rfl ?_
    refine h_st rfl rfl ?_
    refine h_st rfl rfl ?_
    refine h_st rfl rfl ?_
    refine h_st rfl rfl ?_
    refine h_st rfl rfl ?_
    refine h_cx7 rfl (Nat.le_of_ble_eq_true rfl) (rcv1 hT hS.1) rfl ((⟨_, g1, _, rfl, rfl⟩ : hE ra (d + 6) 80 [.ref 0, .int l, .int so, .int ga, .int mo, .int ta, .int fl] σ (pX 1 (fun z => z = ((σ.1.1 + 1, σ.1.2 + 6), σ.2))))) rfl (fun σ2 hq => ?_)
    subst hq
    refine h_st rfl rfl ?_
    exact h_rt rfl rfl (⟨_, _, rfl, ⟨K, (Up.thr hT).lw (by decide) (by decide) ho9 hKo⟩, rfl, fun _ _ => rfl, Or.inr (Or.inr ⟨rfl, hok, rfl, hx2⟩)⟩)
theorem c_72x (hT : Ty σ K) (hS : S0 K) {f : Nat → Option Nat} {gaf hif quf paf : Nat → Int32} {sof mof pof acf waf : Nat → Nat} {sf : Nat → Nat × Int32} (hs : σ.2[1]? = some (.inl (4, rfs 8 f))) (hL : Ls σ f gaf hif quf paf sof mof pof acf waf (sf)) (l : Int32) : hE ra (d + 3) 72 [.ref 0, .int l] σ (pI (fun σ' x => σ' = σ ∧ ((x = -1 ∧ ∀ j, j < 8 → l = nI j → f j = none) ∨ ∃ j, j < 8 ∧ l = nI j ∧ f j ≠ none ∧ x = nI (sf j).1))) := by
  refine h_in rfl rfl (Nat.le_of_ble_eq_true rfl) ?_
  refine h_st rfl rfl ?_
  refine h_st rfl rfl ?_
  refine h_cr2 rfl (Nat.le_of_ble_eq_true rfl) (rcv1 hT hS.1) rfl (c_37t hT hS l) (fun σ' q9 hq => ?_)
  obtain ⟨hss, hq⟩ := hq
  replace hss := hss.symm
  subst hss
  rcases q9 with _ | r
  · refine h_st rfl rfl ?_
    refine h_st rfl rfl ?_
    refine h_st rfl rfl ?_
    refine h_st rfl rfl ?_
    refine h_st rfl rfl ?_
    exact h_rt rfl rfl (⟨_, _, rfl, rfl, Or.inl ⟨rfl, lk_none hs hq⟩⟩)
  · obtain ⟨j, hj, hlj, hfj⟩ := lk_some hs hq
    obtain ⟨hb, fi, me, se, hfi, hk⟩ := hL j r hj hfj
    refine h_st rfl rfl ?_
    refine h_st rfl rfl ?_
    refine h_st rfl rfl ?_
    refine h_st rfl rfl ?_
    refine h_st rfl (e_get hk rfl) ?_
    exact h_rt rfl rfl (⟨_, _, rfl, rfl, Or.inr ⟨j, hj, hlj, by rw [hfj]; exact (fun z => by cases z), rfl⟩⟩)
end TYE
