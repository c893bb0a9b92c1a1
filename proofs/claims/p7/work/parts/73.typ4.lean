section TY4
variable {ra : ae_R} {d : Nat} {σ σ0 : ae_S} {p : Nat} {K K0 : Nat → Nat} {b : Bool} {n : Nat}
theorem y_putI {mid pc np s t : Nat} {L : ae_Ls} {k : List Value} {P : ae_S × ae_O → Prop} {ci kk kd : Nat} {ok : Value → Bool} {fs : List Value} {x y : Int32} (he : x = y) (ht : ae_tab (at0 mid) pc = some (.inl (o_put ci kk ok np))) (hx : Ex b s t K0 σ0 K σ) (hp : σ.2[p]? = some (.inr (ci, fs))) (hk : K p = kd) (h0 : kd ≠ 0) (hcs : ¬ Cs b kd) (hv : ok (.int y) = true) (hl : kk < fs.length) (hok : okC K kd (.inr (ci, fs.set kk (.int y))))
    (hc : ∀ σ', Ex b s t K0 σ0 K σ' → σ'.2[p]? = some (.inr (ci, fs.set kk (.int y))) → (∀ q, q ≠ p → σ'.2[q]? = σ.2[q]?) → hG ra d mid σ' L k np P) : hG ra d mid σ L (.int x :: .ref p :: k) pc P := by
  subst he
  exact y_put ht hx hp hk h0 hcs hv hl hok hc
theorem up_kd {f : Nat → Option Nat} {i r kd : Nat} (hf : ∀ j q, j < n → f j = some q → K q = kd) (hr : K r = kd) : ∀ j q, j < n → va_up f i (some r) j = some q → K q = kd := by
  intro j q hj hq
  by_cases e : j = i
  · rw [show va_up f i (some r) j = some r by simp [va_up, e]] at hq
    cases hq
    exact hr
  · rw [show va_up f i (some r) j = f j by simp [va_up, e]] at hq
    exact hf j q hj hq
theorem kne {q : Nat} {a c : Nat} (h1 : K p = a) (h2 : K q = c) (h : a ≠ c) : p ≠ q := fun e => h (by rw [← h1, ← h2, e])
theorem k_2s (hp : σ.2[p]? = some (.inr (2, cd_Frame))) : hE ra (d + 1) 2 [.ref p] σ (pV (fun σ' => St σ p σ' (σ.1.1 + 1, σ.1.2 + 200) (σ.2.length + 1) [(p, .inr (2, [.ref σ.2.length, .int 0])), (σ.2.length, .inl (1, 200, .inl (fun _ => 0)))])) := by
  have hplt := (List.getElem?_eq_some_iff.mp hp).1
  have hs := St.ini hp
  refine h_in rfl rfl (Nat.le_of_ble_eq_true rfl) ?_
  refine h_st rfl rfl ?_
  refine h_st rfl rfl ?_
  refine h_st rfl rfl ?_
  refine h_st rfl rfl ?_
  refine t_na rfl hs (by decide) (fun σ hs2 => ?_)
  replace hs := hs2
  clear hs2
  refine t_put 0 rfl hs rfl (And.intro (by first | omega | (dsimp only; omega)) trivial) (rfl) (Nat.le_of_ble_eq_true rfl) (fun σ hs2 => ?_)
  replace hs := hs2
  clear hs2
  refine h_st rfl rfl ?_
  refine h_st rfl rfl ?_
  refine t_put 0 rfl hs rfl (And.intro (by first | omega | (dsimp only; omega)) trivial) (rfl) (Nat.le_of_ble_eq_true rfl) (fun σ hs2 => ?_)
  replace hs := hs2
  clear hs2
  exact h_rv rfl (⟨_, rfl, hs⟩)
theorem k_3s (hp : σ.2[p]? = some (.inr (0, cd_Datagram))) : hE ra (d + 1) 3 [.ref p] σ (pV (fun σ' => St σ p σ' (σ.1.1 + 1, σ.1.2 + 1000) (σ.2.length + 1) [(p, .inr (0, [.ref σ.2.length, .int 0])), (σ.2.length, .inl (1, 1000, .inl (fun _ => 0)))])) := by
  have hplt := (List.getElem?_eq_some_iff.mp hp).1
  have hs := St.ini hp
  refine h_in rfl rfl (Nat.le_of_ble_eq_true rfl) ?_
  refine h_st rfl rfl ?_
  refine h_st rfl rfl ?_
  refine h_st rfl rfl ?_
  refine h_st rfl rfl ?_
  refine t_na rfl hs (by decide) (fun σ hs2 => ?_)
  replace hs := hs2
  clear hs2
  refine t_put 0 rfl hs rfl (And.intro (by first | omega | (dsimp only; omega)) trivial) (rfl) (Nat.le_of_ble_eq_true rfl) (fun σ hs2 => ?_)
  replace hs := hs2
  clear hs2
  refine h_st rfl rfl ?_
  refine h_st rfl rfl ?_
  refine t_put 0 rfl hs rfl (And.intro (by first | omega | (dsimp only; omega)) trivial) (rfl) (Nat.le_of_ble_eq_true rfl) (fun σ hs2 => ?_)
  replace hs := hs2
  clear hs2
  exact h_rv rfl (⟨_, rfl, hs⟩)
theorem c_8t (hT : Ty σ K) (hn : n ≤ 16) (hp : K p = 100 + n) : hE ra (d + 1) 8 [.ref p] σ (pI (fun σ' _ => σ' = σ)) := by
  obtain ⟨q, a, bb, h1, hab, hq⟩ := hT.kR hn hp
  refine h_in rfl rfl (Nat.le_of_ble_eq_true rfl) ?_
  refine h_st rfl rfl ?_
  refine h_st rfl (e_get h1 rfl) ?_
  refine h_st rfl rfl ?_
  refine h_br (fun q => ?_) (fun q => ?_)
  · refine h_st rfl rfl ?_
    exact h_rt rfl rfl (⟨_, _, rfl, rfl⟩)
  · refine h_st rfl rfl ?_
    refine h_st rfl rfl ?_
    exact h_rt rfl rfl (⟨_, _, rfl, rfl⟩)
theorem lt_of_nI {a c : Nat} (ha : a + 1 < 2 ^ 31) (hc : c < 2 ^ 31) (h : nI a + 1 < nI c) : a + 1 < c := by
  rw [nI_1] at h
  exact (nI_ltI ha hc).mp h
theorem c_61 {fr : Nat} (hT : Ty σ K) (hn : n ≤ 16) (hp : K p = 100 + n) (hfr : K fr = 5) : hE ra (d + 1) 61 [.ref p, .ref fr] σ (pR (fun σ' q => ∃ r, q = some r ∧ K r = 5 ∧ Ex b 0 0 K σ K σ')) := by
  have hx := Ex.refl (b := b) hT
  obtain ⟨q, a, bb, h1, hab, hq⟩ := hT.kR hn hp
  obtain ⟨f, hs, hf⟩ := hT.kS hn hq
  obtain ⟨fq, fk, hfc, -⟩ := hT.k5 hfr
  have hpq : p ≠ q := kne hp hq (by omega)
  refine h_in rfl rfl (Nat.le_of_ble_eq_true rfl) ?_
  refine h_st rfl rfl ?_
  refine h_st rfl (e_get h1 rfl) ?_
  refine h_st rfl rfl ?_
  refine h_br (fun q0 => ?_) (fun q0 => ?_)
  · refine h_st rfl rfl ?_
    exact h_rt rfl rfl (⟨_, some fr, rfl, fr, rfl, hfr, Ex.refl hT⟩)
  · obtain ⟨b', rfl⟩ : ∃ b', bb = b' + 1 := ⟨bb - 1, by cases bb with | zero => exact absurd nI_0 q0 | succ m => rfl⟩
    have han : a < n := by omega
    have hin : ¬ (nI a < 0 ∨ n ≤ (nI a).toNatClampNeg) := nI_in han (by omega)
    refine h_st rfl rfl ?_
    refine h_st rfl (e_get h1 rfl) ?_
    refine h_st rfl rfl ?_
    refine h_st rfl (e_get h1 rfl) ?_
    refine h_st rfl (e_aa hs (by decide) hin) ?_
    refine h_nul rfl (fun hn1 => ?_) (fun r hr => ?_)
    · refine h_st rfl rfl ?_
      exact h_rt rfl rfl (⟨_, some fr, rfl, fr, rfl, hfr, Ex.refl hT⟩)
    · have hKr : K r = 5 := hf a r han (by rw [nI_clamp (by omega)] at hr; exact hr)
      refine h_st rfl rfl ?_
      refine h_st rfl (e_get h1 rfl) ?_
      refine h_st rfl rfl ?_
      refine h_st rfl (e_get h1 rfl) ?_
      refine h_st rfl ((e_aa hs (by decide) hin).trans (by rw [hr])) ?_
      refine h_st rfl rfl ?_
      refine h_st rfl rfl ?_
      refine h_st rfl (e_get h1 rfl) ?_
      refine h_st rfl rfl ?_
      refine h_st rfl (e_get h1 rfl) ?_
      refine h_st rfl rfl ?_
      refine y_aas rfl hx hs hfc (by decide) hq (by omega) (ncs (by omega)) hin (ok_S hn ⟨_, rfl, up_kd hf hfr⟩) (fun σ2 hx2 g2 ho => ?_)
      replace h1 := (ho p hpq).trans h1
      replace hs := g2
      clear g2 ho
      replace hx := hx2
      clear hx2
      refine h_st rfl rfl ?_
      refine h_st rfl rfl ?_
      refine h_st rfl (e_get h1 rfl) ?_
      refine h_st rfl rfl ?_
      refine h_st rfl rfl ?_
      refine y_putI (nI_pred b') rfl hx h1 hp (by omega) (ncs (by omega)) (rfl) (Nat.le_of_ble_eq_true rfl) (ok_R hn ⟨q, a, b', rfl, by omega, hq⟩) (fun σ2 hx2 g2 ho => ?_)
      replace hs := (ho q (Ne.symm hpq)).trans hs
      replace h1 := g2
      clear g2 ho
      replace hx := hx2
      clear hx2
      refine h_st rfl rfl ?_
      refine h_st rfl rfl ?_
      refine h_st rfl (e_get h1 rfl) ?_
      refine h_st rfl rfl ?_
      refine h_br (fun q1 => ?_) (fun q1 => ?_)
      · refine h_st rfl rfl ?_
        refine h_st rfl rfl ?_
        refine y_putI (rfl) rfl hx h1 hp (by omega) (ncs (by omega)) (rfl) (Nat.le_of_ble_eq_true rfl) (ok_R hn ⟨q, 0, b', rfl, by omega, hq⟩) (fun σ2 hx2 g2 ho => ?_)
        replace h1 := g2
        clear g2 ho
        replace hx := hx2
        clear hx2
        refine h_st rfl rfl ?_
        exact h_rt rfl rfl (⟨_, some r, rfl, r, rfl, hKr, hx⟩)
      · refine h_st rfl rfl ?_
        refine h_st rfl (e_get h1 rfl) ?_
        refine h_st rfl rfl ?_
        refine h_st rfl rfl ?_
        refine h_st rfl rfl ?_
        refine h_st rfl (e_get h1 rfl) ?_
        refine h_st rfl (e_len hs (by decide)) ?_
        refine h_st rfl rfl ?_
        refine h_br (fun q2 => ?_) (fun q2 => ?_)
        · refine h_st rfl rfl ?_
          refine h_st rfl (e_get h1 rfl) ?_
          refine h_st rfl rfl ?_
          refine h_st rfl rfl ?_
          refine y_putI (nI_1 a) rfl hx h1 hp (by omega) (ncs (by omega)) (rfl) (Nat.le_of_ble_eq_true rfl) (ok_R hn ⟨q, (a + 1), b', rfl, by have := lt_of_nI (by omega) (by omega) (show nI a + 1 < nI n from q2); omega, hq⟩) (fun σ2 hx2 g2 ho => ?_)
          replace h1 := g2
          clear g2 ho
          replace hx := hx2
          clear hx2
          refine h_st rfl rfl ?_
          exact h_rt rfl rfl (⟨_, some r, rfl, r, rfl, hKr, hx⟩)
        · refine h_st rfl rfl ?_
          refine h_st rfl rfl ?_
          refine y_putI (rfl) rfl hx h1 hp (by omega) (ncs (by omega)) (rfl) (Nat.le_of_ble_eq_true rfl) (ok_R hn ⟨q, 0, b', rfl, by omega, hq⟩) (fun σ2 hx2 g2 ho => ?_)
          replace h1 := g2
          clear g2 ho
          replace hx := hx2
          clear hx2
          refine h_st rfl rfl ?_
          exact h_rt rfl rfl (⟨_, some r, rfl, r, rfl, hKr, hx⟩)
theorem c_29c {fr q a bb j r : Nat} {f : Nat → Option Nat} (hx : Ex b 0 0 K0 σ0 K σ) (hn : n ≤ 16) (hp : K p = 100 + n) (hfr : K fr = 5) (h1 : σ.2[p]? = some (.inr (6, [.ref q, .int (nI a), .int (nI bb)]))) (hab : bb < n ∧ (a < n ∨ a = 0)) (hq : K q = 200 + n) (hs : σ.2[q]? = some (.inl (6, rfs n f))) (hj : j < n) (hr : f (nI j).toNatClampNeg = some r) (hKr : K r = 5) : hG ra (d + 1) 29 σ [some (.ref p), some (.ref fr), some (.int (nI j))] [] 81 (pI (fun σ' _ => ∃ K', Ex b 0 0 K0 σ0 K' σ')) := by
  have hin : ¬ (nI j < 0 ∨ n ≤ (nI j).toNatClampNeg) := nI_in hj (by omega)
  obtain ⟨fb, fk, hF, hfb⟩ := hx.ty.fr hfr
  obtain ⟨rb, rk, hG, hrb⟩ := hx.ty.fr hKr
  have e1 := kne hp hKr (by omega)
  have e2 := kne hp hrb (by omega)
  refine h_st rfl rfl ?_
  refine h_st rfl (e_get h1 rfl) ?_
  refine h_st rfl rfl ?_
  refine h_st rfl ((e_aa hs (by decide) hin).trans (by rw [hr])) ?_
  refine h_st rfl rfl ?_
  refine h_cv2 rfl (Nat.le_of_ble_eq_true rfl) (e_rcv (hG.1)) rfl (c_30t hF hG (kne hrb hfr (by decide))) (fun σ2 hq2 => ?_)
  obtain ⟨f2, o2⟩ := hq2
  replace hx := hx.op hKr hrb hG f2 o2
  replace h1 := (o2.2.2 p e1 e2).trans h1
  refine h_st rfl rfl ?_
  refine h_st rfl rfl ?_
  refine h_st rfl (e_get h1 rfl) ?_
  refine h_st rfl rfl ?_
  refine h_st rfl rfl ?_
  refine y_putI (nI_1 bb) rfl hx h1 hp (by omega) (ncs (by omega)) (rfl) (Nat.le_of_ble_eq_true rfl) (ok_R hn ⟨q, a, (bb + 1), rfl, by omega, hq⟩) (fun σ2 hx2 g2 ho => ?_)
  replace h1 := g2
  clear g2 ho
  replace hx := hx2
  clear hx2
  refine h_st rfl rfl ?_
  exact h_rt rfl rfl (⟨_, _, rfl, K, hx⟩)
theorem c_29b {fr q a bb j : Nat} {X : Int32} (hT : Ty σ K) (hn : n ≤ 16) (hp : K p = 100 + n) (hfr : K fr = 5) (h1 : σ.2[p]? = some (.inr (6, [.ref q, .int (nI a), .int (nI bb)]))) (hab : bb < n ∧ (a < n ∨ a = 0)) (hq : K q = 200 + n) (hj : j < n) (hX : X = nI j) : hG ra (d + 1) 29 σ [some (.ref p), some (.ref fr), some (.int X)] [] 59 (pI (fun σ' _ => ∃ K', Ex b 0 0 K σ K' σ')) := by
  subst hX
  obtain ⟨f, hs, hf⟩ := hT.kS hn hq
  have hin : ¬ (nI j < 0 ∨ n ≤ (nI j).toNatClampNeg) := nI_in hj (by omega)
  have ej : (nI j).toNatClampNeg = j := nI_clamp (by omega)
  have hpq : p ≠ q := kne hp hq (by omega)
  have hlq := hT.lt (p := q) (by omega)
  have hlp := hT.lt (p := p) (by omega)
  have hx := Ex.refl (b := b) hT
  refine h_st rfl rfl ?_
  refine h_st rfl (e_get h1 rfl) ?_
  refine h_st rfl rfl ?_
  refine h_st rfl (e_aa hs (by decide) hin) ?_
  refine h_nul rfl (fun hn1 => ?_) (fun r hr => c_29c hx hn hp hfr h1 hab hq hs hj hr (hf j r hj (by rw [← ej]; exact hr)))
  refine h_st rfl rfl ?_
  refine h_st rfl (e_get h1 rfl) ?_
  refine h_st rfl rfl ?_
  refine h_st rfl rfl ?_
  refine h_st rfl rfl ?_
  have hp0 : (((σ.1.1 + 1, σ.1.2 + 2), σ.2 ++ [.inr (2, cd_Frame)]) : ae_S).2[σ.2.length]? = some (.inr (2, cd_Frame)) := by simp
  refine h_cv1 rfl (Nat.le_of_ble_eq_true rfl) (e_rcv hp0) rfl (k_2s hp0) (fun σ2 hk => ?_)
  have hl1 : (((σ.1.1 + 1, σ.1.2 + 2), σ.2 ++ [.inr (2, cd_Frame)]) : ae_S).2.length = σ.2.length + 1 := by simp
  rw [hl1] at hk
  have hold : ∀ q, q < σ.2.length → σ2.2[q]? = σ.2[q]? := fun q hq => (hk.2.2.2.2 q (by rw [hl1]; omega) (by omega)).trans (List.getElem?_append_left hq)
  obtain ⟨K2, hk5, hk6, hm, hx⟩ := hx.two (ka := 5) (kb := 6) (c1 := 2) (c2 := 202) (σ2 := σ2) hk.1 hk.2.1 hold (hk.at 0 rfl) (hk.at 1 rfl) rfl rfl (fun K' _ e => ok_5 ⟨_, 0, rfl, by omega, e⟩) (fun K' _ _ => ok_6 ⟨_, rfl, fun _ _ => by decide⟩) (by decide)
  replace hs := (hold q hlq).trans hs
  replace h1 := (hold p hlp).trans h1
  replace hp := (hm p (by omega)).trans hp
  replace hq := (hm q (by omega)).trans hq
  replace hfr := (hm fr (by omega)).trans hfr
  refine y_aasN (a := 2) (e := 202) rfl hx rfl hs (hk.at 0 rfl) (by decide) hq (by omega) (ncs (by omega)) hin hn1 (ok_S hn ⟨_, rfl, up_kd (fun i r hi hr => (hm r (by rw [hf i r hi hr]; decide)).trans (hf i r hi hr)) hk5⟩) (fun σ3 hx3 g3 ho => ?_)
  replace h1 := (ho p hpq).trans h1
  exact c_29c hx3 hn hp hfr h1 hab hq g3 hj (by simp [va_up]) hk5
theorem c_29t {fr : Nat} (hT : Ty σ K) (hn : n ≤ 16) (hp : K p = 100 + n) (hfr : K fr = 5) : hE ra (d + 2) 29 [.ref p, .ref fr] σ (pI (fun σ' _ => ∃ K', Ex b 0 0 K σ K' σ')) := by
  obtain ⟨q, a, bb, h1, hab, hq⟩ := hT.kR hn hp
  obtain ⟨f, hs, hf⟩ := hT.kS hn hq
  have eab : nI a + nI bb = nI (a + bb) := nI_add a bb
  refine h_in rfl rfl (Nat.le_of_ble_eq_true rfl) ?_
  refine h_st rfl rfl ?_
  refine h_st rfl (e_get h1 rfl) ?_
  refine h_st rfl rfl ?_
  refine h_st rfl (e_get h1 rfl) ?_
  refine h_st rfl (e_len hs (by decide)) ?_
  refine h_st rfl rfl ?_
  refine h_br (fun q0 => ?_) (fun q0 => ?_)
  · have hbn : bb < n := (nI_ltI (by omega) (by omega)).mp (show nI bb < nI n from q0)
    refine h_st rfl rfl ?_
    refine h_st rfl (e_get h1 rfl) ?_
    refine h_st rfl rfl ?_
    refine h_st rfl (e_get h1 rfl) ?_
    refine h_st rfl rfl ?_
    refine h_st rfl rfl ?_
    refine h_st rfl (e_get h1 rfl) ?_
    refine h_st rfl (e_len hs (by decide)) ?_
    refine h_st rfl rfl ?_
    refine h_br (fun q1 => ?_) (fun q1 => ?_)
    · refine h_st rfl rfl ?_
      refine h_st rfl (e_get h1 rfl) ?_
      refine h_st rfl rfl ?_
      refine h_st rfl (e_get h1 rfl) ?_
      refine h_st rfl rfl ?_
      refine h_st rfl rfl ?_
      refine h_st rfl (e_get h1 rfl) ?_
      refine h_st rfl (e_len hs (by decide)) ?_
      refine h_st rfl rfl ?_
      have hge : n ≤ a + bb := (nI_leI (by omega) (by omega)).mp (show nI n ≤ nI (a + bb) from eab ▸ q1)
      refine h_st rfl rfl ?_
      exact c_29b (j := a + bb - n) hT hn hp hfr h1 ⟨hbn, hab.2⟩ hq (by omega) (show nI a + nI bb - nI n = _ from by rw [eab]; exact pk_sub hge)
    · refine h_st rfl rfl ?_
      refine h_st rfl (e_get h1 rfl) ?_
      refine h_st rfl rfl ?_
      refine h_st rfl (e_get h1 rfl) ?_
      refine h_st rfl rfl ?_
      refine h_st rfl rfl ?_
      refine h_st rfl rfl ?_
      exact c_29b (j := a + bb) hT hn hp hfr h1 ⟨hbn, hab.2⟩ hq (Nat.lt_of_not_le (fun z => q1 (show nI n ≤ nI a + nI bb from by rw [eab]; exact nI_le z (by omega)))) eab
  · refine h_st rfl rfl ?_
    exact h_rt rfl rfl (⟨_, _, rfl, K, Ex.refl hT⟩)
end TY4
