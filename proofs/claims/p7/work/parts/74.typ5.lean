section TY5
variable {ra : ae_R} {d : Nat} {σ σ0 : ae_S} {p : Nat} {K K0 : Nat → Nat} {b : Bool} {s t : Nat}
theorem k_rv (x : Option Nat) : k_ref (va_rf x) = true := by
  cases x <;> rfl
theorem Ty.dr (h : Ty σ K) (hp : K p = 7) : ∃ pb k, DR σ p pb k ∧ K pb = 8 := by
  obtain ⟨q, k, h1, h2, h3⟩ := h.k7 hp
  obtain ⟨f, h4, h5⟩ := h.k8 h3
  exact ⟨q, k, ⟨h1, ⟨h2, fun e => by rw [e, h3] at hp; cases hp⟩, f, h4, h5⟩, h3⟩
theorem Ex.opD {σ2 : ae_S} {pb kf : Nat} (hx : Ex b s t K0 σ0 K σ) (hp : K p = 7) (hq : K pb = 8) (hf0 : DR σ p pb kf) {kf' : Nat} (hf : DR σ2 p pb kf') (ho : Op p pb σ σ2) : Ex b s t K0 σ0 K σ2 := by
  obtain ⟨a1, a2, a3, a4, a5, a6, a7⟩ := hx
  obtain ⟨o1, o2, o3⟩ := ho
  obtain ⟨f1, f2, f, f3, f4⟩ := hf
  obtain ⟨g1, g2, g, g3, g4⟩ := hf0
  have hw : ∀ w : ae_C → Nat, (∀ x, w (.inr x) = 0) → (∀ a n g, w (.inl (a, n, .inl g)) = 0) → σ2.2.map w = σ.2.map w := fun w w1 w2 => map_same o2 (fun q c hc => by
    by_cases e1 : q = p
    · subst e1
      rw [g1] at hc
      cases hc
      exact ⟨_, f1, by rw [w1, w1]⟩
    · by_cases e2 : q = pb
      · subst e2
        rw [g3] at hc
        cases hc
        exact ⟨_, f3, by rw [w2, w2]⟩
      · exact ⟨c, (o3 q e1 e2).trans hc, rfl⟩)
  refine ⟨fun q hq2 => ?_, by omega, a3, fun q h1 h2 => ?_, fun q h1 => ?_, ?_, ?_⟩
  · by_cases e1 : q = p
    · subst e1
      exact ⟨_, f1, by rw [hp]; exact ok_7 ⟨pb, kf', rfl, f2.1, hq⟩⟩
    · by_cases e2 : q = pb
      · subst e2
        exact ⟨_, f3, by rw [hq]; exact ok_8 ⟨f, rfl, f4⟩⟩
      · obtain ⟨c, x1, x2⟩ := a1 q hq2
        exact ⟨c, (o3 q e1 e2).trans x1, x2⟩
  · obtain ⟨x1, x2⟩ := a4 q h1 h2
    refine ⟨x1, (o3 q (fun e => ?_) (fun e => ?_)).trans x2⟩
    · rw [e, hp] at x1
      cases x1
    · rw [e, hq] at x1
      cases x1
  · have e3 := a3 q h1.ne
    refine (o3 q (fun e => ?_) (fun e => ?_)).trans (a5 q h1)
    · rw [← e3, e, hp] at h1
      exact ncs (by decide) h1
    · rw [← e3, e, hq] at h1
      exact ncs (by decide) h1
  · unfold Wt1 at *
    rw [o1, hw (fun c => (wt c).1) (fun _ => rfl) (fun _ _ _ => rfl)]
    exact a6
  · unfold Wt2 at *
    rw [o1, hw (fun c => (wt c).2) (fun _ => rfl) (fun _ _ _ => rfl)]
    exact a7
theorem c_28t (hT : Ty σ K) (hp : K p = 16) (x : Int32) : hE ra (d + 1) 28 [.ref p, .int x] σ (pR (fun σ' q => σ' = σ ∧ ∃ r n, q = some r ∧ n ≤ 16 ∧ K r = 100 + n)) := by
  obtain ⟨n, m, r, h, z, fr, bb, g, e, hpl, mk, hl, hnm, hr, hh, hf⟩ := hT.k16 hp
  refine h_in rfl rfl (Nat.le_of_ble_eq_true rfl) ?_
  refine h_st rfl rfl ?_
  refine h_st rfl rfl ?_
  refine h_br (fun q1 => ?_) (fun q1 => ?_)
  · refine h_st rfl rfl ?_
    refine h_st rfl (e_get hl rfl) ?_
    exact h_rt rfl rfl (⟨_, some r, rfl, rfl, r, n, rfl, hnm.1, hr⟩)
  · refine h_st rfl rfl ?_
    refine h_st rfl (e_get hl rfl) ?_
    refine h_st rfl rfl ?_
    refine h_br (fun q2 => ?_) (fun q2 => ?_)
    · refine h_st rfl rfl ?_
      refine h_st rfl (e_get hl rfl) ?_
      exact h_rt rfl rfl (⟨_, some r, rfl, rfl, r, n, rfl, hnm.1, hr⟩)
    · refine h_st rfl rfl ?_
      refine h_st rfl (e_get hl rfl) ?_
      refine h_st rfl rfl ?_
      exact h_rt rfl rfl (⟨_, some h, rfl, rfl, h, m, rfl, hnm.2, hh⟩)
theorem c_68t (hT : Ty σ K) (hp : K p = 16) (x y : Int32) : hE ra (d + 1) 68 [.ref p, .int x, .int y] σ (pV (fun σ' => Ex b 0 0 K σ K σ')) := by
  have hx := Ex.refl (b := b) hT
  obtain ⟨n, m, r, h, z, fr, bb, g, e, hpl, mk, hl, hnm, hr, hh, hf⟩ := hT.k16 hp
  refine h_in rfl rfl (Nat.le_of_ble_eq_true rfl) ?_
  refine h_st rfl rfl ?_
  refine h_st rfl rfl ?_
  refine y_put rfl hx hl hp (by omega) (ncs (by omega)) (rfl) (Nat.le_of_ble_eq_true rfl) (ok_16 ⟨_, _, _, _, _, _, _, _, _, _, _, rfl, hnm, hr, hh, hf⟩) (fun σ2 hx2 g2 ho => ?_)
  replace hl := g2
  clear g2 ho
  replace hx := hx2
  clear hx2
  refine h_st rfl rfl ?_
  refine h_st rfl rfl ?_
  refine y_put rfl hx hl hp (by omega) (ncs (by omega)) (rfl) (Nat.le_of_ble_eq_true rfl) (ok_16 ⟨_, _, _, _, _, _, _, _, _, _, _, rfl, hnm, hr, hh, hf⟩) (fun σ2 hx2 g2 ho => ?_)
  replace hl := g2
  clear g2 ho
  replace hx := hx2
  clear hx2
  refine h_st rfl rfl ?_
  refine h_st rfl rfl ?_
  refine y_put rfl hx hl hp (by omega) (ncs (by omega)) (rfl) (Nat.le_of_ble_eq_true rfl) (ok_16 ⟨_, _, _, _, _, _, _, _, _, _, _, rfl, hnm, hr, hh, hf⟩) (fun σ2 hx2 g2 ho => ?_)
  replace hl := g2
  clear g2 ho
  replace hx := hx2
  clear hx2
  exact h_rv rfl (⟨_, rfl, hx⟩)
theorem c_32 (hT : Ty σ K) (hp : K p = 16) : hE ra (d + 1) 32 [.ref p] σ (pI (fun σ' _ => Ex b 0 0 K σ K σ')) := by
  have hx := Ex.refl (b := b) hT
  obtain ⟨n, m, r, h, z, fr, bb, g, e, hpl, mk, hl, hnm, hr, hh, hf⟩ := hT.k16 hp
  obtain ⟨fq, fk, hfc, -⟩ := hT.k5 hf
  have hne := kne hf hp (by decide)
  refine h_in rfl rfl (Nat.le_of_ble_eq_true rfl) ?_
  refine h_st rfl rfl ?_
  refine h_st rfl (e_get hl rfl) ?_
  refine h_st rfl rfl ?_
  refine h_br (fun q1 => ?_) (fun q1 => ?_)
  · refine h_st rfl rfl ?_
    refine h_st rfl rfl ?_
    refine h_st rfl (e_get hl rfl) ?_
    refine h_st rfl rfl ?_
    refine h_st rfl rfl ?_
    refine y_put rfl hx hl hp (by omega) (ncs (by omega)) (rfl) (Nat.le_of_ble_eq_true rfl) (ok_16 ⟨_, _, _, _, _, _, _, _, _, _, _, rfl, hnm, hr, hh, hf⟩) (fun σ2 hx2 g2 ho => ?_)
    replace hfc := (ho fr hne).trans hfc
    replace hl := g2
    clear g2 ho
    replace hx := hx2
    clear hx2
    refine h_st rfl rfl ?_
    refine h_st rfl rfl ?_
    refine h_st rfl (e_get hl rfl) ?_
    refine h_st rfl rfl ?_
    refine h_st rfl (e_get hl rfl) ?_
    refine h_st rfl (e_get hfc rfl) ?_
    refine h_st rfl rfl ?_
    refine h_br (fun q2 => ?_) (fun q2 => ?_)
    · refine h_st rfl rfl ?_
      refine y_put rfl hx hl hp (by omega) (ncs (by omega)) (rfl) (Nat.le_of_ble_eq_true rfl) (ok_16 ⟨_, _, _, _, _, _, _, _, _, _, _, rfl, hnm, hr, hh, hf⟩) (fun σ2 hx2 g2 ho => ?_)
      replace hl := g2
      clear g2 ho
      replace hx := hx2
      clear hx2
      refine h_st rfl rfl ?_
      refine h_st rfl (e_get hl rfl) ?_
      refine h_st rfl rfl ?_
      refine h_pc (if_neg (by decide)) ?_
      refine h_st rfl rfl ?_
      refine h_st rfl rfl ?_
      exact h_rt rfl rfl (⟨_, _, rfl, hx⟩)
    · refine h_st rfl rfl ?_
      refine h_st rfl rfl ?_
      refine y_put rfl hx hl hp (by omega) (ncs (by omega)) (rfl) (Nat.le_of_ble_eq_true rfl) (ok_16 ⟨_, _, _, _, _, _, _, _, _, _, _, rfl, hnm, hr, hh, hf⟩) (fun σ2 hx2 g2 ho => ?_)
      replace hl := g2
      clear g2 ho
      replace hx := hx2
      clear hx2
      refine h_st rfl rfl ?_
      refine h_st rfl (e_get hl rfl) ?_
      refine h_st rfl rfl ?_
      refine h_pc (if_pos (by decide)) ?_
      refine h_st rfl rfl ?_
      exact h_rt rfl rfl (⟨_, _, rfl, hx⟩)
  · refine h_st rfl rfl ?_
    exact h_rt rfl rfl (⟨_, _, rfl, hx⟩)
theorem rcvR {n : Nat} {as : List Value} (h : Ty σ K) (hn : n ≤ 16) (hp : K p = 100 + n) : ae_rcv σ (some 6) (.ref p :: as) = true := by
  obtain ⟨q, a, bb, h1, _⟩ := h.kR hn hp
  exact e_rcv h1
theorem rcv5 {as : List Value} (h : Ty σ K) (hp : K p = 5) : ae_rcv σ (some 2) (.ref p :: as) = true := by
  obtain ⟨q, k, h1, _⟩ := h.k5 hp
  exact e_rcv h1
theorem rcv7 {as : List Value} (h : Ty σ K) (hp : K p = 7) : ae_rcv σ (some 0) (.ref p :: as) = true := by
  obtain ⟨q, k, h1, _⟩ := h.k7 hp
  exact e_rcv h1
theorem rcv16 {as : List Value} (h : Ty σ K) (hp : K p = 16) : ae_rcv σ (some 3) (.ref p :: as) = true := by
  obtain ⟨n, m, r, h, z, fr, bb, g, e, hpl, mk, hl, _⟩ := h.k16 hp
  exact e_rcv hl
theorem rcv18 {as : List Value} (h : Ty σ K) (hp : K p = 18) : ae_rcv σ (some 4) (.ref p :: as) = true := by
  obtain ⟨nu, so, ga, mo, hi, qu, pa, po, ac, wa, fi, co, me, se, op, hk, _⟩ := h.k18 hp
  exact e_rcv hk
theorem rcv22 {as : List Value} (h : Ty σ K) (hp : K p = 22) : ae_rcv σ (some 1) (.ref p :: as) = true := by
  obtain ⟨a1, a2, a3, a4, a5, a6, h1⟩ := h.k22 hp
  exact e_rcv h1
theorem rcv23 {as : List Value} (h : Ty σ K) (hp : K p = 23) : ae_rcv σ (some 5) (.ref p :: as) = true := by
  obtain ⟨n, z, sk, la, ts, ta, ib, bn, be, ke, fk, kc, ca, hc, _⟩ := h.k23 hp
  exact e_rcv hc
theorem rcv1 {as : List Value} (h : Ty σ K) (hp : K p = 1) : ae_rcv σ (some 7) (.ref p :: as) = true := by
  obtain ⟨t, h1⟩ := h.k1 hp
  exact e_rcv h1
theorem c_60 (hT : Ty σ K) (hp : K p = 16) : hE ra (d + 2) 60 [.ref p] σ (pV (fun σ' => Ex b 0 0 K σ K σ')) := by
  have hx := Ex.refl (b := b) hT
  obtain ⟨n, m, r, h, z, fr, bb, g, e, hpl, mk, hl, hnm, hr, hh, hf⟩ := hT.k16 hp
  refine h_in rfl rfl (Nat.le_of_ble_eq_true rfl) ?_
  refine h_st rfl rfl ?_
  refine h_st rfl (e_get hl rfl) ?_
  refine h_ci1 rfl (Nat.le_of_ble_eq_true rfl) (rcvR hT hnm.2 hh) rfl (c_8t hT hnm.2 hh) (fun σ' y hy => ?_)
  subst hy
  refine h_st rfl rfl ?_
  refine h_br (fun q1 => ?_) (fun q1 => ?_)
  · refine h_st rfl rfl ?_
    refine h_st rfl (e_get hl rfl) ?_
    refine h_st rfl rfl ?_
    refine h_st rfl rfl ?_
    refine h_st rfl rfl ?_
    refine h_ci1 rfl (Nat.le_of_ble_eq_true rfl) (rcvR hx.ty hnm.2 hh) rfl (c_8t hx.ty hnm.2 hh) (fun σ' y hy => ?_)
    subst hy
    refine h_st rfl rfl ?_
    refine h_br (fun q2 => ?_) (fun q2 => ?_)
    · refine h_st rfl rfl ?_
      refine y_put rfl hx hl hp (by omega) (ncs (by omega)) (rfl) (Nat.le_of_ble_eq_true rfl) (ok_16 ⟨_, _, _, _, _, _, _, _, _, _, _, rfl, hnm, hr, hh, hf⟩) (fun σ2 hx2 g2 ho => ?_)
      replace hl := g2
      clear g2 ho
      replace hx := hx2
      clear hx2
      refine h_st rfl rfl ?_
      refine h_st rfl rfl ?_
      refine h_st rfl rfl ?_
      refine h_st rfl (e_get hl rfl) ?_
      refine h_cr2 rfl (Nat.le_of_ble_eq_true rfl) (rcvR hx.ty hnm.2 hh) rfl (c_61 (b := b) hx.ty hnm.2 hh hf) (fun σ9 q9 hq => ?_)
      obtain ⟨r9, rfl, hK9, ex⟩ := hq
      replace hx := hx.trans ex
      obtain ⟨n, m, r, h, z, fr, bb, g, e, hpl, mk, hl, hnm, hr, hh, hf⟩ := hx.ty.k16 hp
      refine y_put rfl hx hl hp (by omega) (ncs (by omega)) (rfl) (Nat.le_of_ble_eq_true rfl) (ok_16 ⟨_, _, _, _, _, _, _, _, _, _, _, rfl, hnm, hr, hh, hK9⟩) (fun σ2 hx2 g2 ho => ?_)
      replace hl := g2
      clear g2 ho
      replace hx := hx2
      clear hx2
      refine h_st rfl rfl ?_
      refine h_st rfl rfl ?_
      refine y_put rfl hx hl hp (by omega) (ncs (by omega)) (rfl) (Nat.le_of_ble_eq_true rfl) (ok_16 ⟨_, _, _, _, _, _, _, _, _, _, _, rfl, hnm, hr, hh, hK9⟩) (fun σ2 hx2 g2 ho => ?_)
      replace hl := g2
      clear g2 ho
      replace hx := hx2
      clear hx2
      exact h_rv rfl (⟨_, rfl, hx⟩)
    · refine h_st rfl rfl ?_
      refine h_st rfl rfl ?_
      refine y_put rfl hx hl hp (by omega) (ncs (by omega)) (rfl) (Nat.le_of_ble_eq_true rfl) (ok_16 ⟨_, _, _, _, _, _, _, _, _, _, _, rfl, hnm, hr, hh, hf⟩) (fun σ2 hx2 g2 ho => ?_)
      replace hl := g2
      clear g2 ho
      replace hx := hx2
      clear hx2
      refine h_st rfl rfl ?_
      refine h_st rfl rfl ?_
      refine h_st rfl rfl ?_
      refine h_st rfl (e_get hl rfl) ?_
      refine h_cr2 rfl (Nat.le_of_ble_eq_true rfl) (rcvR hx.ty hnm.2 hh) rfl (c_61 (b := b) hx.ty hnm.2 hh hf) (fun σ9 q9 hq => ?_)
      obtain ⟨r9, rfl, hK9, ex⟩ := hq
      replace hx := hx.trans ex
      obtain ⟨n, m, r, h, z, fr, bb, g, e, hpl, mk, hl, hnm, hr, hh, hf⟩ := hx.ty.k16 hp
      refine y_put rfl hx hl hp (by omega) (ncs (by omega)) (rfl) (Nat.le_of_ble_eq_true rfl) (ok_16 ⟨_, _, _, _, _, _, _, _, _, _, _, rfl, hnm, hr, hh, hK9⟩) (fun σ2 hx2 g2 ho => ?_)
      replace hl := g2
      clear g2 ho
      replace hx := hx2
      clear hx2
      refine h_st rfl rfl ?_
      refine h_st rfl rfl ?_
      refine y_put rfl hx hl hp (by omega) (ncs (by omega)) (rfl) (Nat.le_of_ble_eq_true rfl) (ok_16 ⟨_, _, _, _, _, _, _, _, _, _, _, rfl, hnm, hr, hh, hK9⟩) (fun σ2 hx2 g2 ho => ?_)
      replace hl := g2
      clear g2 ho
      replace hx := hx2
      clear hx2
      exact h_rv rfl (⟨_, rfl, hx⟩)
  · refine h_st rfl rfl ?_
    refine h_st rfl (e_get hl rfl) ?_
    refine h_st rfl rfl ?_
    refine h_st rfl rfl ?_
    refine h_st rfl rfl ?_
    refine h_st rfl rfl ?_
    refine h_ci1 rfl (Nat.le_of_ble_eq_true rfl) (rcvR hx.ty hnm.1 hr) rfl (c_8t hx.ty hnm.1 hr) (fun σ' y hy => ?_)
    subst hy
    refine h_st rfl rfl ?_
    refine h_br (fun q2 => ?_) (fun q2 => ?_)
    · refine h_st rfl rfl ?_
      refine y_put rfl hx hl hp (by omega) (ncs (by omega)) (rfl) (Nat.le_of_ble_eq_true rfl) (ok_16 ⟨_, _, _, _, _, _, _, _, _, _, _, rfl, hnm, hr, hh, hf⟩) (fun σ2 hx2 g2 ho => ?_)
      replace hl := g2
      clear g2 ho
      replace hx := hx2
      clear hx2
      refine h_st rfl rfl ?_
      refine h_st rfl rfl ?_
      refine h_st rfl rfl ?_
      refine h_st rfl (e_get hl rfl) ?_
      refine h_cr2 rfl (Nat.le_of_ble_eq_true rfl) (rcvR hx.ty hnm.1 hr) rfl (c_61 (b := b) hx.ty hnm.1 hr hf) (fun σ9 q9 hq => ?_)
      obtain ⟨r9, rfl, hK9, ex⟩ := hq
      replace hx := hx.trans ex
      obtain ⟨n, m, r, h, z, fr, bb, g, e, hpl, mk, hl, hnm, hr, hh, hf⟩ := hx.ty.k16 hp
      refine y_put rfl hx hl hp (by omega) (ncs (by omega)) (rfl) (Nat.le_of_ble_eq_true rfl) (ok_16 ⟨_, _, _, _, _, _, _, _, _, _, _, rfl, hnm, hr, hh, hK9⟩) (fun σ2 hx2 g2 ho => ?_)
      replace hl := g2
      clear g2 ho
      replace hx := hx2
      clear hx2
      refine h_st rfl rfl ?_
      refine h_st rfl rfl ?_
      refine y_put rfl hx hl hp (by omega) (ncs (by omega)) (rfl) (Nat.le_of_ble_eq_true rfl) (ok_16 ⟨_, _, _, _, _, _, _, _, _, _, _, rfl, hnm, hr, hh, hK9⟩) (fun σ2 hx2 g2 ho => ?_)
      replace hl := g2
      clear g2 ho
      replace hx := hx2
      clear hx2
      exact h_rv rfl (⟨_, rfl, hx⟩)
    · refine h_st rfl rfl ?_
      refine h_st rfl rfl ?_
      refine y_put rfl hx hl hp (by omega) (ncs (by omega)) (rfl) (Nat.le_of_ble_eq_true rfl) (ok_16 ⟨_, _, _, _, _, _, _, _, _, _, _, rfl, hnm, hr, hh, hf⟩) (fun σ2 hx2 g2 ho => ?_)
      replace hl := g2
      clear g2 ho
      replace hx := hx2
      clear hx2
      refine h_st rfl rfl ?_
      refine h_st rfl rfl ?_
      refine h_st rfl rfl ?_
      refine h_st rfl (e_get hl rfl) ?_
      refine h_cr2 rfl (Nat.le_of_ble_eq_true rfl) (rcvR hx.ty hnm.1 hr) rfl (c_61 (b := b) hx.ty hnm.1 hr hf) (fun σ9 q9 hq => ?_)
      obtain ⟨r9, rfl, hK9, ex⟩ := hq
      replace hx := hx.trans ex
      obtain ⟨n, m, r, h, z, fr, bb, g, e, hpl, mk, hl, hnm, hr, hh, hf⟩ := hx.ty.k16 hp
      refine y_put rfl hx hl hp (by omega) (ncs (by omega)) (rfl) (Nat.le_of_ble_eq_true rfl) (ok_16 ⟨_, _, _, _, _, _, _, _, _, _, _, rfl, hnm, hr, hh, hK9⟩) (fun σ2 hx2 g2 ho => ?_)
      replace hl := g2
      clear g2 ho
      replace hx := hx2
      clear hx2
      refine h_st rfl rfl ?_
      refine h_st rfl rfl ?_
      refine y_put rfl hx hl hp (by omega) (ncs (by omega)) (rfl) (Nat.le_of_ble_eq_true rfl) (ok_16 ⟨_, _, _, _, _, _, _, _, _, _, _, rfl, hnm, hr, hh, hK9⟩) (fun σ2 hx2 g2 ho => ?_)
      replace hl := g2
      clear g2 ho
      replace hx := hx2
      clear hx2
      exact h_rv rfl (⟨_, rfl, hx⟩)
theorem c_59 (hT : Ty σ K) (hp : K p = 16) : hE ra (d + 3) 59 [.ref p] σ (pI (fun σ' _ => Ex b 0 0 K σ K σ')) := by
  have hx := Ex.refl (b := b) hT
  refine h_in rfl rfl (Nat.le_of_ble_eq_true rfl) ?_
  refine h_st rfl rfl ?_
  refine h_cv1 rfl (Nat.le_of_ble_eq_true rfl) (rcv16 hx.ty hp) rfl (c_60 (b := b) hx.ty hp) (fun σ9 ex => ?_)
  replace hx := hx.trans ex
  obtain ⟨n, m, r, h, z, fr, bb, g, e, hpl, mk, hl, hnm, hr, hh, hf⟩ := hx.ty.k16 hp
  refine h_st rfl rfl ?_
  refine h_st rfl (e_get hl rfl) ?_
  refine h_st rfl rfl ?_
  refine h_br (fun q1 => ?_) (fun q1 => ?_)
  · refine h_st rfl rfl ?_
    exact h_rt rfl rfl (⟨_, _, rfl, hx⟩)
  · refine h_st rfl rfl ?_
    refine h_st rfl (e_get hl rfl) ?_
    refine h_st rfl rfl ?_
    refine h_br (fun q2 => ?_) (fun q2 => ?_)
    · refine h_st rfl rfl ?_
      refine h_st rfl rfl ?_
      refine y_put rfl hx hl hp (by omega) (ncs (by omega)) (rfl) (Nat.le_of_ble_eq_true rfl) (ok_16 ⟨_, _, _, _, _, _, _, _, _, _, _, rfl, hnm, hr, hh, hf⟩) (fun σ2 hx2 g2 ho => ?_)
      replace hl := g2
      clear g2 ho
      replace hx := hx2
      clear hx2
      refine h_st rfl rfl ?_
      refine h_st rfl (e_get hl rfl) ?_
      refine h_st rfl rfl ?_
      refine h_br (fun q3 => ?_) (fun q3 => ?_)
      · refine h_st rfl rfl ?_
        refine h_cv1 rfl (Nat.le_of_ble_eq_true rfl) (rcv16 hx.ty hp) rfl (c_60 (b := b) hx.ty hp) (fun σ9 ex => ?_)
        replace hx := hx.trans ex
        obtain ⟨n, m, r, h, z, fr, bb, g, e, hpl, mk, hl, hnm, hr, hh, hf⟩ := hx.ty.k16 hp
        refine h_st rfl rfl ?_
        exact h_rt rfl rfl (⟨_, _, rfl, hx⟩)
      · refine h_st rfl rfl ?_
        refine h_st rfl (e_get hl rfl) ?_
        refine h_st rfl rfl ?_
        refine h_st rfl (e_get hl rfl) ?_
        refine h_st rfl rfl ?_
        refine h_st rfl (e_get hl rfl) ?_
        refine h_cv3 rfl (Nat.le_of_ble_eq_true rfl) (rcv5 hx.ty hf) rfl (c_62 (Classical.choose_spec (Classical.choose_spec (hx.ty.fr hf))).1 _ _) (fun σ8 hq => ?_)
        replace hx := hx.op hf (Classical.choose_spec (Classical.choose_spec (hx.ty.fr hf))).2 (Classical.choose_spec (Classical.choose_spec (hx.ty.fr hf))).1 hq.1 hq.2
        refine h_st rfl rfl ?_
        exact h_rt rfl rfl (⟨_, _, rfl, hx⟩)
    · refine h_st rfl rfl ?_
      exact h_rt rfl rfl (⟨_, _, rfl, hx⟩)
end TY5
