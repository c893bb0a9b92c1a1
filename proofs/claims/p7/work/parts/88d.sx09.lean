section SX9
variable {ra : ae_R} {d : Nat} {σ σ0 σ1 σ2 : ae_S} {w w0 w1 w2 : Nat → Nat} {C C' : Nat → Prop} {p pb n : Nat} {f : Nat → Int32}
/-- a datagram object, its length and its bytes -/
def DX (σ : ae_S) (p pb n : Nat) (f : Nat → Int32) : Prop := σ.2[p]? = some (.inr (0, [.ref pb, .int (nI n)])) ∧ (n ≤ 1000 ∧ p ≠ pb) ∧ ∃ g, σ.2[pb]? = some (.inl (1, 1000, .inl g)) ∧ (∀ j, j < 1000 → fits .byte (.int (g j)) = true) ∧ ∀ j, j < n → g j &&& 255 = f j
theorem DX.cg {f' : Nat → Int32} (h : DX σ p pb n f) (e : ∀ j, j < n → f' j = f j) : DX σ p pb n f' := by
  obtain ⟨h1, h2, g, h3, h4, h5⟩ := h
  exact ⟨h1, h2, g, h3, h4, fun j hj => (h5 j hj).trans (e j hj).symm⟩
theorem DX.sa (h : DX σ p pb n f) (hs : Sa C σ w σ1 w1) (h1 : ¬ C (w p)) (h2 : ¬ C (w pb)) : DX σ1 p pb n f := by
  obtain ⟨g1, g2, g, g3, g4⟩ := h
  exact ⟨hs.at g1 h1, g2, g, hs.at g3 h2, g4⟩
def Dw (σ : ae_S) (w : Nat → Nat) (p c : Nat) (x : AF) : Prop := w p = c ∧ ∃ pb, w pb = c + 1 ∧ DX σ p pb x.1 x.2
theorem Dw.sa {c : Nat} {x : AF} (h : Dw σ w p c x) (hs : Sa C σ w σ1 w1) (h1 : ¬ C c) (h2 : ¬ C (c + 1)) : Dw σ1 w1 p c x := by
  obtain ⟨e1, pb, e2, hF⟩ := h
  have hF' := hF
  obtain ⟨g1, g2, g, g3, g4⟩ := hF'
  exact ⟨(hs.wt g1 (by rw [e1]; exact h1)).trans e1, pb, (hs.wt g3 (by rw [e2]; exact h2)).trans e2, hF.sa hs (by rw [e1]; exact h1) (by rw [e2]; exact h2)⟩
section BD
variable {mid pc np : Nat} {L : ae_Ls} {kk : List Value} {P : ae_S × ae_O → Prop}
theorem z_bas {x : Int32} (ht : ae_tab (at0 mid) pc = some (.inl (o_bas np))) (h : DX σ p pb n f) (hn : n < 1000) (hc : ∀ σ', σ'.2[p]? = some (.inr (0, [.ref pb, .int (nI n)])) → (∃ g, σ'.2[pb]? = some (.inl (1, 1000, .inl g)) ∧ (∀ j, j < 1000 → fits .byte (.int (g j)) = true) ∧ ∀ j, j < n + 1 → g j &&& 255 = (if j < n then f j else x &&& 255)) → Op p pb σ σ' → hG ra d mid σ' L kk np P) : hG ra d mid σ L (.int x :: .int (nI n) :: .ref pb :: kk) pc P := by
  obtain ⟨h1, h2, g, hf, hb, hv⟩ := h
  have en : (nI n).toNatClampNeg = n := nI_clamp (by omega)
  refine h_st ht (e_bas1 hf (nI_in hn (by decide))) (hc _ ((st_ne (Ne.symm h2.2)).trans h1) ⟨_, st_get hf, fun i hi => ?_, fun i hi => ?_⟩ ⟨rfl, List.length_set, fun q _ a => st_ne (Ne.symm a)⟩)
  · rw [en]
    by_cases e : i = n
    · rw [e, pk_us, vp_nar_byte]
      exact pk_fb x
    · rw [pk_un e]
      exact hb i hi
  · rw [en]
    by_cases e : i = n
    · rw [e, pk_us, vp_nar_byte, if_neg (Nat.lt_irrefl _)]
      exact i8m x
    · rw [pk_un e, if_pos (by omega)]
      exact hv i (by omega)
end BD
/-- a datagram and a part of a frame -/
def app (x : AF) (g : Nat → Int32) (m : Nat) : AF := (x.1 + m, fun j => if j < x.1 then x.2 j else g (34 + (j - x.1)))
theorem c_50lz {x : AF} {m fp fb nf : Nat} {g : Nat → Int32} (hm : x.1 + m ≤ 1000) (hmf : m + 39 ≤ nf) (n1 : fp ≠ p) (n2 : fp ≠ pb) (n3 : fb ≠ p) (n4 : fb ≠ pb) : ∀ (k j : Nat) (σ : ae_S), j + k = m → DX σ p pb (app x g j).1 (app x g j).2 → FX σ fp fb nf g → Op p pb σ0 σ → hG ra (d + 1) 50 σ [some (.ref p), some (.ref fp), some (.int (nI m)), some (.int (nI j))] [] 2 (pV (fun σ' => DX σ' p pb (app x g m).1 (app x g m).2 ∧ Op p pb σ0 σ')) := by
  intro k
  induction k with
  | zero =>
    intro j σ hj h hF ho
    have hj : j = m := by omega
    subst hj
    refine h_st rfl rfl ?_
    refine h_st rfl rfl ?_
    refine h_st rfl rfl ?_
    refine h_pc (if_pos (decide_eq_true (nI_le (Nat.le_refl _) (by omega)))) ?_
    exact h_rv rfl (⟨_, rfl, h, ho⟩)
  | succ k ih =>
    intro j σ hj h hF ho
    have hnf := hF.2.1
    have ih1 := fun σ h1 h2 h3 => ih (j + 1) σ (by omega) h1 h2 h3
    simp only [← nI_1] at ih1
    have e34 : (34 : Int32) + nI j = nI (34 + j) := nI_add 34 j
    have hx1 : (app x g j).1 = x.1 + j := rfl
    have hlt : (app x g j).1 < 1000 := by omega
    have hrg := hF.rg (j := 34 + j) (by omega)
    refine h_st rfl rfl ?_
    refine h_st rfl rfl ?_
    refine h_st rfl rfl ?_
    refine h_pc (if_neg (fun z9 => (nI_ge (show j < m by omega) (by omega)) (of_decide_eq_true z9))) ?_
    refine h_st rfl rfl ?_
    refine h_st rfl (e_get h.1 rfl) ?_
    refine h_st rfl rfl ?_
    refine h_st rfl rfl ?_
    refine h_pc (if_neg (fun z9 => (nI_ge (b := 1000) hlt (by decide)) (of_decide_eq_true z9))) ?_
    refine h_st rfl rfl ?_
    refine h_st rfl (e_get h.1 rfl) ?_
    refine h_st rfl rfl ?_
    refine h_st rfl (e_get h.1 rfl) ?_
    refine h_st rfl rfl ?_
    refine h_st rfl rfl ?_
    refine h_st rfl rfl ?_
    refine h_st rfl rfl ?_
    refine h_ci2 rfl (Nat.le_of_ble_eq_true rfl) (e_rcv (hF.1)) rfl (c_35x hF e34 (by omega)) (fun σ' y hy => ?_)
    obtain ⟨rfl, rfl⟩ := hy
    refine h_st rfl rfl ?_
    refine z_bas rfl h hlt (fun σ2 h2 hg2 o2 => ?_)
    have hpne := h.2.1.2
    refine h_st rfl rfl ?_
    refine h_st rfl rfl ?_
    refine h_st rfl (e_get h2 rfl) ?_
    refine h_st rfl rfl ?_
    refine h_st rfl rfl ?_
    refine h_st rfl (e_put h2 rfl (Nat.le_of_ble_eq_true rfl)) ?_
    refine h_st rfl rfl ?_
    refine h_st rfl rfl ?_
    refine ih1 _ ?_ ((hF.same (o2.2.2 _ n1 n2) (o2.2.2 _ n3 n4)).same (st_ne (Ne.symm n1)) (st_ne (Ne.symm n3))) (ho.trans (o2.trans ⟨rfl, List.length_set, fun q a _ => st_ne (Ne.symm a)⟩))
    obtain ⟨g2, k1, k2, k3⟩ := hg2
    refine ⟨(st_get h2).trans (by rw [show (app x g (j + 1)).1 = (app x g j).1 + 1 from rfl, ← nI_1]; rfl), ⟨by show x.1 + (j + 1) ≤ 1000; omega, hpne⟩, g2, (st_ne hpne).trans k1, k2, fun i hi => ?_⟩
    have hi2 : i < x.1 + (j + 1) := hi
    rw [k3 i hi, i8m, hrg]
    show _ = (if i < x.1 then x.2 i else g (34 + (i - x.1)))
    by_cases c : i < (app x g j).1
    · rw [if_pos c]
      rfl
    · rw [if_neg c, if_neg (by omega), show i - x.1 = j by omega]
theorem c_50z {x : AF} {m fp fb nf : Nat} {g : Nat → Int32} {i : Int32} (ei : i = nI m) (h : DX σ p pb x.1 x.2) (hF : FX σ fp fb nf g) (hm : x.1 + m ≤ 1000) (hmf : m + 39 ≤ nf) (n1 : fp ≠ p) (n2 : fp ≠ pb) (n3 : fb ≠ p) (n4 : fb ≠ pb) : hE ra (d + 2) 50 [.ref p, .ref fp, .int i] σ (pV (fun σ' => DX σ' p pb (app x g m).1 (app x g m).2 ∧ Op p pb σ σ')) := by
  subst ei
  refine h_in rfl rfl (Nat.le_of_ble_eq_true rfl) ?_
  refine h_st rfl rfl ?_
  refine h_st rfl rfl ?_
  exact c_50lz hm hmf n1 n2 n3 n4 m 0 _ (by omega) (h.cg (fun j hj => if_pos hj)) hF Op.refl
theorem c_53z (h : DX σ p pb n f) {j : Nat} {i : Int32} (ei : i = nI j) (hj : j < n) : hE ra (d + 1) 53 [.ref p, .int i] σ (pI (fun σ' y => σ' = σ ∧ y = f j)) := by
  subst ei
  obtain ⟨h1, h2, g, hf, hb, hv⟩ := h
  refine h_in rfl rfl (Nat.le_of_ble_eq_true rfl) ?_
  refine h_st rfl rfl ?_
  refine h_st rfl rfl ?_
  refine h_pc (if_neg (fun z9 => (nI_pos (by omega)) (of_decide_eq_true z9))) ?_
  refine h_st rfl rfl ?_
  refine h_st rfl rfl ?_
  refine h_st rfl (e_get h1 rfl) ?_
  refine h_st rfl rfl ?_
  refine h_pc (if_neg (fun z9 => (nI_ge hj (by omega)) (of_decide_eq_true z9))) ?_
  refine h_st rfl rfl ?_
  refine h_st rfl (e_get h1 rfl) ?_
  refine h_st rfl rfl ?_
  refine h_st rfl (e_ba hf (Or.inl rfl) (nI_in (show j < 1000 by omega) (by decide))) ?_
  refine h_st rfl rfl ?_
  refine h_st rfl rfl ?_
  refine h_st rfl rfl ?_
  exact h_rt rfl rfl (⟨_, _, rfl, rfl, by rw [nI_clamp (by omega)]; exact hv j hj⟩)
/-- a datagram is whole -/
abbrev whl (x : AF) : Prop := 8 ≤ x.1 ∧ x.2 4 <<< ((8 : Int32) &&& 31) ||| x.2 5 = nI x.1
theorem c_52z {x : AF} (h : DX σ p pb x.1 x.2) : hE ra (d + 2) 52 [.ref p] σ (pI (fun σ' y => σ' = σ ∧ ((y = 1 ∧ whl x) ∨ (y = 0 ∧ ¬ whl x)))) := by
  have hn := h.2.1
  refine h_in rfl rfl (Nat.le_of_ble_eq_true rfl) ?_
  refine h_st rfl rfl ?_
  refine h_st rfl (e_get h.1 rfl) ?_
  refine h_st rfl rfl ?_
  refine h_st rfl rfl ?_
  refine h_br (fun q => ?_) (fun q => ?_)
  · refine h_st rfl rfl ?_
    exact h_rt rfl rfl (⟨_, _, rfl, rfl, Or.inr ⟨rfl, fun z => nI_nlt (b := 8) z.1 (by omega) q⟩⟩)
  · have h8 : 8 ≤ x.1 := Nat.le_of_not_lt (fun z => q (nI_lt z (by decide)))
    refine h_st rfl rfl ?_
    refine h_st rfl rfl ?_
    refine h_ci2 rfl (Nat.le_of_ble_eq_true rfl) (e_rcv (h.1)) rfl (c_53z h (j := 4) rfl (by omega)) (fun σ' y hy => ?_)
    obtain ⟨rfl, rfl⟩ := hy
    refine h_st rfl rfl ?_
    refine h_st rfl rfl ?_
    refine h_st rfl rfl ?_
    refine h_st rfl rfl ?_
    refine h_ci2 rfl (Nat.le_of_ble_eq_true rfl) (e_rcv (h.1)) rfl (c_53z h (j := 5) rfl (by omega)) (fun σ' y hy => ?_)
    obtain ⟨rfl, rfl⟩ := hy
    refine h_st rfl rfl ?_
    refine h_st rfl rfl ?_
    refine h_st rfl (e_get h.1 rfl) ?_
    refine h_st rfl rfl ?_
    refine h_br (fun q2 => ?_) (fun q2 => ?_)
    · refine h_st rfl rfl ?_
      exact h_rt rfl rfl (⟨_, _, rfl, rfl, Or.inr ⟨rfl, fun z => q2 z.2⟩⟩)
    · refine h_st rfl rfl ?_
      refine h_st rfl rfl ?_
      exact h_rt rfl rfl (⟨_, _, rfl, rfl, Or.inl ⟨rfl, h8, Decidable.of_not_not q2⟩⟩)
abbrev ior (s la : Int32) : Prop := la = -1 ∨ s = 0 ∨ s = fol la ∨ s = fol (fol la)
theorem c_45z (s la : Int32) : hE ra (d + 2) 45 [.int s, .int la] σ (pI (fun σ' y => σ' = σ ∧ ((y = 1 ∧ ior s la) ∨ (y = 0 ∧ ¬ ior s la)))) := by
  refine h_in rfl rfl (Nat.le_of_ble_eq_true rfl) ?_
  refine h_st rfl rfl ?_
  refine h_st rfl rfl ?_
  refine h_st rfl rfl ?_
  refine h_br (fun q1 => ?_) (fun q1 => ?_)
  · refine h_st rfl rfl ?_
    refine h_st rfl rfl ?_
    exact h_rt rfl rfl (⟨_, _, rfl, rfl, Or.inl ⟨rfl, Or.inl q1⟩⟩)
  · refine h_st rfl rfl ?_
    refine h_st rfl rfl ?_
    refine h_br (fun q2 => ?_) (fun q2 => ?_)
    · refine h_st rfl rfl ?_
      refine h_st rfl rfl ?_
      exact h_rt rfl rfl (⟨_, _, rfl, rfl, Or.inl ⟨rfl, Or.inr (Or.inl q2)⟩⟩)
    · refine h_st rfl rfl ?_
      refine h_st rfl rfl ?_
      refine h_ci1 rfl (Nat.le_of_ble_eq_true rfl) rfl rfl (c_15x _) (fun σ' y hy => ?_)
      obtain ⟨rfl, rfl⟩ := hy
      refine h_st rfl rfl ?_
      refine h_br (fun q3 => ?_) (fun q3 => ?_)
      · refine h_st rfl rfl ?_
        refine h_st rfl rfl ?_
        exact h_rt rfl rfl (⟨_, _, rfl, rfl, Or.inl ⟨rfl, Or.inr (Or.inr (Or.inl q3))⟩⟩)
      · refine h_st rfl rfl ?_
        refine h_st rfl rfl ?_
        refine h_ci1 rfl (Nat.le_of_ble_eq_true rfl) rfl rfl (c_15x _) (fun σ' y hy => ?_)
        obtain ⟨rfl, rfl⟩ := hy
        refine h_ci1 rfl (Nat.le_of_ble_eq_true rfl) rfl rfl (c_15x _) (fun σ' y hy => ?_)
        obtain ⟨rfl, rfl⟩ := hy
        refine h_st rfl rfl ?_
        refine h_br (fun q4 => ?_) (fun q4 => ?_)
        · refine h_st rfl rfl ?_
          exact h_rt rfl rfl (⟨_, _, rfl, rfl, Or.inr ⟨rfl, fun z => z.elim q1 (fun z => z.elim q2 (fun z => z.elim q3 q4))⟩⟩)
        · refine h_st rfl rfl ?_
          refine h_st rfl rfl ?_
          exact h_rt rfl rfl (⟨_, _, rfl, rfl, Or.inl ⟨rfl, Or.inr (Or.inr (Or.inr (Decidable.of_not_not q4)))⟩⟩)
abbrev AP : Type := (Int32 × Int32) × (Nat → Int32) × (Int32 × Int32) × Option (Int32 × AF) × List Nat × Int32
abbrev pqu (P : AP) : Int32 := P.1.1
abbrev psk (P : AP) : Int32 := P.1.2
abbrev pla (P : AP) : Nat → Int32 := P.2.1
abbrev pts (P : AP) : Int32 := P.2.2.1.1
abbrev pta (P : AP) : Int32 := P.2.2.1.2
abbrev pbg (P : AP) : Option (Int32 × AF) := P.2.2.2.1
abbrev pks (P : AP) : List Nat := P.2.2.2.2.1
abbrev pca (P : AP) : Int32 := P.2.2.2.2.2
def PtC (P : AP) (la be ke fk : Nat) (ib bn : Int32) : ae_C := .inr (5, [.int (pqu P), .int (psk P), .ref la, .int (pts P), .int (pta P), .int ib, .int bn, .ref be, .ref ke, .int (nI fk), .int (nI (pks P).length), .int (pca P)])
abbrev tbt (ts ta sk s tm : Int32) : Prop := (ts = -1 ∨ ¬ tm - ta ≤ sk) ∨ (¬ s = ts ∧ (s = 0 ∨ ts = 0 ∨ ¬ 128 ≤ (if s ≤ ts then s - ts + 255 else s - ts)))
theorem c_46z {P : AP} {la be ke fk : Nat} {ib bn : Int32} (h : σ.2[p]? = some (PtC P la be ke fk ib bn)) (s tm : Int32) : hE ra (d + 1) 46 [.ref p, .int s, .int tm] σ (pI (fun σ' y => σ' = σ ∧ ((y = 1 ∧ tbt (pts P) (pta P) (psk P) s tm) ∨ (y = 0 ∧ ¬ tbt (pts P) (pta P) (psk P) s tm)))) := by
  refine h_in rfl rfl (Nat.le_of_ble_eq_true rfl) ?_
  refine h_st rfl rfl ?_
  refine h_st rfl (e_get h rfl) ?_
  refine h_st rfl rfl ?_
  refine h_st rfl rfl ?_
  refine h_br (fun q1 => ?_) (fun q1 => ?_)
  · refine h_st rfl rfl ?_
    exact h_rt rfl rfl (⟨_, _, rfl, rfl, Or.inl ⟨rfl, Or.inl (Or.inl q1)⟩⟩)
  · refine h_st rfl rfl ?_
    refine h_st rfl rfl ?_
    refine h_st rfl (e_get h rfl) ?_
    refine h_st rfl rfl ?_
    refine h_st rfl rfl ?_
    refine h_st rfl (e_get h rfl) ?_
    refine h_st rfl rfl ?_
    refine h_br (fun q2 => ?_) (fun q2 => ?_)
    · refine h_st rfl rfl ?_
      refine h_st rfl rfl ?_
      refine h_st rfl (e_get h rfl) ?_
      refine h_st rfl rfl ?_
      refine h_br (fun q3 => ?_) (fun q3 => ?_)
      · refine h_st rfl rfl ?_
        refine h_st rfl rfl ?_
        refine h_st rfl (e_get h rfl) ?_
        refine h_st rfl rfl ?_
        refine h_br (fun qa => ?_) (fun qa => ?_)
        · refine h_st rfl rfl ?_
          refine h_st rfl rfl ?_
          refine h_st rfl (e_get h rfl) ?_
          refine h_st rfl rfl ?_
          refine h_st rfl rfl ?_
          refine h_st rfl rfl ?_
          refine h_st rfl rfl ?_
          refine h_st rfl rfl ?_
          refine h_st rfl rfl ?_
          refine h_br (fun q4 => ?_) (fun q4 => ?_)
          · refine h_st rfl rfl ?_
            refine h_st rfl rfl ?_
            exact h_rt rfl rfl (⟨_, _, rfl, rfl, Or.inl ⟨rfl, Or.inr ⟨q3, Or.inl q4⟩⟩⟩)
          · refine h_st rfl rfl ?_
            refine h_st rfl (e_get h rfl) ?_
            refine h_st rfl rfl ?_
            refine h_br (fun q5 => ?_) (fun q5 => ?_)
            · refine h_st rfl rfl ?_
              refine h_st rfl rfl ?_
              exact h_rt rfl rfl (⟨_, _, rfl, rfl, Or.inl ⟨rfl, Or.inr ⟨q3, Or.inr (Or.inl q5)⟩⟩⟩)
            · refine h_st rfl rfl ?_
              refine h_st rfl rfl ?_
              refine h_st rfl rfl ?_
              refine h_br (fun q6 => ?_) (fun q6 => ?_)
              · refine h_st rfl rfl ?_
                exact h_rt rfl rfl (⟨_, _, rfl, rfl, Or.inr ⟨rfl, fun z => z.elim (fun z => z.elim q1 (fun z => z q2)) (fun z => z.2.elim q4 (fun z => z.elim q5 (fun z => z (by rw [if_pos qa]; exact q6))))⟩⟩)
              · refine h_st rfl rfl ?_
                refine h_st rfl rfl ?_
                exact h_rt rfl rfl (⟨_, _, rfl, rfl, Or.inl ⟨rfl, Or.inr ⟨q3, Or.inr (Or.inr (by rw [if_pos qa]; exact q6))⟩⟩⟩)
        · refine h_st rfl rfl ?_
          refine h_st rfl rfl ?_
          refine h_st rfl (e_get h rfl) ?_
          refine h_st rfl rfl ?_
          refine h_st rfl rfl ?_
          refine h_st rfl rfl ?_
          refine h_st rfl rfl ?_
          refine h_st rfl rfl ?_
          refine h_br (fun q4 => ?_) (fun q4 => ?_)
          · refine h_st rfl rfl ?_
            refine h_st rfl rfl ?_
            exact h_rt rfl rfl (⟨_, _, rfl, rfl, Or.inl ⟨rfl, Or.inr ⟨q3, Or.inl q4⟩⟩⟩)
          · refine h_st rfl rfl ?_
            refine h_st rfl (e_get h rfl) ?_
            refine h_st rfl rfl ?_
            refine h_br (fun q5 => ?_) (fun q5 => ?_)
            · refine h_st rfl rfl ?_
              refine h_st rfl rfl ?_
              exact h_rt rfl rfl (⟨_, _, rfl, rfl, Or.inl ⟨rfl, Or.inr ⟨q3, Or.inr (Or.inl q5)⟩⟩⟩)
            · refine h_st rfl rfl ?_
              refine h_st rfl rfl ?_
              refine h_st rfl rfl ?_
              refine h_br (fun q6 => ?_) (fun q6 => ?_)
              · refine h_st rfl rfl ?_
                exact h_rt rfl rfl (⟨_, _, rfl, rfl, Or.inr ⟨rfl, fun z => z.elim (fun z => z.elim q1 (fun z => z q2)) (fun z => z.2.elim q4 (fun z => z.elim q5 (fun z => z (by rw [if_neg qa]; exact q6))))⟩⟩)
              · refine h_st rfl rfl ?_
                refine h_st rfl rfl ?_
                exact h_rt rfl rfl (⟨_, _, rfl, rfl, Or.inl ⟨rfl, Or.inr ⟨q3, Or.inr (Or.inr (by rw [if_neg qa]; exact q6))⟩⟩⟩)
      · refine h_st rfl rfl ?_
        exact h_rt rfl rfl (⟨_, _, rfl, rfl, Or.inr ⟨rfl, fun z => z.elim (fun z => z.elim q1 (fun z => z q2)) (fun z => q3 z.1)⟩⟩)
    · refine h_st rfl rfl ?_
      exact h_rt rfl rfl (⟨_, _, rfl, rfl, Or.inl ⟨rfl, Or.inl (Or.inr q2)⟩⟩)
end SX9
