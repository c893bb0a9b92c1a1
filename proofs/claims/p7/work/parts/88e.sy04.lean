section SY4
variable {ra : ae_R} {d : Nat} {σ : ae_S}
theorem hE_and {mid : Nat} {args : List Value} {P Q : ae_S × ae_O → Prop} (h1 : hE ra d mid args σ P) (h2 : hE ra d mid args σ Q) : hE ra d mid args σ (fun r => P r ∧ Q r) := by
  obtain ⟨r1, ⟨N1, g1⟩, p1⟩ := h1
  obtain ⟨r2, ⟨N2, g2⟩, p2⟩ := h2
  have e : some r1 = some r2 := (g1 (N1 + N2) (by omega)).symm.trans (g2 (N1 + N2) (by omega))
  injection e with e
  subst e
  exact ⟨r1, ⟨N1, g1⟩, p1, p2⟩
theorem pV_and {mid : Nat} {args : List Value} {P Q : ae_S → Prop} (h1 : hE ra d mid args σ (pV P)) (h2 : hE ra d mid args σ (pV Q)) : hE ra d mid args σ (pV (fun σ' => P σ' ∧ Q σ')) := hE_mono (hE_and h1 h2) (fun r z => by
  obtain ⟨⟨σ1, e1, p1⟩, σ2, e2, p2⟩ := z
  rw [e1] at e2
  injection e2 with e2
  subst e2
  exact ⟨σ1, e1, p1, p2⟩)
theorem pI_and {mid : Nat} {args : List Value} {P Q : ae_S → Int32 → Prop} (h1 : hE ra d mid args σ (pI P)) (h2 : hE ra d mid args σ (pI Q)) : hE ra d mid args σ (pI (fun σ' v => P σ' v ∧ Q σ' v)) := hE_mono (hE_and h1 h2) (fun r z => by
  obtain ⟨⟨σ1, x1, e1, p1⟩, σ2, x2, e2, p2⟩ := z
  rw [e1] at e2
  injection e2 with e2 e3
  injection e3 with e3
  injection e3 with e3
  injection e3 with e3
  subst e2
  subst e3
  exact ⟨σ1, x1, e1, p1, p2⟩)
section RSE
variable {b b' : Bool} {σ0 σ0' : ae_S} {F0 F0' F F' : Nat → Nat → Int32} {c u g c' u' g' : Int32}
theorem RS.eq (h : RS b σ0 F0 σ c u g F) (h' : RS b' σ0' F0' σ c' u' g' F') {p t n m : Nat} {v : Int32} (hq : (p, t, n, m, v) ∈ rf_A) : F' p = F p := by
  have h1 := h.2.2.1 _ hq
  have h2 := h'.2.2.1 _ hq
  rw [h1] at h2
  injection h2 with z
  injection z with z
  injection z with z1 z
  injection z with z1 z
  injection z with z
  exact z.symm
theorem RP.tr {a e : List Nat} {g1 : Int32} (hP : RP F g1 a e) (h : RS b σ0 F0 σ c u g F) (h' : RS b' σ0' F0' σ c' u' g' F') : RP F' g1 a e := hP.ag (fun q hq => by
  simp only [rpL, List.mem_cons, List.not_mem_nil, or_false] at hq
  rcases hq with rfl | rfl | rfl | rfl | rfl | rfl | rfl | rfl | rfl | rfl | rfl | rfl | rfl | rfl | rfl | rfl
  · exact h.eq h' m177
  · exact h.eq h' m180
  · exact h.eq h' m182
  · exact h.eq h' m189
  · exact h.eq h' m194
  · exact h.eq h' m195
  · exact h.eq h' m196
  · exact h.eq h' m197
  · exact h.eq h' m198
  · exact h.eq h' m199
  · exact h.eq h' m201
  · exact h.eq h' m202
  · exact h.eq h' m204
  · exact h.eq h' m207
  · exact h.eq h' m209
  · exact h.eq h' m210)
end RSE
variable {F F' Fb : Nat → Nat → Int32} {v v' : Nat → Nat} {L : Nat → ALn} {A : ALn} {x : AF} {f i r : Nat}
/-- a frame of the reference with its code -/
def RX (F : Nat → Nat → Int32) (v : Nat → Nat) (f c : Nat) (x : AF) : Prop := f < 400 ∧ v f = c ∧ F 196 f ≠ 0 ∧ F 195 f = nI x.1 ∧ (64 ≤ x.1 ∧ x.1 ≤ 200) ∧ ∃ gc, (∀ k, k < 200 → F 194 (200 * f + k) = gc k) ∧ byt gc 200 ∧ ∀ k, k < x.1 → gc k = x.2 k
/-- a frame stays -/
def fpr (F : Nat → Nat → Int32) (v : Nat → Nat) (F' : Nat → Nat → Int32) (v' : Nat → Nat) (f : Nat) : Prop := F' 196 f = F 196 f ∧ F' 195 f = F 195 f ∧ (∀ k, k < 200 → F' 194 (200 * f + k) = F 194 (200 * f + k)) ∧ v' f = v f
theorem RX.ag {c : Nat} (h : RX F v f c x) (e : fpr F v F' v' f) : RX F' v' f c x := by
  obtain ⟨h1, h2, h3, h4, h5, gc, h6, h7⟩ := h
  obtain ⟨e1, e2, e3, e4⟩ := e
  exact ⟨h1, e4.trans h2, by rw [e1]; exact h3, e2.trans h4, h5, gc, fun k hk => (e3 k hk).trans (h6 k hk), h7⟩
def RRow (F : Nat → Nat → Int32) (v : Nat → Nat) (r : Nat) (l : List AF) : Prop := F 198 r = nI l.length ∧ l.length ≤ 16 ∧ ∀ j x, l[j]? = some x → ∃ f, F 197 (16 * r + j) = nI f ∧ RX F v f (1 + 16 * r + j) x
theorem RRow.ag {l : List AF} (h : RRow F v r l) (e8 : F' 198 r = F 198 r) (e7 : ∀ j, j < 16 → F' 197 (16 * r + j) = F 197 (16 * r + j)) (ef : ∀ f, f < 400 → F 196 f ≠ 0 → 1 + 16 * r ≤ v f ∧ v f < 17 + 16 * r → fpr F v F' v' f) : RRow F' v' r l := by
  obtain ⟨h1, h2, h3⟩ := h
  refine ⟨e8.trans h1, h2, fun j x hx => ?_⟩
  obtain ⟨f, h4, h5⟩ := h3 j x hx
  have hj := (List.getElem?_eq_some_iff.mp hx).1
  have hv := h5.2.1
  exact ⟨f, (e7 j (by omega)).trans h4, h5.ag (ef f h5.1 h5.2.2.1 (by omega))⟩
def Ron (F : Nat → Nat → Int32) (v : Nat → Nat) (i : Nat) (o : Option (AF × Nat)) : Prop := (o = none ∧ F 199 i = -1) ∨ ∃ x t f, o = some (x, t) ∧ F 199 i = nI f ∧ RX F v f (1000 + i) x ∧ F 200 i = nI t ∧ 8 * t < x.1
def Rhm (F : Nat → Nat → Int32) (i : Nat) (o : Option (Nat × Int32)) : Prop := (o = none ∧ F 202 i = -1) ∨ ∃ h mk, o = some (h, mk) ∧ F 201 i = nI h ∧ h < 2 ^ 31 ∧ F 202 i = mk ∧ rg mk 256
def RLn (F : Nat → Nat → Int32) (v : Nat → Nat) (i : Nat) (A : ALn) : Prop := (RRow F v (2 * i) A.1 ∧ A.1.length ≤ cp0 i) ∧ (RRow F v (2 * i + 1) A.2.1 ∧ A.2.1.length ≤ cp1 i) ∧ Ron F v i A.2.2.1 ∧ Rhm F i A.2.2.2
theorem Ron.ag {o : Option (AF × Nat)} (h : Ron F v i o) (e9 : F' 199 i = F 199 i) (e0 : F' 200 i = F 200 i) (ef : ∀ f, f < 400 → F 196 f ≠ 0 → v f = 1000 + i → fpr F v F' v' f) : Ron F' v' i o := by
  rcases h with ⟨h1, h2⟩ | ⟨x, t, f, h1, h2, h3, h4⟩
  · exact Or.inl ⟨h1, e9.trans h2⟩
  · exact Or.inr ⟨x, t, f, h1, e9.trans h2, h3.ag (ef f h3.1 h3.2.2.1 h3.2.1), by rw [e0]; exact h4⟩
theorem Rhm.ag {o : Option (Nat × Int32)} (h : Rhm F i o) (e1 : F' 201 i = F 201 i) (e2 : F' 202 i = F 202 i) : Rhm F' i o := by
  rcases h with ⟨h1, h2⟩ | ⟨p, mk, h1, h2, h3, h4, h5⟩
  · exact Or.inl ⟨h1, e2.trans h2⟩
  · exact Or.inr ⟨p, mk, h1, e1.trans h2, h3, e2.trans h4, h5⟩
def ML (F : Nat → Nat → Int32) (v : Nat → Nat) (L : Nat → ALn) : Prop := ∀ i, i < 24 → RLn F v i (L i)
/-- which codes a line has -/
def VC (i c : Nat) : Prop := (1 + 32 * i ≤ c ∧ c < 33 + 32 * i) ∨ c = 1000 + i
theorem RLn.ag (h : RLn F v i A) (e : ∀ q, 197 ≤ q → q ≤ 202 → F' q = F q) (ef : ∀ f, f < 400 → F 196 f ≠ 0 → VC i (v f) → fpr F v F' v' f) : RLn F' v' i A := by
  obtain ⟨⟨h1, h1'⟩, ⟨h2, h2'⟩, h3, h4⟩ := h
  exact ⟨⟨h1.ag (by rw [e 198 (by decide) (by decide)]) (fun j _ => by rw [e 197 (by decide) (by decide)]) (fun f a1 a2 a3 => ef f a1 a2 (by unfold VC; omega)), h1'⟩, ⟨h2.ag (by rw [e 198 (by decide) (by decide)]) (fun j _ => by rw [e 197 (by decide) (by decide)]) (fun f a1 a2 a3 => ef f a1 a2 (by unfold VC; omega)), h2'⟩, h3.ag (by rw [e 199 (by decide) (by decide)]) (by rw [e 200 (by decide) (by decide)]) (fun f a1 a2 a3 => ef f a1 a2 (by unfold VC; omega)), h4.ag (by rw [e 201 (by decide) (by decide)]) (by rw [e 202 (by decide) (by decide)])⟩
theorem ML.ag (h : ML F v L) (e : ∀ q, 197 ≤ q → q ≤ 202 → F' q = F q) (ef : ∀ f, f < 400 → F 196 f ≠ 0 → v f < 2000 → fpr F v F' v' f) : ML F' v' L := fun i hi => (h i hi).ag e (fun f a1 a2 a3 => ef f a1 a2 (by unfold VC at a3; omega))
theorem ML.up (h : ML F v L) (hA : RLn F' v' i A) (ho : ∀ j, j < 24 → j ≠ i → RLn F' v' j (L j)) : ML F' v' (updL L i A) := fun j hj => by
  by_cases c : j = i
  · rw [c, show updL L i A i = A from if_pos rfl]
    exact hA
  · rw [show updL L i A j = L j from if_neg c]
    exact ho j hj c
/-- a frame in hand is freed -/
theorem ML.free (h : ML F v L) (hc : 2000 ≤ v f) (e : ∀ q, q ≠ 196 → q ≠ 213 → F' q = F q) (e6 : F' 196 = upd (F 196) f 0) : ML F' v L := h.ag (fun q z1 z2 => e q (by omega) (by omega)) (fun f' a1 a2 a3 => ⟨by rw [e6, pk_un (fun z => by rw [z] at a3; omega)], by rw [e 195 (by decide) (by decide)], fun k hk => by rw [e 194 (by decide) (by decide)], rfl⟩)
theorem RX.free {c f' : Nat} {y : AF} (h : RX F v f' c y) (hne : f' ≠ f) (e : ∀ q, q ≠ 196 → q ≠ 213 → F' q = F q) (e6 : F' 196 = upd (F 196) f 0) : RX F' v f' c y := h.ag ⟨by rw [e6, pk_un hne], by rw [e 195 (by decide) (by decide)], fun k hk => by rw [e 194 (by decide) (by decide)], rfl⟩
theorem r_113w {b : Bool} {σ0 : ae_S} {F0 F : Nat → Nat → Int32} {c u g : Int32} (h : RS b σ0 F0 σ c u g F) {f k : Nat} {x y : Int32} (ef : x = nI f) (hf : f < 400) (ek : y = nI k) (hk : k < 12) : hE ra (d + 1) 113 [.ref 176, .int x, .int y] σ (pV (fun σ' => ∃ F', RS b σ0 F0 σ' c u g F' ∧ (∀ q, q ≠ 196 → q ≠ 213 → F' q = F q) ∧ F' 196 = upd (F 196) f 0)) := by
  refine h_in rfl rfl (Nat.le_of_ble_eq_true rfl) ?_
  refine h_st rfl rfl ?_
  refine h_st rfl (e_get h.2.1 rfl) ?_
  refine h_st rfl rfl ?_
  refine h_st rfl rfl ?_
  refine h_st rfl (q_ia h.a213 (ek) (hk) (by decide)) ?_
  refine h_st rfl rfl ?_
  refine h_st rfl rfl ?_
  refine r_ias rfl h m213 (fun _ => by decide) (by decide) (ek) (hk) (rfl) (fun σ2 h2 => ?_)
  replace h := h2
  clear h2
  refine h_st rfl rfl ?_
  refine h_st rfl (e_get h.2.1 rfl) ?_
  refine h_st rfl rfl ?_
  refine h_st rfl rfl ?_
  refine r_bas rfl h m196 (fun _ => by decide) (by decide) (ef) (hf) ((rfl : vp_nar .boolean 0 = 0)) (fun σ2 h2 => ?_)
  replace h := h2
  clear h2
  exact h_rv rfl (⟨_, rfl, _, h, fun q z1 z2 => (fu_n z1).trans (fu_n z2), by rw [fu_s, fu_n (by decide)]; rfl⟩)
theorem r_112bw {b : Bool} {σ0 : ae_S} {F0 F : Nat → Nat → Int32} {c u g : Int32} (h : RS b σ0 F0 σ c u g F) {f r C m : Nat} {x x1 x3 ev : Int32} (ef : x = nI f) (hf : f < 400) (hr : r < 48) (hm2 : F 198 r = nI m) (hmC : m ≤ C) (hev : (ev = 1 ∧ C = 16) ∨ (ev = 0 ∧ C = 4)) : hG ra (d + 1) 112 σ [some (.ref 176), some (.int x1), some (.int x), some (.int x3), some (.int ev), some (.int (nI r))] [] 35 (pV (fun σ' => ∃ F', RS b σ0 F0 σ' c u g F' ∧ ((m = C ∧ (∀ q, q ≠ 196 → q ≠ 213 → F' q = F q) ∧ F' 196 = upd (F 196) f 0) ∨ (m ≠ C ∧ F' = fu (fu F 197 (upd (F 197) (16 * r + m) (nI f))) 198 (upd (F 198) r (nI (m + 1))))))) := by
  have hent : m < C → hG ra (d + 1) 112 σ [some (.ref 176), some (.int x1), some (.int x), some (.int x3), some (.int ev), some (.int (nI r))] [] 64 (pV (fun σ' => ∃ F', RS b σ0 F0 σ' c u g F' ∧ ((m = C ∧ (∀ q, q ≠ 196 → q ≠ 213 → F' q = F q) ∧ F' 196 = upd (F 196) f 0) ∨ (m ≠ C ∧ F' = fu (fu F 197 (upd (F 197) (16 * r + m) (nI f))) 198 (upd (F 198) r (nI (m + 1))))))) := by
    intro hmC
    have hin : 16 * r + m < 768 := by omega
    have ei : (16 : Int32) * nI r + F 198 r = nI (16 * r + m) := by rw [hm2]; exact ix16 r m
    refine h_st rfl rfl ?_
    refine h_st rfl (e_get h.2.1 rfl) ?_
    refine h_st rfl rfl ?_
    refine h_st rfl rfl ?_
    refine h_st rfl rfl ?_
    refine h_st rfl rfl ?_
    refine h_st rfl (e_get h.2.1 rfl) ?_
    refine h_st rfl rfl ?_
    refine h_st rfl (q_ia h.a198 (rfl) (hr) (by decide)) ?_
    refine h_st rfl rfl ?_
    refine h_st rfl rfl ?_
    refine r_ias rfl h m197 (fun _ => by decide) (by decide) (ei) (hin) (ef) (fun σ2 h2 => ?_)
    replace h := h2
    clear h2
    refine h_st rfl rfl ?_
    refine h_st rfl (e_get h.2.1 rfl) ?_
    refine h_st rfl rfl ?_
    refine h_st rfl rfl ?_
    refine h_st rfl (q_ia h.a198 (rfl) (hr) (by decide)) ?_
    refine h_st rfl rfl ?_
    refine h_st rfl rfl ?_
    refine r_ias rfl h m198 (fun _ => by decide) (by decide) (rfl) (hr) (show F 198 r + 1 = nI (m + 1) from by rw [hm2]; exact nI_1 m) (fun σ2 h2 => ?_)
    replace h := h2
    clear h2
    exact h_rv rfl (⟨_, rfl, _, h, Or.inr ⟨by omega, rfl⟩⟩)
  rcases hev with ⟨rfl, rfl⟩ | ⟨rfl, rfl⟩
  · refine h_st rfl rfl ?_
    refine h_st rfl (e_get h.2.1 rfl) ?_
    refine h_st rfl rfl ?_
    refine h_st rfl (q_ia h.a198 (rfl) (hr) (by decide)) ?_
    refine h_st rfl rfl ?_
    refine h_st rfl rfl ?_
    refine h_pc (if_neg (by decide)) ?_
    refine h_st rfl rfl ?_
    refine h_st rfl rfl ?_
    refine h_st rfl rfl ?_
    refine h_br (fun q => hent (Nat.lt_of_le_of_ne (by omega) (fun z => q (by rw [hm2, z]; rfl)))) (fun q => ?_)
    refine h_st rfl rfl ?_
    refine h_st rfl rfl ?_
    refine h_st rfl rfl ?_
    refine h_cv3 rfl (Nat.le_of_ble_eq_true rfl) (e_rcv h.2.1) rfl (r_113w h ef hf (rfl : (6 : Int32) = nI 6) (by decide)) (fun σ2 hq => ?_)
    obtain ⟨F2, h2, ag2, e62⟩ := hq
    exact h_rv rfl (⟨_, rfl, F2, h2, Or.inl ⟨Decidable.of_not_not (fun z => q (by rw [hm2]; exact fun y => z (nI_inj (c := 16) (by omega) (by decide) y))), ag2, e62⟩⟩)
  · refine h_st rfl rfl ?_
    refine h_st rfl (e_get h.2.1 rfl) ?_
    refine h_st rfl rfl ?_
    refine h_st rfl (q_ia h.a198 (rfl) (hr) (by decide)) ?_
    refine h_st rfl rfl ?_
    refine h_st rfl rfl ?_
    refine h_pc (if_pos (by decide)) ?_
    refine h_st rfl rfl ?_
    refine h_st rfl rfl ?_
    refine h_br (fun q => hent (Nat.lt_of_le_of_ne (by omega) (fun z => q (by rw [hm2, z]; rfl)))) (fun q => ?_)
    refine h_st rfl rfl ?_
    refine h_st rfl rfl ?_
    refine h_st rfl rfl ?_
    refine h_cv3 rfl (Nat.le_of_ble_eq_true rfl) (e_rcv h.2.1) rfl (r_113w h ef hf (rfl : (6 : Int32) = nI 6) (by decide)) (fun σ2 hq => ?_)
    obtain ⟨F2, h2, ag2, e62⟩ := hq
    exact h_rv rfl (⟨_, rfl, F2, h2, Or.inl ⟨Decidable.of_not_not (fun z => q (by rw [hm2]; exact fun y => z (nI_inj (c := 4) (by omega) (by decide) y))), ag2, e62⟩⟩)
def rix (l : Nat) (x3 : Int32) : Nat := if ¬ x3 = 0 ∧ ¬ l % 12 < 4 then 2 * l + 1 else 2 * l
def rcp (l : Nat) : Nat := if l % 12 < 4 then 16 else 4
theorem r_112w {b : Bool} {σ0 : ae_S} {F0 F : Nat → Nat → Int32} {c u g : Int32} (h : RS b σ0 F0 σ c u g F) {f l m : Nat} {x x1 : Int32} (ef : x = nI f) (hf : f < 400) (el : x1 = nI l) (hl : l < 24) (x3 : Int32) (hm : F 198 (rix l x3) = nI m) (hmC : m ≤ rcp l) : hE ra (d + 2) 112 [.ref 176, .int x1, .int x, .int x3] σ (pV (fun σ' => ∃ F', RS b σ0 F0 σ' c u g F' ∧ ((m = rcp l ∧ (∀ q, q ≠ 196 → q ≠ 213 → F' q = F q) ∧ F' 196 = upd (F 196) f 0) ∨ (m ≠ rcp l ∧ F' = fu (fu F 197 (upd (F 197) (16 * rix l x3 + m) (nI f))) 198 (upd (F 198) (rix l x3) (nI (m + 1))))))) := by
  subst el
  have er : nI l - nI l / 12 * 12 = nI (l % 12) := pk_rem (a := l) (d := 12) (by omega) (by decide) (by decide)
  have e0 : (2 : Int32) * nI l + 0 = nI (2 * l) := by rw [show (2 : Int32) = nI 2 from rfl, pk_mul, Int32.add_zero]
  have e1 : (2 : Int32) * nI l + 1 = nI (2 * l + 1) := by rw [show (2 : Int32) = nI 2 from rfl, pk_mul, nI_1]
  by_cases hend : l % 12 < 4
  · refine h_in rfl rfl (Nat.le_of_ble_eq_true rfl) ?_
    refine h_st rfl rfl ?_
    refine h_st rfl rfl ?_
    refine h_st rfl (e_dv (by decide)) ?_
    refine h_st rfl rfl ?_
    refine h_st rfl rfl ?_
    refine h_pc (if_neg (fun z9 => (show ¬ (4 : Int32) ≤ nI l - nI l / 12 * 12 from by rw [er]; exact nI_ge hend (by decide)) (of_decide_eq_true z9))) ?_
    refine h_st rfl rfl ?_
    refine h_st rfl rfl ?_
    refine h_st rfl rfl ?_
    refine h_st rfl rfl ?_
    refine h_st rfl rfl ?_
    refine h_st rfl rfl ?_
    refine h_st rfl rfl ?_
    refine h_st rfl rfl ?_
    refine h_br (fun q1 => ?_) (fun q1 => ?_)
    · refine h_st rfl rfl ?_
      refine h_st rfl rfl ?_
      refine h_st rfl rfl ?_
      have ei : rix l x3 = 2 * l := if_neg (fun z => z.2 hend); have ec : rcp l = 16 := if_pos hend; rw [ei] at hm ⊢; rw [ec] at hmC ⊢; simp only [e0]; exact r_112bw h ef hf (by omega) hm hmC (Or.inl ⟨rfl, rfl⟩)
    · refine h_st rfl rfl ?_
      refine h_st rfl rfl ?_
      refine h_pc (if_pos (by decide)) ?_
      refine h_st rfl rfl ?_
      refine h_st rfl rfl ?_
      refine h_st rfl rfl ?_
      have ei : rix l x3 = 2 * l := if_neg (fun z => z.2 hend); have ec : rcp l = 16 := if_pos hend; rw [ei] at hm ⊢; rw [ec] at hmC ⊢; simp only [e0]; exact r_112bw h ef hf (by omega) hm hmC (Or.inl ⟨rfl, rfl⟩)
  · refine h_in rfl rfl (Nat.le_of_ble_eq_true rfl) ?_
    refine h_st rfl rfl ?_
    refine h_st rfl rfl ?_
    refine h_st rfl (e_dv (by decide)) ?_
    refine h_st rfl rfl ?_
    refine h_st rfl rfl ?_
    refine h_pc (if_pos (decide_eq_true (show (4 : Int32) ≤ nI l - nI l / 12 * 12 from by rw [er]; exact nI_le (Nat.le_of_not_lt hend) (by omega)))) ?_
    refine h_st rfl rfl ?_
    refine h_st rfl rfl ?_
    refine h_st rfl rfl ?_
    refine h_st rfl rfl ?_
    refine h_st rfl rfl ?_
    refine h_st rfl rfl ?_
    refine h_st rfl rfl ?_
    refine h_br (fun q1 => ?_) (fun q1 => ?_)
    · refine h_st rfl rfl ?_
      refine h_st rfl rfl ?_
      refine h_st rfl rfl ?_
      have ei : rix l x3 = 2 * l := if_neg (fun z => z.1 q1); have ec : rcp l = 4 := if_neg hend; rw [ei] at hm ⊢; rw [ec] at hmC ⊢; simp only [e0]; exact r_112bw h ef hf (by omega) hm hmC (Or.inr ⟨rfl, rfl⟩)
    · refine h_st rfl rfl ?_
      refine h_st rfl rfl ?_
      refine h_pc (if_neg (by decide)) ?_
      refine h_st rfl rfl ?_
      refine h_st rfl rfl ?_
      refine h_st rfl rfl ?_
      refine h_st rfl rfl ?_
      have ei : rix l x3 = 2 * l + 1 := if_pos ⟨q1, hend⟩; have ec : rcp l = 4 := if_neg hend; rw [ei] at hm ⊢; rw [ec] at hmC ⊢; simp only [e1]; exact r_112bw h ef hf (by omega) hm hmC (Or.inr ⟨rfl, rfl⟩)
/-- a frame in hand enters a row -/
theorem ML.enter {c m : Nat} {hi : Int32} (h : ML F v L) (hi24 : i < 24) (hX : RX F v f c x) (hc : 2000 ≤ c) (hm : F 198 (rix i hi) = nI m) (hmC : m ≤ rcp i) (hno : m ≠ rcp i) (hF : F' = fu (fu F 197 (upd (F 197) (16 * rix i hi + m) (nI f))) 198 (upd (F 198) (rix i hi) (nI (m + 1)))) : ML F' (fun q => if q = f then 1 + 16 * rix i hi + m else v q) (updL L i (enq i hi x (L i))) := by
  obtain ⟨⟨h1, h1'⟩, ⟨h2, h2'⟩, h3, h4⟩ := h i hi24
  have hv := hX.2.1
  have hfp : ∀ f', f' ≠ f → fpr F v F' (fun q => if q = f then 1 + 16 * rix i hi + m else v q) f' := fun f' hne => by
    subst hF
    exact ⟨by rw [fu_n (by decide), fu_n (by decide)], by rw [fu_n (by decide), fu_n (by decide)], fun k hk => by rw [fu_n (by decide), fu_n (by decide)], if_neg hne⟩
  have hX' : RX F' (fun q => if q = f then 1 + 16 * rix i hi + m else v q) f (1 + 16 * rix i hi + m) x := by
    subst hF
    obtain ⟨a1, a2, a3, a4, a5⟩ := hX
    refine ⟨a1, if_pos rfl, by rw [fu_n (by decide), fu_n (by decide)]; exact a3, by rw [fu_n (by decide), fu_n (by decide)]; exact a4, ?_⟩
    rw [fu_n (by decide), fu_n (by decide)]
    exact a5
  have e8 : F' 198 = upd (F 198) (rix i hi) (nI (m + 1)) := by rw [hF, fu_s]
  have e7 : F' 197 = upd (F 197) (16 * rix i hi + m) (nI f) := by rw [hF, fu_n (by decide), fu_s]
  have eo : ∀ q, q ≠ 197 → q ≠ 198 → F' q = F q := fun q z1 z2 => by rw [hF, fu_n z2, fu_n z1]
  have hrc : rcp i ≤ 16 := by
    unfold rcp
    split <;> omega
  have hm16 : m ≤ 15 := by omega
  have hrx : rix i hi < 48 := by
    unfold rix
    split <;> omega
  have row : ∀ r l, RRow F v r l → r < 48 → r ≠ rix i hi → RRow F' (fun q => if q = f then 1 + 16 * rix i hi + m else v q) r l := fun r l hr hr48 hne => hr.ag (by rw [e8, pk_un hne]) (fun j hj => by rw [e7, pk_un (by omega)]) (fun f' b1 b2 b3 => hfp f' (fun z => by rw [z] at b3; omega))
  have rown : ∀ l, RRow F v (rix i hi) l → l.length = m → m < 16 → RRow F' (fun q => if q = f then 1 + 16 * rix i hi + m else v q) (rix i hi) (l ++ [x]) := fun l hr hlm hm15 => by
    obtain ⟨b1, b2, b3⟩ := hr
    refine ⟨by rw [e8, pk_us, List.length_append, hlm]; rfl, by rw [List.length_append, hlm]; exact hm15, fun j y hy => ?_⟩
    by_cases cj : j < l.length
    · rw [List.getElem?_append_left cj] at hy
      obtain ⟨f', b4, b5⟩ := b3 j y hy
      have bv := b5.2.1
      exact ⟨f', by rw [e7, pk_un (by omega)]; exact b4, b5.ag (hfp f' (fun z => by rw [z] at bv; omega))⟩
    · rw [List.getElem?_append_right (by omega)] at hy
      have hj0 : j - l.length = 0 := by
        have := (List.getElem?_eq_some_iff.mp hy).1
        simp at this
        omega
      rw [hj0] at hy
      injection hy with hy
      rw [← hy, show j = m by omega]
      exact ⟨f, by rw [e7, pk_us], hX'⟩
  refine h.up ?_ (fun j hj hne => ?_)
  · have on' : Ron F' (fun q => if q = f then 1 + 16 * rix i hi + m else v q) i (L i).2.2.1 := h3.ag (by rw [eo 199 (by decide) (by decide)]) (by rw [eo 200 (by decide) (by decide)]) (fun f' b1 b2 b3 => hfp f' (fun z => by rw [z] at b3; omega))
    have hm' : Rhm F' i (L i).2.2.2 := h4.ag (by rw [eo 201 (by decide) (by decide)]) (by rw [eo 202 (by decide) (by decide)])
    by_cases ch : ¬ hi = 0 ∧ ¬ i % 12 < 4
    · have er : rix i hi = 2 * i + 1 := if_pos ch
      have ecp : cp1 i = 4 := if_neg ch.2
      have erc : rcp i = 4 := if_neg ch.2
      rw [er] at hm
      have hlm : (L i).2.1.length = m := nI_inj (by have := h2.2.1; omega) (by omega) (h2.1.symm.trans hm)
      have hlt : (L i).2.1.length < cp1 i := by omega
      unfold enq
      rw [if_pos ch, if_pos hlt]
      exact ⟨⟨row _ _ h1 (by omega) (by omega), h1'⟩, ⟨by have := rown (L i).2.1 (by rw [er]; exact h2) hlm (by omega); rw [er] at this; rw [er]; exact this, by show ((L i).2.1 ++ [x]).length ≤ _; rw [List.length_append]; exact hlt⟩, on', hm'⟩
    · have er : rix i hi = 2 * i := if_neg ch
      have ecp : rcp i = cp0 i := rfl
      rw [er] at hm
      have hlm : (L i).1.length = m := nI_inj (by have := h1.2.1; omega) (by omega) (h1.1.symm.trans hm)
      have hlt : (L i).1.length < cp0 i := by omega
      have hc16 := cp0_le i
      unfold enq
      rw [if_neg ch, if_pos hlt]
      exact ⟨⟨by have := rown (L i).1 (by rw [er]; exact h1) hlm (by omega); rw [er] at this; rw [er]; exact this, by show ((L i).1 ++ [x]).length ≤ _; rw [List.length_append]; exact hlt⟩, ⟨row _ _ h2 (by omega) (by omega), h2'⟩, on', hm'⟩
  · obtain ⟨⟨g1, g1'⟩, ⟨g2, g2'⟩, g3, g4⟩ := h j hj
    have hr : rix i hi = 2 * i ∨ rix i hi = 2 * i + 1 := by
      unfold rix
      split <;> omega
    exact ⟨⟨row _ _ g1 (by omega) (by omega), g1'⟩, ⟨row _ _ g2 (by omega) (by omega), g2'⟩, g3.ag (by rw [eo 199 (by decide) (by decide)]) (by rw [eo 200 (by decide) (by decide)]) (fun f' b1 b2 b3 => hfp f' (fun z => by rw [z] at b3; omega)), g4.ag (by rw [eo 201 (by decide) (by decide)]) (by rw [eo 202 (by decide) (by decide)])⟩
/-- the length of a row -/
theorem ML.len {hi : Int32} (h : ML F v L) (hi24 : i < 24) : ∃ m, F 198 (rix i hi) = nI m ∧ m ≤ rcp i ∧ (m = rcp i ↔ ¬ rom i hi (L i)) := by
  obtain ⟨⟨h1, h1'⟩, ⟨h2, h2'⟩, -⟩ := h i hi24
  by_cases ch : ¬ hi = 0 ∧ ¬ i % 12 < 4
  · have er : rix i hi = 2 * i + 1 := if_pos ch
    have e1 : cp1 i = 4 := if_neg ch.2
    have e2 : rcp i = 4 := if_neg ch.2
    rw [er]
    refine ⟨_, h2.1, by omega, ?_⟩
    unfold rom
    rw [if_pos ch]
    omega
  · have er : rix i hi = 2 * i := if_neg ch
    have e2 : rcp i = cp0 i := rfl
    rw [er]
    refine ⟨_, h1.1, by omega, ?_⟩
    unfold rom
    rw [if_neg ch]
    omega
theorem enq_no {hi : Int32} (h : ¬ rom i hi A) : enq i hi x A = A := by
  unfold rom at h
  unfold enq
  split
  · rename_i c
    rw [if_pos c] at h
    rw [if_neg h]
  · rename_i c
    rw [if_neg c] at h
    rw [if_neg h]
theorem updL_self (i : Nat) : updL L i (L i) = L := by
  funext j
  unfold updL
  by_cases c : j = i
  · rw [if_pos c, c]
  · rw [if_neg c]
theorem r_112m {b : Bool} {σ0 : ae_S} {F0 F : Nat → Nat → Int32} {c u g : Int32} (h : RS b σ0 F0 σ c u g F) {a e : List Nat} {v : Nat → Nat} {L : Nat → ALn} {x0 : AF} {f l cc : Nat} {x x1 : Int32} (hM : ML F v L) (hX : RX F v f cc x0) (hcc : 2000 ≤ cc) (ef : x = nI f) (hP : RP F g (f :: a) (f :: e)) (el : x1 = nI l) (hl : l < 24) (x3 : Int32) : hE ra (d + 2) 112 [.ref 176, .int x1, .int x, .int x3] σ (pV (fun σ' => ∃ F' v', RS b σ0 F0 σ' c u g F' ∧ RP F' g a e ∧ ML F' v' (updL L l (enq l x3 x0 (L l))) ∧ (∀ q, q < 196 ∨ (198 < q ∧ q ≠ 213) → F' q = F q) ∧ (∀ f', f' ≠ f → F' 196 f' = F 196 f' ∧ v' f' = v f'))) := by
  have hf := hX.1
  obtain ⟨m, hm, hmC, hro⟩ := hM.len (hi := x3) hl
  refine hE_mono (pV_and (r_112 h ef hf hP el hl x3) (r_112w h ef hf el hl x3 hm hmC)) (fun r z => ?_)
  obtain ⟨σ', er, ⟨F1, h1, hP1, ag1⟩, F2, h2, hF2⟩ := z
  refine ⟨σ', er, F2, ?_⟩
  have hP2 := hP1.tr h1 h2
  rcases hF2 with ⟨em, ag, e6⟩ | ⟨em, eF⟩
  · refine ⟨v, h2, hP2, ?_, fun q hq => ag q (by omega) (by omega), fun f' hne => ⟨by rw [e6, pk_un hne], rfl⟩⟩
    rw [enq_no (hro.mp em), updL_self]
    exact hM.free (by rw [hX.2.1]; exact hcc) ag e6
  · refine ⟨fun q => if q = f then 1 + 16 * rix l x3 + m else v q, h2, hP2, hM.enter hl hX hcc hm hmC em eF, fun q hq => by rw [eF, fu_n (by omega), fu_n (by omega)], fun f' hne => ⟨by rw [eF, fu_n (by decide), fu_n (by decide)], if_neg hne⟩⟩
end SY4
