section SY6
variable {ra : ae_R} {d : Nat} {σ : ae_S}
section S6
variable {F F' Fb : Nat → Nat → Int32} {v v' : Nat → Nat} {L : Nat → ALn} {A : ALn} {x : AF} {f i r : Nat}
/-- a frame in hand goes on a line -/
theorem ML.put {c : Nat} {x' : AF} (h : ML F v L) (hi : i < 24) (hv : v f = c) (hc : 2000 ≤ c) (hX : RX F' (fun q => if q = f then 1000 + i else v q) f (1000 + i) x') (h64 : 0 < x'.1) (e7 : F' 197 = F 197) (e8 : F' 198 = F 198) (e9 : F' 199 = upd (F 199) i (nI f)) (e0 : F' 200 = upd (F 200) i 0) (e1 : F' 201 = F 201) (e2 : F' 202 = upd (F 202) i (-1)) (e5 : F' 195 = F 195) (e6 : F' 196 = F 196) (e4 : ∀ j, ¬ (200 * f ≤ j ∧ j < 200 * f + 200) → F' 194 j = F 194 j) : ML F' (fun q => if q = f then 1000 + i else v q) (updL L i ((L i).1, (L i).2.1, some (x', 0), none)) := by
  have hfp : ∀ f', f' ≠ f → fpr F v F' (fun q => if q = f then 1000 + i else v q) f' := fun f' hne => ⟨by rw [e6], by rw [e5], fun k hk => e4 _ (by omega), if_neg hne⟩
  have row : ∀ r l, r < 48 → RRow F v r l → RRow F' (fun q => if q = f then 1000 + i else v q) r l := fun r l hr hl => hl.ag (by rw [e8]) (fun j hj => by rw [e7]) (fun f' a1 a2 a3 => hfp f' (fun z => by rw [z] at a3; omega))
  refine h.up ?_ (fun j hj hne => ?_)
  · obtain ⟨⟨h1, h1'⟩, ⟨h2, h2'⟩, h3, h4⟩ := h i hi
    exact ⟨⟨row _ _ (by omega) h1, h1'⟩, ⟨row _ _ (by omega) h2, h2'⟩, Or.inr ⟨x', 0, f, rfl, by rw [e9, pk_us], hX, by rw [e0, pk_us]; rfl, by omega⟩, Or.inl ⟨rfl, by rw [e2, pk_us]⟩⟩
  · obtain ⟨⟨h1, h1'⟩, ⟨h2, h2'⟩, h3, h4⟩ := h j hj
    exact ⟨⟨row _ _ (by omega) h1, h1'⟩, ⟨row _ _ (by omega) h2, h2'⟩, h3.ag (by rw [e9, pk_un hne]) (by rw [e0, pk_un hne]) (fun f' a1 a2 a3 => hfp f' (fun z => by rw [z] at a3; omega)), h4.ag (by rw [e1]) (by rw [e2, pk_un hne])⟩
end S6
theorem r_128g {b : Bool} {σ0 : ae_S} {F0 F : Nat → Nat → Int32} {c u g : Int32} (h : RS b σ0 F0 σ c u g F) {v : Nat → Nat} {L : Nat → ALn} {l f : Nat} {x : AF} (hM : ML F v L) (hX : RX F v f 2000 x) (hl : l < 24) (hmk : F 202 l ≤ 0) : hG ra (d + 2) 128 σ [some (.ref 176), some (.int (nI l)), some (.int (nI f))] [] 87 (pV (fun σ' => ∃ F' v', RS b σ0 F0 σ' c u g F' ∧ ML F' v' (updL L l ((L l).1, (L l).2.1, some (x, 0), none)) ∧ ∀ q, q < 194 ∨ (202 < q ∧ q ≠ 213) → F' q = F q)) := by
  have hf := hX.1
  refine h_st rfl rfl ?_
  refine h_st rfl rfl ?_
  refine h_st rfl rfl ?_
  refine h_pc (if_pos (decide_eq_true (nI_nm1 (by omega)))) ?_
  refine h_st rfl rfl ?_
  refine h_st rfl (e_get h.2.1 rfl) ?_
  refine h_st rfl rfl ?_
  refine h_st rfl (q_ia h.a202 (rfl) (hl) (by decide)) ?_
  refine h_st rfl rfl ?_
  refine h_pc (if_pos (decide_eq_true (hmk))) ?_
  refine h_st rfl rfl ?_
  refine h_st rfl (e_get h.2.1 rfl) ?_
  refine h_st rfl rfl ?_
  refine h_st rfl rfl ?_
  refine r_ias rfl h m202 (fun _ => by decide) (by decide) (rfl) (hl) (rfl) (fun σ2 h2 => ?_)
  replace h := h2
  clear h2
  refine h_st rfl rfl ?_
  refine h_st rfl (e_get h.2.1 rfl) ?_
  refine h_st rfl rfl ?_
  refine h_st rfl rfl ?_
  refine r_ias rfl h m199 (fun _ => by decide) (by decide) (rfl) (hl) (rfl) (fun σ2 h2 => ?_)
  replace h := h2
  clear h2
  refine h_st rfl rfl ?_
  refine h_st rfl (e_get h.2.1 rfl) ?_
  refine h_st rfl rfl ?_
  refine h_st rfl rfl ?_
  refine r_ias rfl h m200 (fun _ => by decide) (by decide) (rfl) (hl) (rfl) (fun σ2 h2 => ?_)
  replace h := h2
  clear h2
  refine h_rv rfl (⟨_, rfl, _, (fun q => if q = f then 1000 + l else v q), h, hM.put hl hX.2.1 (Nat.le_refl _) (hX := ?_) (by have := hX.2.2.2.2.1; omega) ?_ ?_ ?_ ?_ ?_ ?_ ?_ ?_ (fun j hj => ?_), fun q hq => by rw [fu_n (by omega), fu_n (by omega), fu_n (by omega)]⟩)
  · obtain ⟨a1, a2, a3, a4, a5, gc, a6, a7⟩ := hX
    exact ⟨a1, if_pos rfl, a3, a4, a5, gc, a6, a7⟩
  all_goals first | rfl | (simp only [fu]; rfl)
theorem r_128s {b : Bool} {σ0 : ae_S} {F0 F : Nat → Nat → Int32} {c u g : Int32} (h : RS b σ0 F0 σ c u g F) {v : Nat → Nat} {L : Nat → ALn} {l f : Nat} {x : AF} (hM : ML F v L) (hX : RX F v f 2000 x) (hl : l < 24) {k p : Nat} (hmk : F 202 l = nI k) (hk : 0 < k ∧ k < 256) (hp : F 201 l = nI p) (hp2 : p < 2 ^ 31) : hG ra (d + 2) 128 σ [some (.ref 176), some (.int (nI l)), some (.int (nI f))] [] 87 (pV (fun σ' => ∃ F' v', RS b σ0 F0 σ' c u g F' ∧ ML F' v' (updL L l ((L l).1, (L l).2.1, some (spo x p (nI k), 0), none)) ∧ ∀ q, q < 194 ∨ (202 < q ∧ q ≠ 213) → F' q = F q)) := by
  have hX' := hX
  obtain ⟨hf, a2, a3, a4, a5, gc, a6, a7, a8⟩ := hX'
  have hn := Nat.mod_lt p (show x.1 > 0 by omega)
  have em : F 201 l - F 201 l / F 195 f * F 195 f = nI (p % x.1) := by rw [hp, a4]; exact pk_rem hp2 (by omega) (by omega)
  have ei : (200 : Int32) * nI f + (F 201 l - F 201 l / F 195 f * F 195 f) = nI (200 * f + p % x.1) := by rw [em]; exact ix2 f _
  have ev : F 194 (200 * f + p % x.1) ^^^ F 202 l = (gc (p % x.1) ^^^ nI k) &&& 255 := by
    rw [a6 _ (by omega), hmk]
    obtain ⟨b, hb, eb⟩ := a7 (p % x.1) (by omega)
    rw [eb]
    obtain ⟨q, hq, eq⟩ := rg_xor (x := nI b) (y := nI k) ⟨b, hb, rfl⟩ ⟨k, hk.2, rfl⟩
    rw [eq, pk_andN (by omega) (m := 255) 8 (by decide), Nat.mod_eq_of_lt (by omega)]
  have hle : ¬ F 202 l ≤ 0 := by rw [hmk]; exact nI_nle hk.1 (by omega)
  have hz : ¬ F 195 f = 0 := by rw [a4]; exact nI_ne0 (by omega) (by omega)
  refine h_st rfl rfl ?_
  refine h_st rfl rfl ?_
  refine h_st rfl rfl ?_
  refine h_pc (if_pos (decide_eq_true (nI_nm1 (by omega)))) ?_
  refine h_st rfl rfl ?_
  refine h_st rfl (e_get h.2.1 rfl) ?_
  refine h_st rfl rfl ?_
  refine h_st rfl (q_ia h.a202 (rfl) (hl) (by decide)) ?_
  refine h_st rfl rfl ?_
  refine h_pc (if_neg (fun z9 => (hle) (of_decide_eq_true z9))) ?_
  refine h_st rfl rfl ?_
  refine h_st rfl (e_get h.2.1 rfl) ?_
  refine h_st rfl rfl ?_
  refine h_st rfl rfl ?_
  refine h_st rfl rfl ?_
  refine h_st rfl rfl ?_
  refine h_st rfl (e_get h.2.1 rfl) ?_
  refine h_st rfl rfl ?_
  refine h_st rfl (q_ia h.a201 (rfl) (hl) (by decide)) ?_
  refine h_st rfl rfl ?_
  refine h_st rfl (e_get h.2.1 rfl) ?_
  refine h_st rfl rfl ?_
  refine h_st rfl (q_ia h.a195 (rfl) (hf) (by decide)) ?_
  refine h_st rfl (e_dv hz) ?_
  refine h_st rfl rfl ?_
  refine h_st rfl rfl ?_
  refine h_st rfl (q_ia h.a194 (ei) (by omega) (by decide)) ?_
  refine h_st rfl rfl ?_
  refine h_st rfl (e_get h.2.1 rfl) ?_
  refine h_st rfl rfl ?_
  refine h_st rfl (q_ia h.a202 (rfl) (hl) (by decide)) ?_
  refine h_st rfl rfl ?_
  refine r_ias rfl h m194 (fun _ => by decide) (by decide) (ei) (by omega) (ev) (fun σ2 h2 => ?_)
  replace h := h2
  clear h2
  refine h_st rfl rfl ?_
  refine h_st rfl (e_get h.2.1 rfl) ?_
  refine h_st rfl rfl ?_
  refine h_st rfl rfl ?_
  refine r_ias rfl h m202 (fun _ => by decide) (by decide) (rfl) (hl) (rfl) (fun σ2 h2 => ?_)
  replace h := h2
  clear h2
  refine h_st rfl rfl ?_
  refine h_st rfl (e_get h.2.1 rfl) ?_
  refine h_st rfl rfl ?_
  refine h_st rfl rfl ?_
  refine r_ias rfl h m199 (fun _ => by decide) (by decide) (rfl) (hl) (rfl) (fun σ2 h2 => ?_)
  replace h := h2
  clear h2
  refine h_st rfl rfl ?_
  refine h_st rfl (e_get h.2.1 rfl) ?_
  refine h_st rfl rfl ?_
  refine h_st rfl rfl ?_
  refine r_ias rfl h m200 (fun _ => by decide) (by decide) (rfl) (hl) (rfl) (fun σ2 h2 => ?_)
  replace h := h2
  clear h2
  refine h_rv rfl (⟨_, rfl, _, (fun q => if q = f then 1000 + l else v q), h, hM.put hl hX.2.1 (Nat.le_refl _) (hX := ?_) (by show 0 < x.1; omega) ?_ ?_ ?_ ?_ ?_ ?_ ?_ ?_ (fun j hj => ?_), fun q hq => by rw [fu_n (by omega), fu_n (by omega), fu_n (by omega), fu_n (by omega)]⟩)
  · refine ⟨hf, if_pos rfl, a3, a4, a5, ub gc (p % x.1) (gc (p % x.1) ^^^ nI k), fun q hq => ?_, byt_ub a7, fun q hq => ?_⟩
    · show upd (F 194) (200 * f + p % x.1) ((gc (p % x.1) ^^^ nI k) &&& 255) (200 * f + q) = _
      by_cases cq : q = p % x.1
      · rw [cq, pk_us, ub_s]
      · rw [pk_un (by omega), ub_ne cq]
        exact a6 q hq
    · show ub gc (p % x.1) (gc (p % x.1) ^^^ nI k) q = ub x.2 (p % x.1) (x.2 (p % x.1) ^^^ nI k) q
      by_cases cq : q = p % x.1
      · rw [cq, ub_s, ub_s, a8 _ hn]
      · rw [ub_ne cq, ub_ne cq]
        exact a8 q hq
  rotate_right
  · show upd (F 194) (200 * f + p % x.1) ((gc (p % x.1) ^^^ nI k) &&& 255) j = F 194 j
    exact pk_un (by omega)
  all_goals first | rfl | (simp only [fu]; rfl)
end SY6
