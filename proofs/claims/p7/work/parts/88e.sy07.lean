section SY7
variable {ra : ae_R} {d : Nat} {σ : ae_S}
section S7
variable {F F' Fb : Nat → Nat → Int32} {v v' : Nat → Nat} {L : Nat → ALn} {A A' : ALn} {x : AF} {f i r : Nat}
theorem updL_s : updL L i A i = A := if_pos rfl
theorem updL_u : updL (updL L i A) i A' = updL L i A' := by
  funext j
  unfold updL
  by_cases c : j = i
  · rw [if_pos c, if_pos c]
  · rw [if_neg c, if_neg c, if_neg c]
/-- harm is told anew, or is over -/
theorem ML.hm {o : Option (Nat × Int32)} (h : ML F v L) (hi : i < 24) (hm : Rhm F' i o) (e : ∀ q, q ≠ 201 → q ≠ 202 → F' q = F q) (e1 : ∀ j, j ≠ i → F' 201 j = F 201 j ∧ F' 202 j = F 202 j) : ML F' v (updL L i ((L i).1, (L i).2.1, (L i).2.2.1, o)) := by
  have hfp : ∀ f', fpr F v F' v f' := fun f' => ⟨by rw [e 196 (by decide) (by decide)], by rw [e 195 (by decide) (by decide)], fun k hk => by rw [e 194 (by decide) (by decide)], rfl⟩
  have row : ∀ r l, RRow F v r l → RRow F' v r l := fun r l hl => hl.ag (by rw [e 198 (by decide) (by decide)]) (fun j hj => by rw [e 197 (by decide) (by decide)]) (fun f' a1 a2 a3 => hfp f')
  have on : ∀ j o, Ron F v j o → Ron F' v j o := fun j o ho => ho.ag (by rw [e 199 (by decide) (by decide)]) (by rw [e 200 (by decide) (by decide)]) (fun f' a1 a2 a3 => hfp f')
  refine h.up ?_ (fun j hj hne => ?_)
  · obtain ⟨⟨h1, h1'⟩, ⟨h2, h2'⟩, h3, h4⟩ := h i hi
    exact ⟨⟨row _ _ h1, h1'⟩, ⟨row _ _ h2, h2'⟩, on _ _ h3, hm⟩
  · obtain ⟨⟨h1, h1'⟩, ⟨h2, h2'⟩, h3, h4⟩ := h j hj
    exact ⟨⟨row _ _ h1, h1'⟩, ⟨row _ _ h2, h2'⟩, on _ _ h3, h4.ag (e1 j hne).1 (e1 j hne).2⟩
end S7
theorem r_128w {b : Bool} {σ0 : ae_S} {F0 F : Nat → Nat → Int32} {c u g : Int32} (h : RS b σ0 F0 σ c u g F) {v : Nat → Nat} {L : Nat → ALn} {l : Nat} {x1 : Int32} (hM : ML F v L) (el : x1 = nI l) (hl : l < 24) : hE ra (d + 3) 128 [.ref 176, .int x1] σ (pV (fun σ' => ∃ F' v', RS b σ0 F0 σ' c u g F' ∧ ML F' v' (if (L l).2.2.1.isNone = true then updL L l (ld (L l)) else L) ∧ ∀ q, q < 194 ∨ (202 < q ∧ q ≠ 213) → F' q = F q)) := by
  subst el
  have hA := hM l hl
  obtain ⟨hA1, hA2, hon, hhm⟩ := hA
  rcases hon with ⟨eo, e9⟩ | ⟨x0, t0, f0, eo, e9, hX0, -⟩
  · have hif : (if (L l).2.2.1.isNone = true then updL L l (ld (L l)) else L) = updL L l (ld (L l)) := by rw [eo]; rfl
    rw [hif]
    refine h_in rfl rfl (Nat.le_of_ble_eq_true rfl) ?_
    refine h_st rfl rfl ?_
    refine h_st rfl (e_get h.2.1 rfl) ?_
    refine h_st rfl rfl ?_
    refine h_st rfl (q_ia h.a199 (rfl) (hl) (by decide)) ?_
    refine h_st rfl rfl ?_
    refine h_st rfl rfl ?_
    refine h_pc (if_pos (decide_eq_true (e9))) ?_
    refine r_128ta h hM hl (fun σ1 F1 v1 y1 h1 hT => ?_)
    rcases hT with ⟨t1, ey, eF, ev, eL⟩ | ⟨x, f, t1, ey, hf, hX, hM1, ag⟩
    · subst ey
      subst eF
      subst ev
      have el : ld (L l) = L l := by
        have e2 : ld (L l) = ((tk (L l).1 (L l).2.1).2.1, (tk (L l).1 (L l).2.1).2.2, none, (L l).2.2.2) := by
          unfold ld
          generalize tk (L l).1 (L l).2.1 = z at t1
          obtain ⟨z1, z2, z3⟩ := z
          cases t1
          rfl
        rw [e2]
        refine Eq.trans ?_ eL
        rw [← eo]
      rw [el, updL_self]
      refine h_st rfl rfl ?_
      refine h_st rfl rfl ?_
      refine h_st rfl rfl ?_
      refine h_pc (if_pos (by decide)) ?_
      refine h_st rfl rfl ?_
      refine h_st rfl rfl ?_
      refine h_st rfl rfl ?_
      refine h_pc (if_neg (by decide)) ?_
      exact h_rv rfl (⟨_, rfl, _, v1, h1, hM, fun q _ => rfl⟩)
    · subst ey
      have e2 : F1 202 l = F 202 l := by rw [ag 202 (by decide) (by decide)]
      have e1 : F1 201 l = F 201 l := by rw [ag 201 (by decide) (by decide)]
      have eon : (L l).2.2 = (none, (L l).2.2.2) := by rw [← eo]
      rcases hhm with ⟨eh, em⟩ | ⟨p, mk, eh, ep, hp, em, k, hk, ek⟩
      · have el : ld (L l) = ((tk (L l).1 (L l).2.1).2.1, (tk (L l).1 (L l).2.1).2.2, some (x, 0), none) := by
          unfold ld
          rw [eh]
          generalize tk (L l).1 (L l).2.1 = z at t1
          obtain ⟨z1, z2, z3⟩ := z
          cases t1
          rfl
        have hm1 : F1 202 l = -1 := e2.trans em
        have hz : ¬ F1 202 l = 0 := by rw [hm1]; decide
        have fin := r_128g (ra := ra) (d := d) h1 hM1 hX hl (by rw [hm1]; decide)
        rw [updL_s, updL_u] at fin
        rw [el]
        refine h_st rfl rfl ?_
        refine h_st rfl rfl ?_
        refine h_st rfl rfl ?_
        refine h_pc (if_neg (fun z9 => (nI_nm1 (by omega)) (of_decide_eq_true z9))) ?_
        refine h_st rfl rfl ?_
        refine h_st rfl (e_get h1.2.1 rfl) ?_
        refine h_st rfl rfl ?_
        refine h_st rfl (q_ia h1.a202 (rfl) (hl) (by decide)) ?_
        refine h_st rfl rfl ?_
        refine h_pc (if_pos (decide_eq_true (hz))) ?_
        refine hG_mono fin (fun r z => ?_)
        obtain ⟨σ', er, F', v', a1, a2, a3⟩ := z
        exact ⟨σ', er, F', v', a1, a2, fun q hq => (a3 q hq).trans (ag q (by omega) (by omega))⟩
      · rw [ek] at em eh
        by_cases k0 : k = 0
        · subst k0
          have hm1 : F1 202 l = 0 := e2.trans em
          refine h_st rfl rfl ?_
          refine h_st rfl rfl ?_
          refine h_st rfl rfl ?_
          refine h_pc (if_neg (fun z9 => (nI_nm1 (by omega)) (of_decide_eq_true z9))) ?_
          refine h_st rfl rfl ?_
          refine h_st rfl (e_get h1.2.1 rfl) ?_
          refine h_st rfl rfl ?_
          refine h_st rfl (q_ia h1.a202 (rfl) (hl) (by decide)) ?_
          refine h_st rfl rfl ?_
          refine h_pc (if_neg (fun z9 => (fun z => z hm1) (of_decide_eq_true z9))) ?_
          refine h_st rfl rfl ?_
          refine h_st rfl (e_get h1.2.1 rfl) ?_
          refine h_st rfl rfl ?_
          refine h_st rfl rfl ?_
          refine r_ias rfl h1 m202 (fun _ => by decide) (by decide) rfl hl rfl (fun σ2 h2 => ?_)
          have hM2 := hM1.hm (F' := fu F1 202 (upd (F1 202) l (-1))) (o := none) hl (Or.inl ⟨rfl, by rw [fu_s, pk_us]⟩) (fun q z1 z2 => fu_n z2) (fun j hj => ⟨by rw [fu_n (by decide)], by rw [fu_s, pk_un hj]⟩)
          rw [updL_s, updL_u] at hM2
          have hX2 : RX (fu F1 202 (upd (F1 202) l (-1))) v1 f 2000 x := hX.ag ⟨by rw [fu_n (by decide)], by rw [fu_n (by decide)], fun k hk => by rw [fu_n (by decide)], rfl⟩
          refine h_st rfl rfl ?_
          refine h_st rfl rfl ?_
          refine h_st rfl rfl ?_
          refine h_cv3 rfl (Nat.le_of_ble_eq_true rfl) (e_rcv h2.2.1) rfl (r_113w h2 rfl hf (rfl : (0 : Int32) = nI 0) (by decide)) (fun σ3 hq3 => ?_)
          obtain ⟨F3, h3, ag3, e63⟩ := hq3
          have hM3 := hM2.free (f := f) (by rw [hX2.2.1]; exact Nat.le_refl _) ag3 e63
          refine r_128tb h3 hM3 hl (fun σ4 F4 v4 y4 h4 hT4 => ?_)
          have ag4 : ∀ F4 : Nat → Nat → Int32, (∀ q, q ≠ 197 → q ≠ 198 → F4 q = F3 q) → ∀ q, q < 194 ∨ (202 < q ∧ q ≠ 213) → F4 q = F q := fun F4 z q hq => (z q (by omega) (by omega)).trans ((ag3 q (by omega) (by omega)).trans ((fu_n (by omega)).trans (ag q (by omega) (by omega))))
          have el : ld (L l) = (match tk (tk (L l).1 (L l).2.1).2.1 (tk (L l).1 (L l).2.1).2.2 with | (none, p', h') => (p', h', none, none) | (some z, p', h') => (p', h', some (z, 0), none)) := by
            unfold ld
            rw [eh]
            generalize tk (L l).1 (L l).2.1 = z at t1
            obtain ⟨z1, z2, z3⟩ := z
            cases t1
            exact if_pos rfl
          have h42 : F3 202 l = -1 := by rw [ag3 202 (by decide) (by decide), fu_s, pk_us]
          unfold TK at hT4
          rw [updL_s, updL_u] at hT4
          simp only at hT4
          rw [el]
          generalize tk (tk (L l).1 (L l).2.1).2.1 (tk (L l).1 (L l).2.1).2.2 = z at hT4
          obtain ⟨z1, z2, z3⟩ := z
          simp only at hT4
          rcases hT4 with ⟨t4, ey4, eF4, ev4, eL4⟩ | ⟨x4, f4, t4, ey4, hf4, hX4, hM4, ag44⟩
          · subst ey4
            subst eF4
            subst ev4
            subst t4
            show hG ra (d + 2) 128 σ4 _ [] 34 (pV (fun σ' => ∃ F' v', RS b σ0 F0 σ' c u g F' ∧ ML F' v' (updL L l (z2, z3, none, none)) ∧ ∀ q, q < 194 ∨ (202 < q ∧ q ≠ 213) → F' q = F q))
            rw [eo] at eL4 hM3
            rw [eL4]
            refine h_st rfl rfl ?_
            refine h_st rfl rfl ?_
            refine h_st rfl rfl ?_
            refine h_pc (if_pos (by decide)) ?_
            refine h_st rfl rfl ?_
            refine h_st rfl rfl ?_
            refine h_st rfl rfl ?_
            refine h_pc (if_neg (by decide)) ?_
            exact h_rv rfl (⟨_, rfl, _, v4, h4, hM3, ag4 _ (fun q _ _ => rfl)⟩)
          · subst ey4
            subst t4
            show hG ra (d + 2) 128 σ4 _ [] 34 (pV (fun σ' => ∃ F' v', RS b σ0 F0 σ' c u g F' ∧ ML F' v' (updL L l (z2, z3, some (x4, 0), none)) ∧ ∀ q, q < 194 ∨ (202 < q ∧ q ≠ 213) → F' q = F q))
            have e42 : F4 202 l = -1 := by rw [ag44 202 (by decide) (by decide), h42]
            have hz : ¬ F4 202 l = 0 := by rw [e42]; decide
            have fin := r_128g (ra := ra) (d := d) h4 hM4 hX4 hl (by rw [e42]; decide)
            rw [updL_s, updL_u] at fin
            refine h_st rfl rfl ?_
            refine h_st rfl rfl ?_
            refine h_st rfl rfl ?_
            refine h_pc (if_neg (fun z9 => (nI_nm1 (by omega)) (of_decide_eq_true z9))) ?_
            refine h_st rfl rfl ?_
            refine h_st rfl (e_get h4.2.1 rfl) ?_
            refine h_st rfl rfl ?_
            refine h_st rfl (q_ia h4.a202 (rfl) (hl) (by decide)) ?_
            refine h_st rfl rfl ?_
            refine h_pc (if_pos (decide_eq_true (hz))) ?_
            refine hG_mono fin (fun r z => ?_)
            obtain ⟨σ', er, F', v', a1, a2, a3⟩ := z
            exact ⟨σ', er, F', v', a1, a2, fun q hq => (a3 q hq).trans (ag4 F4 ag44 q hq)⟩
        · have hm1 : F1 202 l = nI k := e2.trans em
          have hz : ¬ F1 202 l = 0 := by rw [hm1]; exact nI_ne0 (by omega) (by omega)
          have el : ld (L l) = ((tk (L l).1 (L l).2.1).2.1, (tk (L l).1 (L l).2.1).2.2, some (spo x p (nI k), 0), none) := by
            unfold ld
            rw [eh]
            generalize tk (L l).1 (L l).2.1 = z at t1
            obtain ⟨z1, z2, z3⟩ := z
            cases t1
            exact if_neg (nI_ne0 (by omega) (by omega))
          have fin := r_128s (ra := ra) (d := d) h1 hM1 hX hl hm1 ⟨by omega, hk⟩ (e1.trans ep) hp
          rw [updL_s, updL_u] at fin
          rw [el]
          refine h_st rfl rfl ?_
          refine h_st rfl rfl ?_
          refine h_st rfl rfl ?_
          refine h_pc (if_neg (fun z9 => (nI_nm1 (by omega)) (of_decide_eq_true z9))) ?_
          refine h_st rfl rfl ?_
          refine h_st rfl (e_get h1.2.1 rfl) ?_
          refine h_st rfl rfl ?_
          refine h_st rfl (q_ia h1.a202 (rfl) (hl) (by decide)) ?_
          refine h_st rfl rfl ?_
          refine h_pc (if_pos (decide_eq_true (hz))) ?_
          refine hG_mono fin (fun r z => ?_)
          obtain ⟨σ', er, F', v', a1, a2, a3⟩ := z
          exact ⟨σ', er, F', v', a1, a2, fun q hq => (a3 q hq).trans (ag q (by omega) (by omega))⟩
  · have hif : (if (L l).2.2.1.isNone = true then updL L l (ld (L l)) else L) = L := by rw [eo]; rfl
    rw [hif]
    have hf0 := hX0.1
    have hne : ¬ F 199 l = -1 := by rw [e9]; exact nI_nm1 (by omega)
    refine h_in rfl rfl (Nat.le_of_ble_eq_true rfl) ?_
    refine h_st rfl rfl ?_
    refine h_st rfl (e_get h.2.1 rfl) ?_
    refine h_st rfl rfl ?_
    refine h_st rfl (q_ia h.a199 (rfl) (hl) (by decide)) ?_
    refine h_st rfl rfl ?_
    refine h_st rfl rfl ?_
    refine h_pc (if_neg (fun z9 => (hne) (of_decide_eq_true z9))) ?_
    exact h_rv rfl (⟨_, rfl, F, v, h, hM, fun q _ => rfl⟩)
end SY7
