section SP5
variable {ra : ae_R} {d : Nat} {σ : ae_S}
theorem St.ini {p : Nat} {x : ae_C} (hp : σ.2[p]? = some x) : St σ p σ σ.1 σ.2.length [(p, x)] := ⟨rfl, rfl, Nat.le_refl _, fun q hq => by rw [List.mem_singleton.mp hq]; exact ⟨hp, Or.inl rfl⟩, fun _ _ _ => rfl⟩
theorem St.one {σ0 : ae_S} {e : Nat} {c : Nat × Nat} {N : Nat} {T : List (Nat × ae_C)} {p : Nat} {x : ae_C} (h : St σ0 e σ c N T) (i : Nat) (hi : T[i]? = some (p, x)) : St σ0 e σ c N [(p, x)] := h.sub (fun q hq => by rw [List.mem_singleton.mp hq]; exact List.mem_of_getElem? hi)
theorem St.any {σ0 : ae_S} {e : Nat} {c : Nat × Nat} {N n : Nat} {p ci : Nat} {fs : List Value} (h : St σ0 e σ c N [(p, .inr (ci, fs))]) (hn : fs.length = n) : ∃ fs' : List Value, fs'.length = n ∧ St σ0 e σ c N [(p, .inr (ci, fs'))] := ⟨fs, hn, h⟩
theorem t_pu {mid pc np : Nat} {σ0 : ae_S} {e : Nat} {c : Nat × Nat} {N : Nat} {T : List (Nat × ae_C)} {p : Nat} {L : ae_Ls} {k : List Value} {P : ae_S × ae_O → Prop} {ci kk n : Nat} {ok : Value → Bool} {fs : List Value} {v : Value} (i : Nat) (ht : ae_tab (at0 mid) pc = some (.inl (o_put ci kk ok np))) (h : St σ0 e σ c N T) (hi : T[i]? = some (p, .inr (ci, fs))) (hd : ap p T i) (hv : ok v = true) (hln : fs.length = n) (hl : kk < n)
    (hc : ∀ σ' (fs' : List Value), fs'.length = n → St σ0 e σ' c N (T.set i (p, .inr (ci, fs'))) → hG ra d mid σ' L k np P) : hG ra d mid σ L (v :: .ref p :: k) pc P := t_put i ht h hi hd hv (hln ▸ hl) (fun σ' hs => hc σ' (fs.set kk v) (by rw [List.length_set]; exact hln) hs)
theorem St.lt {σ0 : ae_S} {e : Nat} {c : Nat × Nat} {N : Nat} {T : List (Nat × ae_C)} {p : Nat} {x : ae_C} (h : St σ0 e σ c N T) (i : Nat) (hi : T[i]? = some (p, x)) : p < N := by
  rw [← h.2.1]
  exact (List.getElem?_eq_some_iff.mp (h.at i hi)).1
/-- behind a call that has moved one tracked cell -/
theorem St.call {σ0 σ' : ae_S} {e : Nat} {c c' : Nat × Nat} {N N' : Nat} {T : List (Nat × ae_C)} {p : Nat} {x y : ae_C} {i : Nat} (h : St σ0 e σ c N T) (hi : T[i]? = some (p, x)) (hd : ap p T i) (h' : St σ p σ' c' N' [(p, y)]) : St σ0 e σ' c' N' (T.set i (p, y)) := by
  have h0 := h.2.2.2.1 _ (List.mem_of_getElem? hi)
  have hl := h.2.1
  have hl' := h'.2.2.1
  refine ⟨h'.1, h'.2.1, Nat.le_trans h.2.2.1 (by omega), fun q hq => ?_, fun q h1 h2 => ?_⟩
  · rcases ap_set hd hq with rfl | ⟨h1, h2⟩
    · exact ⟨h'.at 0 rfl, h0.2⟩
    · obtain ⟨q1, q2⟩ := h.2.2.2.1 q h1
      exact ⟨(h'.2.2.2.2 q.1 (List.getElem?_eq_some_iff.mp q1).1 h2).trans q1, q2⟩
  · have hne : q ≠ p := by
      rcases h0.2 with z | z
      · exact fun y => h2 (by rw [y]; exact z)
      · exact fun y => absurd h1 (by rw [y]; exact Nat.not_lt.mpr z)
    have := h.2.2.1
    exact (h'.2.2.2.2 q (by omega) hne).trans (h.2.2.2.2 q h1 h2)
/-- what a maker leaves -/
def Mk (σ : ae_S) (p ci a b : Nat) (σ' : ae_S) : Prop := ∃ c N fs, St σ p σ' c N [(p, .inr (ci, fs))] ∧ c.1 ≤ σ.1.1 + a ∧ c.2 ≤ σ.1.2 + b
theorem k_3 {p : Nat}  (hp : σ.2[p]? = some (.inr (0, cd_Datagram))) : hE ra (d + 1) 3 [.ref p] σ (pV (Mk σ p 0 1 1000)) := by
  have hplt := (List.getElem?_eq_some_iff.mp hp).1
  have hs := St.ini hp
  unfold Mk
  refine h_in rfl rfl (Nat.le_of_ble_eq_true rfl) ?_
  refine h_st rfl rfl ?_
  refine h_st rfl rfl ?_
  refine h_st rfl rfl ?_
  refine h_st rfl rfl ?_
  refine t_na rfl hs (by decide) (fun σ hs2 => ?_)
  replace hs := hs2
  clear hs2
  refine t_put 0 rfl hs rfl (by simp [ap, apA] <;> omega) (rfl) (Nat.le_of_ble_eq_true rfl) (fun σ hs2 => ?_)
  replace hs := hs2
  clear hs2
  refine h_st rfl rfl ?_
  refine h_st rfl rfl ?_
  refine t_put 0 rfl hs rfl (by simp [ap, apA] <;> omega) (rfl) (Nat.le_of_ble_eq_true rfl) (fun σ hs2 => ?_)
  replace hs := hs2
  clear hs2
  exact h_rv rfl (⟨_, rfl, _, _, _, hs.one 0 rfl, Nat.le_refl _, Nat.le_refl _⟩)
theorem k_2 {p : Nat}  (hp : σ.2[p]? = some (.inr (2, cd_Frame))) : hE ra (d + 1) 2 [.ref p] σ (pV (Mk σ p 2 1 200)) := by
  have hplt := (List.getElem?_eq_some_iff.mp hp).1
  have hs := St.ini hp
  unfold Mk
  refine h_in rfl rfl (Nat.le_of_ble_eq_true rfl) ?_
  refine h_st rfl rfl ?_
  refine h_st rfl rfl ?_
  refine h_st rfl rfl ?_
  refine h_st rfl rfl ?_
  refine t_na rfl hs (by decide) (fun σ hs2 => ?_)
  replace hs := hs2
  clear hs2
  refine t_put 0 rfl hs rfl (by simp [ap, apA] <;> omega) (rfl) (Nat.le_of_ble_eq_true rfl) (fun σ hs2 => ?_)
  replace hs := hs2
  clear hs2
  refine h_st rfl rfl ?_
  refine h_st rfl rfl ?_
  refine t_put 0 rfl hs rfl (by simp [ap, apA] <;> omega) (rfl) (Nat.le_of_ble_eq_true rfl) (fun σ hs2 => ?_)
  replace hs := hs2
  clear hs2
  exact h_rv rfl (⟨_, rfl, _, _, _, hs.one 0 rfl, Nat.le_refl _, Nat.le_refl _⟩)
theorem k_85 {p : Nat}  (hp : σ.2[p]? = some (.inr (1, cd_Fragment))) : hE ra (d + 1) 85 [.ref p] σ (pV (Mk σ p 1 0 0)) := by
  have hplt := (List.getElem?_eq_some_iff.mp hp).1
  have hs := St.ini hp
  unfold Mk
  refine h_in rfl rfl (Nat.le_of_ble_eq_true rfl) ?_
  refine h_st rfl rfl ?_
  refine h_st rfl rfl ?_
  refine h_st rfl rfl ?_
  refine h_st rfl rfl ?_
  refine t_put 0 rfl hs rfl (by simp [ap, apA] <;> omega) (rfl) (Nat.le_of_ble_eq_true rfl) (fun σ hs2 => ?_)
  replace hs := hs2
  clear hs2
  refine h_st rfl rfl ?_
  refine h_st rfl rfl ?_
  refine t_put 0 rfl hs rfl (by simp [ap, apA] <;> omega) (rfl) (Nat.le_of_ble_eq_true rfl) (fun σ hs2 => ?_)
  replace hs := hs2
  clear hs2
  refine h_st rfl rfl ?_
  refine h_st rfl rfl ?_
  refine t_put 0 rfl hs rfl (by simp [ap, apA] <;> omega) (rfl) (Nat.le_of_ble_eq_true rfl) (fun σ hs2 => ?_)
  replace hs := hs2
  clear hs2
  refine h_st rfl rfl ?_
  refine h_st rfl rfl ?_
  refine t_put 0 rfl hs rfl (by simp [ap, apA] <;> omega) (rfl) (Nat.le_of_ble_eq_true rfl) (fun σ hs2 => ?_)
  replace hs := hs2
  clear hs2
  refine h_st rfl rfl ?_
  refine h_st rfl rfl ?_
  refine t_put 0 rfl hs rfl (by simp [ap, apA] <;> omega) (rfl) (Nat.le_of_ble_eq_true rfl) (fun σ hs2 => ?_)
  replace hs := hs2
  clear hs2
  refine h_st rfl rfl ?_
  refine h_st rfl rfl ?_
  refine t_put 0 rfl hs rfl (by simp [ap, apA] <;> omega) (rfl) (Nat.le_of_ble_eq_true rfl) (fun σ hs2 => ?_)
  replace hs := hs2
  clear hs2
  exact h_rv rfl (⟨_, rfl, _, _, _, hs.one 0 rfl, Nat.le_refl _, Nat.le_refl _⟩)
theorem k_84 {p : Nat} {z sk : Int32} (hz : k_bool (.int z) = true) (hp : σ.2[p]? = some (.inr (5, cd_Port))) : hE ra (d + 2) 84 [.ref p, .int z, .int sk] σ (pV (Mk σ p 5 4 1008)) := by
  have hplt := (List.getElem?_eq_some_iff.mp hp).1
  have hs := St.ini hp
  unfold Mk
  refine h_in rfl rfl (Nat.le_of_ble_eq_true rfl) ?_
  refine h_st rfl rfl ?_
  refine h_st rfl rfl ?_
  refine h_st rfl rfl ?_
  refine h_st rfl rfl ?_
  refine t_na rfl hs (by decide) (fun σ hs2 => ?_)
  replace hs := hs2
  clear hs2
  refine h_st rfl rfl ?_
  refine h_st rfl rfl ?_
  refine h_st rfl rfl ?_
  refine t_ias 1 rfl hs rfl (by simp [ap, apA] <;> omega) (by decide) (fun σ f hs2 => ?_)
  replace hs := hs2
  clear hs2
  refine h_st rfl rfl ?_
  refine h_st rfl rfl ?_
  refine h_st rfl rfl ?_
  refine t_ias 1 rfl hs rfl (by simp [ap, apA] <;> omega) (by decide) (fun σ f hs2 => ?_)
  replace hs := hs2
  clear hs2
  refine t_put 0 rfl hs rfl (by simp [ap, apA] <;> omega) (rfl) (Nat.le_of_ble_eq_true rfl) (fun σ hs2 => ?_)
  replace hs := hs2
  clear hs2
  refine h_st rfl rfl ?_
  refine h_st rfl rfl ?_
  refine t_put 0 rfl hs rfl (by simp [ap, apA] <;> omega) (rfl) (Nat.le_of_ble_eq_true rfl) (fun σ hs2 => ?_)
  replace hs := hs2
  clear hs2
  refine h_st rfl rfl ?_
  refine h_st rfl rfl ?_
  refine t_put 0 rfl hs rfl (by simp [ap, apA] <;> omega) (rfl) (Nat.le_of_ble_eq_true rfl) (fun σ hs2 => ?_)
  replace hs := hs2
  clear hs2
  refine h_st rfl rfl ?_
  refine h_st rfl rfl ?_
  refine t_put 0 rfl hs rfl (by simp [ap, apA] <;> omega) (rfl) (Nat.le_of_ble_eq_true rfl) (fun σ hs2 => ?_)
  replace hs := hs2
  clear hs2
  refine h_st rfl rfl ?_
  refine h_st rfl rfl ?_
  refine t_put 0 rfl hs rfl (by simp [ap, apA] <;> omega) (rfl) (Nat.le_of_ble_eq_true rfl) (fun σ hs2 => ?_)
  replace hs := hs2
  clear hs2
  refine h_st rfl rfl ?_
  refine t_new rfl hs (fun σ hs2 => ?_)
  replace hs := hs2
  clear hs2
  have hsc := hs.1
  refine h_st rfl rfl ?_
  refine h_cv1 rfl (Nat.le_of_ble_eq_true rfl) (e_rcv (hs.at 2 rfl)) rfl (k_3 (hs.at 2 rfl)) (fun σ2 hk => ?_)
  obtain ⟨c2, N2, fs2, hs2, hc1, hc2⟩ := hk
  have hN2 := hs2.2.2.1
  rw [hs.2.1] at hN2
  rw [hsc] at hc1 hc2
  have hs := hs.call (i := 2) rfl (by simp [ap, apA] <;> omega) hs2
  have hs := hs.one 0 rfl
  have hs := hs.one 0 rfl
  obtain ⟨fs, hln, hs⟩ := hs.any (n := 12) rfl
  refine t_pu 0 rfl hs rfl (by simp [ap, apA] <;> omega) (rfl) hln (Nat.le_of_ble_eq_true rfl) (fun σ fs hln hs2 => ?_)
  clear hs
  have hs := hs2
  clear hs2
  refine h_st rfl rfl ?_
  refine h_st rfl rfl ?_
  refine t_pu 0 rfl hs rfl (by simp [ap, apA] <;> omega) (rfl) hln (Nat.le_of_ble_eq_true rfl) (fun σ fs hln hs2 => ?_)
  clear hs
  have hs := hs2
  clear hs2
  refine h_st rfl rfl ?_
  refine h_st rfl rfl ?_
  refine t_pu 0 rfl hs rfl (by simp [ap, apA] <;> omega) (rfl) hln (Nat.le_of_ble_eq_true rfl) (fun σ fs hln hs2 => ?_)
  clear hs
  have hs := hs2
  clear hs2
  refine h_st rfl rfl ?_
  refine h_st rfl rfl ?_
  refine t_pu 0 rfl hs rfl (by simp [ap, apA] <;> omega) (rfl) hln (Nat.le_of_ble_eq_true rfl) (fun σ fs hln hs2 => ?_)
  clear hs
  have hs := hs2
  clear hs2
  refine h_st rfl rfl ?_
  refine h_st rfl rfl ?_
  refine t_pu 0 rfl hs rfl (by simp [ap, apA] <;> omega) (hz) hln (Nat.le_of_ble_eq_true rfl) (fun σ fs hln hs2 => ?_)
  clear hs
  have hs := hs2
  clear hs2
  refine h_st rfl rfl ?_
  refine h_st rfl rfl ?_
  refine t_pu 0 rfl hs rfl (by simp [ap, apA] <;> omega) (rfl) hln (Nat.le_of_ble_eq_true rfl) (fun σ fs hln hs2 => ?_)
  clear hs
  have hs := hs2
  clear hs2
  refine h_st rfl rfl ?_
  refine h_st rfl rfl ?_
  refine h_st rfl rfl ?_
  refine h_br (fun hb => ?_) (fun hb => ?_)
  · refine h_st rfl rfl ?_
    refine t_nq rfl hs (by decide) (fun σ hs2 => ?_)
    replace hs := hs2
    clear hs2
    refine t_pu 0 rfl hs rfl (by simp [ap, apA] <;> omega) (rfl) hln (Nat.le_of_ble_eq_true rfl) (fun σ fs hln hs2 => ?_)
    clear hs
    have hs := hs2
    clear hs2
    exact h_rv rfl (⟨_, rfl, _, _, _, hs.one 0 rfl, by simp only at *; omega, by have e9 : (1 : Int32).toNatClampNeg = 1 := (by decide); have e8 : (2 : Int32).toNatClampNeg = 2 := (by decide); simp only [e9, e8] at *; omega⟩)
  · refine h_st rfl rfl ?_
    refine h_st rfl rfl ?_
    refine t_nq rfl hs (by decide) (fun σ hs2 => ?_)
    replace hs := hs2
    clear hs2
    refine t_pu 0 rfl hs rfl (by simp [ap, apA] <;> omega) (rfl) hln (Nat.le_of_ble_eq_true rfl) (fun σ fs hln hs2 => ?_)
    clear hs
    have hs := hs2
    clear hs2
    exact h_rv rfl (⟨_, rfl, _, _, _, hs.one 0 rfl, by simp only at *; omega, by have e9 : (4 : Int32).toNatClampNeg = 4 := (by decide); have e8 : (2 : Int32).toNatClampNeg = 2 := (by decide); simp only [e9, e8] at *; omega⟩)
end SP5
