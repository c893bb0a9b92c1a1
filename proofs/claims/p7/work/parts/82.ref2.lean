section RF2
variable {ra : ae_R} {d : Nat} {σ : ae_S}
def fu (F : Nat → Nat → Int32) (p : Nat) (f : Nat → Int32) : Nat → Nat → Int32 := fun q => if q = p then f else F q
theorem fu_s {F : Nat → Nat → Int32} {p : Nat} {f : Nat → Int32} : fu F p f p = f := if_pos rfl
theorem fu_n {F : Nat → Nat → Int32} {p q : Nat} {f : Nat → Int32} (h : q ≠ p) : fu F p f q = F q := if_neg h
theorem fu_self (F : Nat → Nat → Int32) (p : Nat) : fu F p (F p) = F := by
  funext q
  by_cases e : q = p
  · rw [e, fu_s]
  · rw [fu_n e]
theorem fu_fu (F : Nat → Nat → Int32) (p : Nat) (f f' : Nat → Int32) : fu (fu F p f) p f' = fu F p f' := by
  funext q
  by_cases e : q = p
  · rw [e, fu_s, fu_s]
  · rw [fu_n e, fu_n e, fu_n e]
/-- the reference's state: its cells are known, the others are as they were, and (b) so are the links' rows -/
def RS (b : Bool) (σ0 : ae_S) (F0 : Nat → Nat → Int32) (σ : ae_S) (c u g : Int32) (F : Nat → Nat → Int32) : Prop :=
  (σ.1 = σ0.1 ∧ σ.2.length = σ0.2.length ∧ ∀ q, q < 176 ∨ 215 ≤ q → σ.2[q]? = σ0.2[q]?) ∧ σ.2[176]? = some (.inr (8, rf_M c u g)) ∧ (∀ q ∈ rf_A, σ.2[q.1]? = some (.inl (q.2.1, q.2.2.1, .inl (F q.1)))) ∧ (b = true → ∀ q, q < 194 → q ≠ 188 → F q = F0 q)
theorem rf_A_bd {p t n m : Nat} {v : Int32} (hq : (p, t, n, m, v) ∈ rf_A) : 177 ≤ p ∧ p < 215 := of_decide_eq_true (List.all_eq_true.mp (show rf_A.all (fun q => decide (177 ≤ q.1 ∧ q.1 < 215)) = true by decide +kernel) _ hq)
section RSX
variable {b : Bool} {σ0 : ae_S} {F0 F : Nat → Nat → Int32} {c u g : Int32}
theorem RS.w (h : RS b σ0 F0 σ c u g F) {p t n m : Nat} {v : Int32} (hq : (p, t, n, m, v) ∈ rf_A) (hb : b = true → ¬ (p < 194 ∧ p ≠ 188)) (f' : Nat → Int32) : RS b σ0 F0 (σ.1, σ.2.set p (.inl (t, n, .inl f'))) c u g (fu F p f') := by
  have hbd := rf_A_bd hq
  obtain ⟨⟨h1, h2, h3⟩, h4, h5, h6⟩ := h
  have hp : σ.2[p]? = some (.inl (t, n, .inl (F p))) := h5 _ hq
  refine ⟨⟨h1, by simpa using h2, fun q hq2 => (st_ne (by omega)).trans (h3 q hq2)⟩, (st_ne (by omega)).trans h4, fun q hq2 => ?_, fun hb1 q q1 q2 => ?_⟩
  · have hf2 := h5 q hq2
    by_cases e : q.1 = p
    · rw [e, hp] at hf2
      injection hf2 with z
      injection z with z
      injection z with z1 z2
      injection z2 with z2 z3
      rw [e, ← z1, ← z2, fu_s]
      exact st_get hp
    · rw [fu_n e]
      exact (st_ne (Ne.symm e)).trans hf2
  · have e : q ≠ p := fun e => hb hb1 (by omega)
    rw [fu_n e]
    exact h6 hb1 q q1 q2
theorem RS.p (h : RS b σ0 F0 σ c u g F) (c' u' g' : Int32) : RS b σ0 F0 (σ.1, σ.2.set 176 (.inr (8, rf_M c' u' g'))) c' u' g' F := by
  obtain ⟨⟨h1, h2, h3⟩, h4, h5, h6⟩ := h
  refine ⟨⟨h1, by simpa using h2, fun q hq2 => (st_ne (by omega)).trans (h3 q hq2)⟩, st_get h4, fun q hq2 => ?_, h6⟩
  have := rf_A_bd (p := q.1) (t := q.2.1) (n := q.2.2.1) (m := q.2.2.2.1) (v := q.2.2.2.2) hq2
  exact (st_ne (by omega)).trans (h5 q hq2)
theorem m177 : ((177, 2, 8, 8, 0) : Nat × Nat × Nat × Nat × Int32) ∈ rf_A := by decide
theorem RS.a177 (h : RS b σ0 F0 σ c u g F) : σ.2[177]? = some (.inl (2, 8, .inl (F 177))) := h.2.2.1 _ m177
theorem m178 : ((178, 2, 8, 8, 0) : Nat × Nat × Nat × Nat × Int32) ∈ rf_A := by decide
theorem RS.a178 (h : RS b σ0 F0 σ c u g F) : σ.2[178]? = some (.inl (2, 8, .inl (F 178))) := h.2.2.1 _ m178
theorem m179 : ((179, 2, 8, 8, 0) : Nat × Nat × Nat × Nat × Int32) ∈ rf_A := by decide
theorem RS.a179 (h : RS b σ0 F0 σ c u g F) : σ.2[179]? = some (.inl (2, 8, .inl (F 179))) := h.2.2.1 _ m179
theorem m180 : ((180, 0, 8, 8, 0) : Nat × Nat × Nat × Nat × Int32) ∈ rf_A := by decide
theorem RS.a180 (h : RS b σ0 F0 σ c u g F) : σ.2[180]? = some (.inl (0, 8, .inl (F 180))) := h.2.2.1 _ m180
theorem m181 : ((181, 0, 8, 8, 0) : Nat × Nat × Nat × Nat × Int32) ∈ rf_A := by decide
theorem RS.a181 (h : RS b σ0 F0 σ c u g F) : σ.2[181]? = some (.inl (0, 8, .inl (F 181))) := h.2.2.1 _ m181
theorem m182 : ((182, 0, 8, 8, 0) : Nat × Nat × Nat × Nat × Int32) ∈ rf_A := by decide
theorem RS.a182 (h : RS b σ0 F0 σ c u g F) : σ.2[182]? = some (.inl (0, 8, .inl (F 182))) := h.2.2.1 _ m182
theorem m183 : ((183, 0, 8, 8, 0) : Nat × Nat × Nat × Nat × Int32) ∈ rf_A := by decide
theorem RS.a183 (h : RS b σ0 F0 σ c u g F) : σ.2[183]? = some (.inl (0, 8, .inl (F 183))) := h.2.2.1 _ m183
theorem m184 : ((184, 0, 8, 8, 0) : Nat × Nat × Nat × Nat × Int32) ∈ rf_A := by decide
theorem RS.a184 (h : RS b σ0 F0 σ c u g F) : σ.2[184]? = some (.inl (0, 8, .inl (F 184))) := h.2.2.1 _ m184
theorem m185 : ((185, 0, 8, 8, 0) : Nat × Nat × Nat × Nat × Int32) ∈ rf_A := by decide
theorem RS.a185 (h : RS b σ0 F0 σ c u g F) : σ.2[185]? = some (.inl (0, 8, .inl (F 185))) := h.2.2.1 _ m185
theorem m186 : ((186, 0, 8, 8, 0) : Nat × Nat × Nat × Nat × Int32) ∈ rf_A := by decide
theorem RS.a186 (h : RS b σ0 F0 σ c u g F) : σ.2[186]? = some (.inl (0, 8, .inl (F 186))) := h.2.2.1 _ m186
theorem m187 : ((187, 0, 8, 8, 0) : Nat × Nat × Nat × Nat × Int32) ∈ rf_A := by decide
theorem RS.a187 (h : RS b σ0 F0 σ c u g F) : σ.2[187]? = some (.inl (0, 8, .inl (F 187))) := h.2.2.1 _ m187
theorem m188 : ((188, 0, 16, 16, 0) : Nat × Nat × Nat × Nat × Int32) ∈ rf_A := by decide
theorem RS.a188 (h : RS b σ0 F0 σ c u g F) : σ.2[188]? = some (.inl (0, 16, .inl (F 188))) := h.2.2.1 _ m188
theorem m189 : ((189, 0, 8, 8, 0) : Nat × Nat × Nat × Nat × Int32) ∈ rf_A := by decide
theorem RS.a189 (h : RS b σ0 F0 σ c u g F) : σ.2[189]? = some (.inl (0, 8, .inl (F 189))) := h.2.2.1 _ m189
theorem m190 : ((190, 0, 64, 64, 0) : Nat × Nat × Nat × Nat × Int32) ∈ rf_A := by decide
theorem RS.a190 (h : RS b σ0 F0 σ c u g F) : σ.2[190]? = some (.inl (0, 64, .inl (F 190))) := h.2.2.1 _ m190
theorem m191 : ((191, 0, 64, 64, 0) : Nat × Nat × Nat × Nat × Int32) ∈ rf_A := by decide
theorem RS.a191 (h : RS b σ0 F0 σ c u g F) : σ.2[191]? = some (.inl (0, 64, .inl (F 191))) := h.2.2.1 _ m191
theorem m192 : ((192, 0, 64, 64, 0) : Nat × Nat × Nat × Nat × Int32) ∈ rf_A := by decide
theorem RS.a192 (h : RS b σ0 F0 σ c u g F) : σ.2[192]? = some (.inl (0, 64, .inl (F 192))) := h.2.2.1 _ m192
theorem m193 : ((193, 0, 64, 64, 0) : Nat × Nat × Nat × Nat × Int32) ∈ rf_A := by decide
theorem RS.a193 (h : RS b σ0 F0 σ c u g F) : σ.2[193]? = some (.inl (0, 64, .inl (F 193))) := h.2.2.1 _ m193
theorem m194 : ((194, 0, 80000, 0, 0) : Nat × Nat × Nat × Nat × Int32) ∈ rf_A := by decide
theorem RS.a194 (h : RS b σ0 F0 σ c u g F) : σ.2[194]? = some (.inl (0, 80000, .inl (F 194))) := h.2.2.1 _ m194
theorem m195 : ((195, 0, 400, 0, 0) : Nat × Nat × Nat × Nat × Int32) ∈ rf_A := by decide
theorem RS.a195 (h : RS b σ0 F0 σ c u g F) : σ.2[195]? = some (.inl (0, 400, .inl (F 195))) := h.2.2.1 _ m195
theorem m196 : ((196, 2, 400, 400, 0) : Nat × Nat × Nat × Nat × Int32) ∈ rf_A := by decide
theorem RS.a196 (h : RS b σ0 F0 σ c u g F) : σ.2[196]? = some (.inl (2, 400, .inl (F 196))) := h.2.2.1 _ m196
theorem m197 : ((197, 0, 768, 0, 0) : Nat × Nat × Nat × Nat × Int32) ∈ rf_A := by decide
theorem RS.a197 (h : RS b σ0 F0 σ c u g F) : σ.2[197]? = some (.inl (0, 768, .inl (F 197))) := h.2.2.1 _ m197
theorem m198 : ((198, 0, 48, 48, 0) : Nat × Nat × Nat × Nat × Int32) ∈ rf_A := by decide
theorem RS.a198 (h : RS b σ0 F0 σ c u g F) : σ.2[198]? = some (.inl (0, 48, .inl (F 198))) := h.2.2.1 _ m198
theorem m199 : ((199, 0, 24, 24, (-1)) : Nat × Nat × Nat × Nat × Int32) ∈ rf_A := by decide
theorem RS.a199 (h : RS b σ0 F0 σ c u g F) : σ.2[199]? = some (.inl (0, 24, .inl (F 199))) := h.2.2.1 _ m199
theorem m200 : ((200, 0, 24, 24, 0) : Nat × Nat × Nat × Nat × Int32) ∈ rf_A := by decide
theorem RS.a200 (h : RS b σ0 F0 σ c u g F) : σ.2[200]? = some (.inl (0, 24, .inl (F 200))) := h.2.2.1 _ m200
theorem m201 : ((201, 0, 24, 24, 0) : Nat × Nat × Nat × Nat × Int32) ∈ rf_A := by decide
theorem RS.a201 (h : RS b σ0 F0 σ c u g F) : σ.2[201]? = some (.inl (0, 24, .inl (F 201))) := h.2.2.1 _ m201
theorem m202 : ((202, 0, 24, 24, (-1)) : Nat × Nat × Nat × Nat × Int32) ∈ rf_A := by decide
theorem RS.a202 (h : RS b σ0 F0 σ c u g F) : σ.2[202]? = some (.inl (0, 24, .inl (F 202))) := h.2.2.1 _ m202
theorem m203 : ((203, 0, 64, 64, (-1)) : Nat × Nat × Nat × Nat × Int32) ∈ rf_A := by decide
theorem RS.a203 (h : RS b σ0 F0 σ c u g F) : σ.2[203]? = some (.inl (0, 64, .inl (F 203))) := h.2.2.1 _ m203
theorem m204 : ((204, 0, 32, 32, (-1)) : Nat × Nat × Nat × Nat × Int32) ∈ rf_A := by decide
theorem RS.a204 (h : RS b σ0 F0 σ c u g F) : σ.2[204]? = some (.inl (0, 32, .inl (F 204))) := h.2.2.1 _ m204
theorem m205 : ((205, 0, 32, 32, 0) : Nat × Nat × Nat × Nat × Int32) ∈ rf_A := by decide
theorem RS.a205 (h : RS b σ0 F0 σ c u g F) : σ.2[205]? = some (.inl (0, 32, .inl (F 205))) := h.2.2.1 _ m205
theorem m206 : ((206, 0, 32, 32, (-1)) : Nat × Nat × Nat × Nat × Int32) ∈ rf_A := by decide
theorem RS.a206 (h : RS b σ0 F0 σ c u g F) : σ.2[206]? = some (.inl (0, 32, .inl (F 206))) := h.2.2.1 _ m206
theorem m207 : ((207, 0, 32, 32, 0) : Nat × Nat × Nat × Nat × Int32) ∈ rf_A := by decide
theorem RS.a207 (h : RS b σ0 F0 σ c u g F) : σ.2[207]? = some (.inl (0, 32, .inl (F 207))) := h.2.2.1 _ m207
theorem m208 : ((208, 0, 32000, 0, 0) : Nat × Nat × Nat × Nat × Int32) ∈ rf_A := by decide
theorem RS.a208 (h : RS b σ0 F0 σ c u g F) : σ.2[208]? = some (.inl (0, 32000, .inl (F 208))) := h.2.2.1 _ m208
theorem m209 : ((209, 0, 32, 32, 0) : Nat × Nat × Nat × Nat × Int32) ∈ rf_A := by decide
theorem RS.a209 (h : RS b σ0 F0 σ c u g F) : σ.2[209]? = some (.inl (0, 32, .inl (F 209))) := h.2.2.1 _ m209
theorem m210 : ((210, 0, 128, 0, 0) : Nat × Nat × Nat × Nat × Int32) ∈ rf_A := by decide
theorem RS.a210 (h : RS b σ0 F0 σ c u g F) : σ.2[210]? = some (.inl (0, 128, .inl (F 210))) := h.2.2.1 _ m210
theorem m211 : ((211, 0, 128000, 0, 0) : Nat × Nat × Nat × Nat × Int32) ∈ rf_A := by decide
theorem RS.a211 (h : RS b σ0 F0 σ c u g F) : σ.2[211]? = some (.inl (0, 128000, .inl (F 211))) := h.2.2.1 _ m211
theorem m212 : ((212, 0, 32, 32, 0) : Nat × Nat × Nat × Nat × Int32) ∈ rf_A := by decide
theorem RS.a212 (h : RS b σ0 F0 σ c u g F) : σ.2[212]? = some (.inl (0, 32, .inl (F 212))) := h.2.2.1 _ m212
theorem m213 : ((213, 0, 12, 12, 0) : Nat × Nat × Nat × Nat × Int32) ∈ rf_A := by decide
theorem RS.a213 (h : RS b σ0 F0 σ c u g F) : σ.2[213]? = some (.inl (0, 12, .inl (F 213))) := h.2.2.1 _ m213
theorem m214 : ((214, 0, 1000, 0, 0) : Nat × Nat × Nat × Nat × Int32) ∈ rf_A := by decide
theorem RS.a214 (h : RS b σ0 F0 σ c u g F) : σ.2[214]? = some (.inl (0, 1000, .inl (F 214))) := h.2.2.1 _ m214
variable {L : ae_Ls} {s : List Value} {mid pc np p n m k : Nat} {v j x x' : Int32} {P : ae_S × ae_O → Prop} {f : Nat → Int32}
theorem q_ia (h : σ.2[p]? = some (.inl (0, n, .inl f))) (ej : j = nI k) (hk : k < n) (hn : n ≤ 200000) : o_ia np ra σ L (.int j :: .ref p :: s) = some (σ, L, .int (f k) :: s, np) := by
  subst ej
  rw [e_ia h (nI_in hk (by omega)), nI_clamp (by omega)]
theorem q_ba (h : σ.2[p]? = some (.inl (2, n, .inl f))) (ej : j = nI k) (hk : k < n) (hn : n ≤ 200000) : o_ba np ra σ L (.int j :: .ref p :: s) = some (σ, L, .int (f k) :: s, np) := by
  subst ej
  rw [e_ba h (Or.inr rfl) (nI_in hk (by omega)), nI_clamp (by omega)]
theorem r_ias (ht : ae_tab (at0 mid) pc = some (.inl (o_ias np))) (h : RS b σ0 F0 σ c u g F) (hq : (p, 0, n, m, v) ∈ rf_A) (hb : b = true → ¬ (p < 194 ∧ p ≠ 188)) (hn : n ≤ 200000) (ej : j = nI k) (hk : k < n) (ex : x = x') (hc : ∀ σ', RS b σ0 F0 σ' c u g (fu F p (upd (F p) k x')) → hG ra d mid σ' L s np P) : hG ra d mid σ L (.int x :: .int j :: .ref p :: s) pc P := by
  subst ej
  subst ex
  have e := e_ias (np := np) (ra := ra) (L := L) (k := s) (x := x) (show σ.2[p]? = some (.inl (0, n, .inl (F p))) from h.2.2.1 _ hq) (nI_in hk (by omega))
  rw [nI_clamp (by omega)] at e
  exact h_st ht e (hc _ (h.w hq hb _))
theorem r_bas (ht : ae_tab (at0 mid) pc = some (.inl (o_bas np))) (h : RS b σ0 F0 σ c u g F) (hq : (p, 2, n, m, v) ∈ rf_A) (hb : b = true → ¬ (p < 194 ∧ p ≠ 188)) (hn : n ≤ 200000) (ej : j = nI k) (hk : k < n) (ex : vp_nar .boolean x = x') (hc : ∀ σ', RS b σ0 F0 σ' c u g (fu F p (upd (F p) k x')) → hG ra d mid σ' L s np P) : hG ra d mid σ L (.int x :: .int j :: .ref p :: s) pc P := by
  subst ej
  subst ex
  have e := e_bas2 (np := np) (ra := ra) (L := L) (k := s) (x := x) (show σ.2[p]? = some (.inl (2, n, .inl (F p))) from h.2.2.1 _ hq) (nI_in hk (by omega))
  rw [nI_clamp (by omega)] at e
  exact h_st ht e (hc _ (h.w hq hb _))
theorem r_put {kk : Nat} {ok : Value → Bool} {y : Value} {c' u' g' : Int32} (ht : ae_tab (at0 mid) pc = some (.inl (o_put 8 kk ok np))) (h : RS b σ0 F0 σ c u g F) (hv : ok y = true) (hl : kk < (rf_M c u g).length) (he : (rf_M c u g).set kk y = rf_M c' u' g') (hc : ∀ σ', RS b σ0 F0 σ' c' u' g' F → hG ra d mid σ' L s np P) : hG ra d mid σ L (y :: .ref 176 :: s) pc P := by
  have e := e_put (np := np) (ra := ra) (L := L) (k := s) h.2.1 hv hl
  rw [he] at e
  exact h_st ht e (hc _ (h.p _ _ _))
end RSX
/-- what the reference keeps -/
def RP (F : Nat → Nat → Int32) (g : Int32) (a e : List Nat) : Prop := GA (F 177) (F 180) (F 182) ∧ GW (F 189) ∧ GB (F 194) ∧ GN (F 195) (F 196) (F 197) (F 198) (F 199) a e ∧ GH (F 201) (F 202) ∧ GP (F 204) (F 207) (F 209) (F 210) ∧ rg g 993
section RPX
variable {F F' : Nat → Nat → Int32} {g : Int32} {a e : List Nat} {p : Nat} {f : Nat → Int32}
def rpL : List Nat := [177, 180, 182, 189, 194, 195, 196, 197, 198, 199, 201, 202, 204, 207, 209, 210]
theorem RP.fo (h : RP F g a e) (hp : p ∉ rpL) : RP (fu F p f) g a e := by
  have g1 : ∀ q, q ∈ rpL → fu F p f q = F q := fun q hq => fu_n (fun z => hp (z ▸ hq))
  unfold RP
  rw [g1 177 (by decide), g1 180 (by decide), g1 182 (by decide), g1 189 (by decide), g1 194 (by decide), g1 195 (by decide), g1 196 (by decide), g1 197 (by decide), g1 198 (by decide), g1 199 (by decide), g1 201 (by decide), g1 202 (by decide), g1 204 (by decide), g1 207 (by decide), g1 209 (by decide), g1 210 (by decide)]
  exact h
theorem RP.ag (h : RP F g a e) (ha : ∀ q ∈ rpL, F' q = F q) : RP F' g a e := by
  unfold RP
  rw [ha 177 (by decide), ha 180 (by decide), ha 182 (by decide), ha 189 (by decide), ha 194 (by decide), ha 195 (by decide), ha 196 (by decide), ha 197 (by decide), ha 198 (by decide), ha 199 (by decide), ha 201 (by decide), ha 202 (by decide), ha 204 (by decide), ha 207 (by decide), ha 209 (by decide), ha 210 (by decide)]
  exact h
theorem RP.b (h : RP F g a e) (hf : GB f) : RP (fu F 194 f) g a e := ⟨h.1, h.2.1, hf, h.2.2.2⟩
theorem RP.bg (h : RP F g a e) (hf : GB (F' 194)) (ha : ∀ q, q ≠ 194 → F' q = F q) : RP F' g a e := by
  unfold RP
  rw [ha 177 (by decide), ha 180 (by decide), ha 182 (by decide), ha 189 (by decide), ha 195 (by decide), ha 196 (by decide), ha 197 (by decide), ha 198 (by decide), ha 199 (by decide), ha 201 (by decide), ha 202 (by decide), ha 204 (by decide), ha 207 (by decide), ha 209 (by decide), ha 210 (by decide)]
  exact ⟨h.1, h.2.1, hf, h.2.2.2⟩
theorem RP.n5 {a' e' : List Nat} (h : RP F g a e) (hn : GN f (F 196) (F 197) (F 198) (F 199) a' e') : RP (fu F 195 f) g a' e' := ⟨h.1, h.2.1, h.2.2.1, hn, h.2.2.2.2⟩
theorem RP.n6 {a' e' : List Nat} (h : RP F g a e) (hn : GN (F 195) f (F 197) (F 198) (F 199) a' e') : RP (fu F 196 f) g a' e' := ⟨h.1, h.2.1, h.2.2.1, hn, h.2.2.2.2⟩
theorem RP.n78 {a' e' : List Nat} {f7 f8 : Nat → Int32} (h : RP F g a e) (hn : GN (F 195) (F 196) f7 f8 (F 199) a' e') : RP (fu (fu F 197 f7) 198 f8) g a' e' := ⟨h.1, h.2.1, h.2.2.1, hn, h.2.2.2.2⟩
theorem RP.n87 {a' e' : List Nat} {f7 f8 : Nat → Int32} (h : RP F g a e) (hn : GN (F 195) (F 196) f7 f8 (F 199) a' e') : RP (fu (fu F 198 f8) 197 f7) g a' e' := ⟨h.1, h.2.1, h.2.2.1, hn, h.2.2.2.2⟩
theorem RP.n9 {a' e' : List Nat} (h : RP F g a e) (hn : GN (F 195) (F 196) (F 197) (F 198) f a' e') : RP (fu F 199 f) g a' e' := ⟨h.1, h.2.1, h.2.2.1, hn, h.2.2.2.2⟩
theorem RP.h1 (h : RP F g a e) (hh : GH f (F 202)) : RP (fu F 201 f) g a e := ⟨h.1, h.2.1, h.2.2.1, h.2.2.2.1, hh, h.2.2.2.2.2⟩
theorem RP.h2 (h : RP F g a e) (hh : GH (F 201) f) : RP (fu F 202 f) g a e := ⟨h.1, h.2.1, h.2.2.1, h.2.2.2.1, hh, h.2.2.2.2.2⟩
theorem GH.m1 {hp hm : Nat → Int32} {l : Nat} (h : GH hp hm) : GH hp (upd hm l (-1)) := by
  intro i hi
  refine ⟨(h i hi).1, ?_⟩
  by_cases e : i = l
  · rw [e, pk_us]
    exact Or.inl rfl
  · rw [pk_un e]
    exact (h i hi).2
theorem GB.upd {k : Nat} {x : Int32} (h : GB f) (hx : rg x 256) : GB (upd f k x) := by
  intro i hi
  by_cases e : i = k
  · rw [e, pk_us]
    exact hx
  · rw [pk_un e]
    exact h i hi
end RPX
theorem ix2 (f k : Nat) : (200 : Int32) * nI f + nI k = nI (200 * f + k) := by
  rw [show (200 : Int32) = nI 200 from rfl, pk_mul, nI_add]
theorem r_108 {b : Bool} {σ0 : ae_S} {F0 F : Nat → Nat → Int32} {c u g : Int32} (h : RS b σ0 F0 σ c u g F) {f k : Nat} {x y : Int32} (ef : x = nI f) (hf : f < 400) (ek : y = nI k) (hk : k < 200) : hE ra (d + 1) 108 [.ref 176, .int x, .int y] σ (pI (fun σ' x => σ' = σ ∧ x = F 194 (200 * f + k))) := by
  subst ef
  subst ek
  refine h_in rfl rfl (Nat.le_of_ble_eq_true rfl) ?_
  refine h_st rfl rfl ?_
  refine h_st rfl (e_get h.2.1 rfl) ?_
  refine h_st rfl rfl ?_
  refine h_st rfl rfl ?_
  refine h_st rfl rfl ?_
  refine h_st rfl rfl ?_
  refine h_st rfl rfl ?_
  refine h_st rfl (q_ia h.a194 (ix2 f k) (by omega) (by decide)) ?_
  exact h_rt rfl rfl (⟨_, _, rfl, rfl, rfl⟩)
theorem r_107 {b : Bool} {σ0 : ae_S} {F0 F : Nat → Nat → Int32} {c u g : Int32} (h : RS b σ0 F0 σ c u g F) {f k : Nat} {x y : Int32} (ef : x = nI f) (hf : f < 400) (ek : y = nI k) (hk : k + 1 < 200) : hE ra (d + 2) 107 [.ref 176, .int x, .int y] σ (pI (fun σ' x => σ' = σ ∧ x = 256 * F 194 (200 * f + k) + F 194 (200 * f + (k + 1)))) := by
  subst ek
  refine h_in rfl rfl (Nat.le_of_ble_eq_true rfl) ?_
  refine h_st rfl rfl ?_
  refine h_st rfl rfl ?_
  refine h_st rfl rfl ?_
  refine h_st rfl rfl ?_
  refine h_ci3 rfl (Nat.le_of_ble_eq_true rfl) (e_rcv h.2.1) rfl (r_108 h (ef) (hf) (rfl) (by omega)) (fun σ' y hq => ?_)
  obtain ⟨hss, rfl⟩ := hq
  replace hss := hss.symm
  subst hss
  refine h_st rfl rfl ?_
  refine h_st rfl rfl ?_
  refine h_st rfl rfl ?_
  refine h_st rfl rfl ?_
  refine h_st rfl rfl ?_
  refine h_st rfl rfl ?_
  refine h_ci3 rfl (Nat.le_of_ble_eq_true rfl) (e_rcv h.2.1) rfl (r_108 h (ef) (hf) (nI_1 k) (by omega)) (fun σ' y hq => ?_)
  obtain ⟨hss, rfl⟩ := hq
  replace hss := hss.symm
  subst hss
  refine h_st rfl rfl ?_
  exact h_rt rfl rfl (⟨_, _, rfl, rfl, rfl⟩)
theorem r_106l {b : Bool} {σ0 : ae_S} {F0 F : Nat → Nat → Int32} {c u g : Int32} (h : RS b σ0 F0 σ c u g F) {f : Nat} {x : Int32} (ef : x = nI f) (hf : f < 400) {P : ae_S × ae_O → Prop} (hx : ∀ x2 : Int32, hG ra (d + 2) 106 σ [some (.ref 176), some (.int x), some (.int x2), some (.int (nI 10))] [] 49 P) : ∀ (m j : Nat) (x2 : Int32), j + m = 10 → hG ra (d + 2) 106 σ [some (.ref 176), some (.int x), some (.int x2), some (.int (nI j))] [] 4 P := by
  intro m
  induction m with
  | zero =>
    intro j x2 hj
    have hj : j = 10 := by omega
    subst hj
    refine h_st rfl rfl ?_
    refine h_st rfl rfl ?_
    refine h_st rfl rfl ?_
    refine h_pc (if_pos (decide_eq_true (nI_le (Nat.le_refl 10) (by decide)))) ?_
    exact hx _
  | succ m ih =>
    intro j x2 hj
    have ih1 := fun x => ih (j + 1) x (by omega)
    simp only [← nI_1] at ih1
    have ek : (14 : Int32) + 2 * nI j = nI (14 + 2 * j) := by rw [show (2 : Int32) = nI 2 from rfl, pk_mul, show (14 : Int32) = nI 14 from rfl, nI_add]
    refine h_st rfl rfl ?_
    refine h_st rfl rfl ?_
    refine h_st rfl rfl ?_
    refine h_pc (if_neg (fun z9 => (nI_ge (show j < 10 by omega) (by decide)) (of_decide_eq_true z9))) ?_
    refine h_st rfl rfl ?_
    refine h_st rfl rfl ?_
    refine h_st rfl rfl ?_
    refine h_br (fun q1 => ?_) (fun q1 => ?_)
    · refine h_st rfl rfl ?_
      refine h_st rfl rfl ?_
      refine h_st rfl rfl ?_
      refine h_st rfl rfl ?_
      refine h_st rfl rfl ?_
      refine h_st rfl rfl ?_
      refine h_st rfl rfl ?_
      refine h_st rfl rfl ?_
      refine h_ci3 rfl (Nat.le_of_ble_eq_true rfl) (e_rcv h.2.1) rfl (r_107 h (ef) (hf) (ek) (by omega)) (fun σ' y hq => ?_)
      obtain ⟨hss, rfl⟩ := hq
      replace hss := hss.symm
      subst hss
      refine h_st rfl rfl ?_
      refine h_st rfl rfl ?_
      refine h_st rfl rfl ?_
      refine h_st rfl rfl ?_
      refine h_st rfl rfl ?_
      refine h_br (fun q2 => ?_) (fun q2 => ?_)
      · refine h_st rfl rfl ?_
        refine h_st rfl rfl ?_
        exact ih1 _
      · refine h_st rfl rfl ?_
        refine h_st rfl rfl ?_
        refine h_st rfl rfl ?_
        refine h_st rfl rfl ?_
        refine h_st rfl rfl ?_
        refine h_st rfl rfl ?_
        exact ih1 _
    · refine h_st rfl rfl ?_
      refine h_st rfl rfl ?_
      refine h_st rfl rfl ?_
      exact ih1 _
theorem r_106 {b : Bool} {σ0 : ae_S} {F0 F : Nat → Nat → Int32} {c u g : Int32} (h : RS b σ0 F0 σ c u g F) {f : Nat} {x : Int32} (ef : x = nI f) (hf : f < 400) : hE ra (d + 3) 106 [.ref 176, .int x] σ (pI (fun σ' _ => σ' = σ)) := by
  refine h_in rfl rfl (Nat.le_of_ble_eq_true rfl) ?_
  refine h_st rfl rfl ?_
  refine h_st rfl rfl ?_
  refine h_st rfl rfl ?_
  refine h_st rfl rfl ?_
  refine r_106l h ef hf (fun x2 => ?_) 10 0 _ rfl
  refine h_st rfl rfl ?_
  refine h_st rfl rfl ?_
  refine h_st rfl rfl ?_
  exact h_rt rfl rfl (⟨_, _, rfl, rfl⟩)
theorem r_111l {b : Bool} {σ0 : ae_S} {F0 F : Nat → Nat → Int32} {c u g : Int32} (h : RS b σ0 F0 σ c u g F) {f : Nat} {x : Int32} (ef : x = nI f) (hf : f < 400) {sz : Nat} (hz : F 195 f = nI sz) (hz1 : 64 ≤ sz ∧ sz ≤ 200) {P : ae_S × ae_O → Prop} (hx : ∀ (x2 : Int32) x4 x5, hG ra (d + 1) 111 σ [some (.ref 176), some (.int x), some (.int x2), some (.int (nI (8 * (sz - 4)))), x4, x5] [] 72 P) : ∀ (m j : Nat) (x2 : Int32) (x4 x5 : Option Value), j + m = 8 * (sz - 4) → hG ra (d + 1) 111 σ [some (.ref 176), some (.int x), some (.int x2), some (.int (nI j)), x4, x5] [] 4 P := by
  have ez : (8 : Int32) * (F 195 f - 4) = nI (8 * (sz - 4)) := by rw [hz, show (4 : Int32) = nI 4 from rfl, pk_sub (by omega), show (8 : Int32) = nI 8 from rfl, pk_mul]
  intro m
  induction m with
  | zero =>
    intro j x2 x4 x5 hj
    have hj : j = 8 * (sz - 4) := by omega
    subst hj
    refine h_st rfl rfl ?_
    refine h_st rfl rfl ?_
    refine h_st rfl rfl ?_
    refine h_st rfl (e_get h.2.1 rfl) ?_
    refine h_st rfl rfl ?_
    refine h_st rfl (q_ia h.a195 (ef) (hf) (by decide)) ?_
    refine h_st rfl rfl ?_
    refine h_st rfl rfl ?_
    refine h_st rfl rfl ?_
    refine h_st rfl rfl ?_
    refine h_pc (if_pos (decide_eq_true (show (8 : Int32) * (F 195 f - 4) ≤ nI (8 * (sz - 4)) from by rw [ez]; exact nI_le (Nat.le_refl _) (by omega)))) ?_
    exact hx _ _ _
  | succ m ih =>
    intro j x2 x4 x5 hj
    have ih1 := fun x2 x4 x5 => ih (j + 1) x2 x4 x5 (by omega)
    simp only [← nI_1] at ih1
    have ed : nI j / 8 = nI (j / 8) := pk_div (a := j) (d := 8) (by omega) (by decide) (by decide)
    refine h_st rfl rfl ?_
    refine h_st rfl rfl ?_
    refine h_st rfl rfl ?_
    refine h_st rfl (e_get h.2.1 rfl) ?_
    refine h_st rfl rfl ?_
    refine h_st rfl (q_ia h.a195 (ef) (hf) (by decide)) ?_
    refine h_st rfl rfl ?_
    refine h_st rfl rfl ?_
    refine h_st rfl rfl ?_
    refine h_st rfl rfl ?_
    refine h_pc (if_neg (fun z9 => (show ¬ (8 : Int32) * (F 195 f - 4) ≤ nI j from by rw [ez]; exact nI_ge (show j < 8 * (sz - 4) by omega) (by omega)) (of_decide_eq_true z9))) ?_
    refine h_st rfl rfl ?_
    refine h_st rfl rfl ?_
    refine h_st rfl rfl ?_
    refine h_st rfl rfl ?_
    refine h_st rfl (e_dv (by decide)) ?_
    refine h_ci3 rfl (Nat.le_of_ble_eq_true rfl) (e_rcv h.2.1) rfl (r_108 h (ef) (hf) (ed) (by omega)) (fun σ' y hq => ?_)
    obtain ⟨hss, rfl⟩ := hq
    replace hss := hss.symm
    subst hss
    refine h_st rfl rfl ?_
    refine h_st rfl rfl ?_
    refine h_st rfl (e_dv (by decide)) ?_
    refine h_st rfl rfl ?_
    refine h_st rfl rfl ?_
    refine h_st rfl rfl ?_
    refine h_st rfl rfl ?_
    refine h_st rfl rfl ?_
    refine h_st rfl rfl ?_
    refine h_st rfl rfl ?_
    refine h_st rfl rfl ?_
    refine h_st rfl rfl ?_
    refine h_br (fun q1 => ?_) (fun q1 => ?_)
    · refine h_st rfl rfl ?_
      refine h_st rfl rfl ?_
      refine h_st rfl rfl ?_
      refine h_st rfl rfl ?_
      refine h_st rfl rfl ?_
      refine h_st rfl rfl ?_
      refine h_st rfl rfl ?_
      refine h_st rfl rfl ?_
      refine h_br (fun q2 => ?_) (fun q2 => ?_)
      · refine h_st rfl rfl ?_
        refine h_st rfl rfl ?_
        exact ih1 _ _ _
      · refine h_st rfl rfl ?_
        refine h_st rfl rfl ?_
        refine h_st rfl rfl ?_
        refine h_st rfl rfl ?_
        refine h_st rfl rfl ?_
        refine h_st rfl rfl ?_
        exact ih1 _ _ _
    · refine h_st rfl rfl ?_
      refine h_st rfl rfl ?_
      refine h_st rfl rfl ?_
      refine h_st rfl rfl ?_
      refine h_st rfl rfl ?_
      refine h_st rfl rfl ?_
      refine h_st rfl rfl ?_
      refine h_st rfl rfl ?_
      refine h_st rfl rfl ?_
      refine h_br (fun q2 => ?_) (fun q2 => ?_)
      · refine h_st rfl rfl ?_
        refine h_st rfl rfl ?_
        exact ih1 _ _ _
      · refine h_st rfl rfl ?_
        refine h_st rfl rfl ?_
        refine h_st rfl rfl ?_
        refine h_st rfl rfl ?_
        refine h_st rfl rfl ?_
        refine h_st rfl rfl ?_
        exact ih1 _ _ _
theorem r_111 {b : Bool} {σ0 : ae_S} {F0 F : Nat → Nat → Int32} {c u g : Int32} (h : RS b σ0 F0 σ c u g F) {f : Nat} {x : Int32} (ef : x = nI f) (hf : f < 400) {sz : Nat} (hz : F 195 f = nI sz) (hz1 : 64 ≤ sz ∧ sz ≤ 200) : hE ra (d + 2) 111 [.ref 176, .int x] σ (pI (fun σ' _ => σ' = σ)) := by
  refine h_in rfl rfl (Nat.le_of_ble_eq_true rfl) ?_
  refine h_st rfl rfl ?_
  refine h_st rfl rfl ?_
  refine h_st rfl rfl ?_
  refine h_st rfl rfl ?_
  refine r_111l h ef hf hz hz1 (fun x2 x4 x5 => ?_) _ 0 _ _ _ (Nat.zero_add _)
  refine h_st rfl rfl ?_
  refine h_st rfl rfl ?_
  refine h_st rfl rfl ?_
  exact h_rt rfl rfl (⟨_, _, rfl, rfl⟩)
theorem r_118l {b : Bool} {σ0 : ae_S} {F0 F : Nat → Nat → Int32} {c u g : Int32} (h : RS b σ0 F0 σ c u g F) {f : Nat} {x : Int32} (ef : x = nI f) (hf : f < 400) {sz : Nat} (hz : F 195 f = nI sz) (hz1 : 64 ≤ sz ∧ sz ≤ 200) {x2 : Int32} {P : ae_S × ae_O → Prop} (hx : ∀ x3 : Int32, k_bool (.int x3) = true → hG ra (d + 1) 118 σ [some (.ref 176), some (.int x), some (.int x2), some (.int x3), some (.int (nI 4))] [] 63 P) : ∀ (m j : Nat) (x3 : Int32), k_bool (.int x3) = true → j + m = 4 → hG ra (d + 1) 118 σ [some (.ref 176), some (.int x), some (.int x2), some (.int x3), some (.int (nI j))] [] 11 P := by
  intro m
  induction m with
  | zero =>
    intro j x3 hb hj
    have hj : j = 4 := by omega
    subst hj
    refine h_st rfl rfl ?_
    refine h_st rfl rfl ?_
    refine h_st rfl rfl ?_
    refine h_pc (if_pos (decide_eq_true (nI_le (Nat.le_refl 4) (by decide)))) ?_
    exact hx _ hb
  | succ m ih =>
    intro j x3 hb hj
    have ih1 := fun x3 hb => ih (j + 1) x3 hb (by omega)
    simp only [← nI_1] at ih1
    have ek : F 195 f - 4 + nI j = nI (sz - 4 + j) := by rw [hz, show (4 : Int32) = nI 4 from rfl, pk_sub (by omega), nI_add]
    refine h_st rfl rfl ?_
    refine h_st rfl rfl ?_
    refine h_st rfl rfl ?_
    refine h_pc (if_neg (fun z9 => (nI_ge (show j < 4 by omega) (by decide)) (of_decide_eq_true z9))) ?_
    refine h_st rfl rfl ?_
    refine h_st rfl rfl ?_
    refine h_br (fun q1 => ?_) (fun q1 => ?_)
    · refine h_st rfl rfl ?_
      refine h_st rfl rfl ?_
      refine h_st rfl rfl ?_
      refine h_st rfl rfl ?_
      exact ih1 _ rfl
    · refine h_st rfl rfl ?_
      refine h_st rfl rfl ?_
      refine h_st rfl rfl ?_
      refine h_st rfl (e_get h.2.1 rfl) ?_
      refine h_st rfl rfl ?_
      refine h_st rfl (q_ia h.a195 (ef) (hf) (by decide)) ?_
      refine h_st rfl rfl ?_
      refine h_st rfl rfl ?_
      refine h_st rfl rfl ?_
      refine h_st rfl rfl ?_
      refine h_ci3 rfl (Nat.le_of_ble_eq_true rfl) (e_rcv h.2.1) rfl (r_108 h (ef) (hf) (ek) (by omega)) (fun σ' y hq => ?_)
      obtain ⟨hss, rfl⟩ := hq
      replace hss := hss.symm
      subst hss
      refine h_st rfl rfl ?_
      refine h_st rfl rfl ?_
      refine h_st rfl rfl ?_
      refine h_st rfl rfl ?_
      refine h_st rfl rfl ?_
      refine h_st rfl rfl ?_
      refine h_st rfl rfl ?_
      refine h_st rfl rfl ?_
      refine h_br (fun q2 => ?_) (fun q2 => ?_)
      · refine h_st rfl rfl ?_
        refine h_st rfl rfl ?_
        refine h_st rfl rfl ?_
        refine h_st rfl rfl ?_
        exact ih1 _ rfl
      · refine h_st rfl rfl ?_
        refine h_st rfl rfl ?_
        refine h_st rfl rfl ?_
        refine h_st rfl rfl ?_
        refine h_st rfl rfl ?_
        exact ih1 _ rfl
theorem r_118 {b : Bool} {σ0 : ae_S} {F0 F : Nat → Nat → Int32} {c u g : Int32} (h : RS b σ0 F0 σ c u g F) {f : Nat} {x : Int32} (ef : x = nI f) (hf : f < 400) {sz : Nat} (hz : F 195 f = nI sz) (hz1 : 64 ≤ sz ∧ sz ≤ 200) : hE ra (d + 3) 118 [.ref 176, .int x] σ (pI (fun σ' _ => σ' = σ)) := by
  refine h_in rfl rfl (Nat.le_of_ble_eq_true rfl) ?_
  refine h_st rfl rfl ?_
  refine h_st rfl rfl ?_
  refine h_ci2 rfl (Nat.le_of_ble_eq_true rfl) (e_rcv h.2.1) rfl (r_111 h ef hf hz hz1) (fun σ' y hq => ?_)
  replace hq := hq.symm
  subst hq
  refine h_st rfl rfl ?_
  refine h_st rfl rfl ?_
  refine h_st rfl rfl ?_
  refine h_st rfl rfl ?_
  refine h_st rfl rfl ?_
  refine r_118l h ef hf hz hz1 (fun x3 hb => ?_) 4 0 _ rfl rfl
  refine h_st rfl rfl ?_
  exact h_rt rfl (hb) (⟨_, _, rfl, rfl⟩)
theorem r_117l {b : Bool} {σ0 : ae_S} {F0 F : Nat → Nat → Int32} {c u g : Int32} (h : RS b σ0 F0 σ c u g F) {f : Nat} {x : Int32} (ef : x = nI f) (hf : f < 400) {P : ae_S × ae_O → Prop} (hx : ∀ x2 : Int32, (x2 = 0 ∨ ∃ l, l < 8 ∧ F 194 (200 * f + 5) = nI l) → hG ra (d + 1) 117 σ [some (.ref 176), some (.int x), some (.int x2), some (.int (nI 5))] [] 59 P) : ∀ (m j : Nat) (x2 : Int32), (x2 = 0 ∨ ∃ l, l < 8 ∧ F 194 (200 * f + 5) = nI l) → j + m = 5 → hG ra (d + 1) 117 σ [some (.ref 176), some (.int x), some (.int x2), some (.int (nI j))] [] 29 P := by
  intro m
  induction m with
  | zero =>
    intro j x2 hb hj
    have hj : j = 5 := by omega
    subst hj
    refine h_st rfl rfl ?_
    refine h_st rfl rfl ?_
    refine h_st rfl rfl ?_
    refine h_pc (if_pos (decide_eq_true (nI_le (Nat.le_refl 5) (by decide)))) ?_
    exact hx _ hb
  | succ m ih =>
    intro j x2 hb hj
    have ih1 := fun x3 hb => ih (j + 1) x3 hb (by omega)
    simp only [← nI_1] at ih1
    refine h_st rfl rfl ?_
    refine h_st rfl rfl ?_
    refine h_st rfl rfl ?_
    refine h_pc (if_neg (fun z9 => (nI_ge (show j < 5 by omega) (by decide)) (of_decide_eq_true z9))) ?_
    refine h_st rfl rfl ?_
    refine h_st rfl rfl ?_
    refine h_br (fun q1 => ?_) (fun q1 => ?_)
    · refine h_st rfl rfl ?_
      refine h_st rfl rfl ?_
      refine h_st rfl rfl ?_
      refine h_st rfl rfl ?_
      exact ih1 _ (Or.inl rfl)
    · refine h_st rfl rfl ?_
      refine h_st rfl rfl ?_
      refine h_st rfl rfl ?_
      refine h_ci3 rfl (Nat.le_of_ble_eq_true rfl) (e_rcv h.2.1) rfl (r_108 h (ef) (hf) (rfl) (by omega)) (fun σ' y hq => ?_)
      obtain ⟨hss, rfl⟩ := hq
      replace hss := hss.symm
      subst hss
      refine h_st rfl rfl ?_
      refine h_br (fun q2 => ?_) (fun q2 => ?_)
      · refine h_st rfl rfl ?_
        refine h_st rfl rfl ?_
        refine h_st rfl rfl ?_
        refine h_st rfl rfl ?_
        exact ih1 _ (Or.inl rfl)
      · refine h_st rfl rfl ?_
        refine h_st rfl rfl ?_
        refine h_st rfl rfl ?_
        refine h_st rfl rfl ?_
        refine h_st rfl rfl ?_
        exact ih1 _ (Or.inr (hb.resolve_left q1))
theorem r_117 {b : Bool} {σ0 : ae_S} {F0 F : Nat → Nat → Int32} {c u g : Int32} (h : RS b σ0 F0 σ c u g F) (hB : GB (F 194)) {f : Nat} {x : Int32} (ef : x = nI f) (hf : f < 400) : hE ra (d + 2) 117 [.ref 176, .int x] σ (pI (fun σ' x => σ' = σ ∧ (x = -1 ∨ ∃ l, l < 8 ∧ x = nI l ∧ F 177 l ≠ 0))) := by
  have hend : ∀ x2 : Int32, (x2 = 0 ∨ ∃ l, l < 8 ∧ F 194 (200 * f + 5) = nI l) → hG ra (d + 1) 117 σ [some (.ref 176), some (.int x), some (.int x2), some (.int (nI 5))] [] 59 (pI (fun σ' x => σ' = σ ∧ (x = -1 ∨ ∃ l, l < 8 ∧ x = nI l ∧ F 177 l ≠ 0))) := by
    intro x2 hb
    refine h_st rfl rfl ?_
    refine h_st rfl rfl ?_
    refine h_br (fun q1 => ?_) (fun q1 => ?_)
    · refine h_st rfl rfl ?_
      exact h_rt rfl rfl (⟨_, _, rfl, rfl, Or.inl rfl⟩)
    · obtain ⟨l, hl, el⟩ := hb.resolve_left q1
      refine h_st rfl rfl ?_
      refine h_st rfl (e_get h.2.1 rfl) ?_
      refine h_st rfl rfl ?_
      refine h_st rfl rfl ?_
      refine h_st rfl rfl ?_
      refine h_ci3 rfl (Nat.le_of_ble_eq_true rfl) (e_rcv h.2.1) rfl (r_108 h (ef) (hf) ((rfl : (5 : Int32) = nI 5)) (by decide)) (fun σ' y hq => ?_)
      obtain ⟨hss, rfl⟩ := hq
      replace hss := hss.symm
      subst hss
      refine h_st rfl (q_ba h.a177 (el) (hl) (by decide)) ?_
      refine h_st rfl rfl ?_
      refine h_br (fun q2 => ?_) (fun q2 => ?_)
      · refine h_st rfl rfl ?_
        exact h_rt rfl rfl (⟨_, _, rfl, rfl, Or.inl rfl⟩)
      · refine h_st rfl rfl ?_
        refine h_st rfl rfl ?_
        refine h_st rfl rfl ?_
        refine h_ci3 rfl (Nat.le_of_ble_eq_true rfl) (e_rcv h.2.1) rfl (r_108 h (ef) (hf) ((rfl : (5 : Int32) = nI 5)) (by decide)) (fun σ' y hq => ?_)
        obtain ⟨hss, rfl⟩ := hq
        replace hss := hss.symm
        subst hss
        refine h_st rfl rfl ?_
        exact h_rt rfl rfl (⟨_, _, rfl, rfl, Or.inr ⟨l, hl, el, q2⟩⟩)
  refine h_in rfl rfl (Nat.le_of_ble_eq_true rfl) ?_
  refine h_st rfl rfl ?_
  refine h_st rfl rfl ?_
  refine h_st rfl rfl ?_
  refine h_ci3 rfl (Nat.le_of_ble_eq_true rfl) (e_rcv h.2.1) rfl (r_108 h (ef) (hf) ((rfl : (0 : Int32) = nI 0)) (by decide)) (fun σ' y hq => ?_)
  obtain ⟨hss, rfl⟩ := hq
  replace hss := hss.symm
  subst hss
  refine h_st rfl rfl ?_
  refine h_st rfl rfl ?_
  refine h_br (fun q1 => ?_) (fun q1 => ?_)
  · refine h_st rfl rfl ?_
    refine h_st rfl rfl ?_
    refine h_st rfl rfl ?_
    refine h_st rfl rfl ?_
    exact r_117l h ef hf hend 4 1 _ (Or.inl rfl) rfl
  · refine h_st rfl rfl ?_
    refine h_st rfl rfl ?_
    refine h_st rfl rfl ?_
    refine h_ci3 rfl (Nat.le_of_ble_eq_true rfl) (e_rcv h.2.1) rfl (r_108 h (ef) (hf) ((rfl : (5 : Int32) = nI 5)) (by decide)) (fun σ' y hq => ?_)
    obtain ⟨hss, rfl⟩ := hq
    replace hss := hss.symm
    subst hss
    refine h_st rfl rfl ?_
    refine h_st rfl rfl ?_
    refine h_br (fun q2 => ?_) (fun q2 => ?_)
    · refine h_st rfl rfl ?_
      refine h_st rfl rfl ?_
      refine h_st rfl rfl ?_
      refine h_st rfl rfl ?_
      exact r_117l h ef hf hend 4 1 _ (Or.inl rfl) rfl
    · obtain ⟨l5, hl5, el5⟩ := hB (200 * f + 5) (by omega)
      have hl8 : l5 < 8 := Nat.lt_of_not_le (fun z => q2 (by rw [el5]; exact nI_le z (by omega)))
      refine h_st rfl rfl ?_
      refine h_st rfl rfl ?_
      refine h_st rfl rfl ?_
      refine h_st rfl rfl ?_
      refine h_st rfl rfl ?_
      exact r_117l h ef hf hend 4 1 _ (Or.inr ⟨l5, hl8, el5⟩) rfl
theorem r_115 (x : Int32) : hE ra (d + 1) 115 [.int x] σ (pI (fun σ' _ => σ' = σ)) := by
  refine h_in rfl rfl (Nat.le_of_ble_eq_true rfl) ?_
  refine h_st rfl rfl ?_
  refine h_st rfl rfl ?_
  refine h_st rfl rfl ?_
  refine h_br (fun q1 => ?_) (fun q1 => ?_)
  · refine h_st rfl rfl ?_
    refine h_st rfl rfl ?_
    refine h_st rfl rfl ?_
    refine h_br (fun q2 => ?_) (fun q2 => ?_)
    · refine h_st rfl rfl ?_
      refine h_st rfl rfl ?_
      refine h_st rfl rfl ?_
      refine h_br (fun q3 => ?_) (fun q3 => ?_)
      · refine h_st rfl rfl ?_
        refine h_st rfl rfl ?_
        refine h_st rfl rfl ?_
        refine h_br (fun q4 => ?_) (fun q4 => ?_)
        · refine h_st rfl rfl ?_
          exact h_rt rfl rfl (⟨_, _, rfl, rfl⟩)
        · refine h_st rfl rfl ?_
          refine h_st rfl rfl ?_
          exact h_rt rfl rfl (⟨_, _, rfl, rfl⟩)
      · refine h_st rfl rfl ?_
        refine h_st rfl rfl ?_
        exact h_rt rfl rfl (⟨_, _, rfl, rfl⟩)
    · refine h_st rfl rfl ?_
      refine h_st rfl rfl ?_
      exact h_rt rfl rfl (⟨_, _, rfl, rfl⟩)
  · refine h_st rfl rfl ?_
    refine h_st rfl rfl ?_
    refine h_st rfl (e_dv (by decide)) ?_
    refine h_st rfl rfl ?_
    exact h_rt rfl rfl (⟨_, _, rfl, rfl⟩)
theorem r_127 (x : Int32) : hE ra (d + 1) 127 [.int x] σ (pI (fun σ' _ => σ' = σ)) := by
  refine h_in rfl rfl (Nat.le_of_ble_eq_true rfl) ?_
  refine h_st rfl rfl ?_
  refine h_st rfl rfl ?_
  refine h_st rfl rfl ?_
  refine h_br (fun q1 => ?_) (fun q1 => ?_)
  · refine h_st rfl rfl ?_
    refine h_st rfl rfl ?_
    refine h_st rfl rfl ?_
    refine h_br (fun q2 => ?_) (fun q2 => ?_)
    · refine h_st rfl rfl ?_
      refine h_st rfl rfl ?_
      refine h_st rfl rfl ?_
      refine h_br (fun q3 => ?_) (fun q3 => ?_)
      · refine h_st rfl rfl ?_
        refine h_st rfl rfl ?_
        refine h_st rfl rfl ?_
        refine h_br (fun q4 => ?_) (fun q4 => ?_)
        · refine h_st rfl rfl ?_
          exact h_rt rfl rfl (⟨_, _, rfl, rfl⟩)
        · refine h_st rfl rfl ?_
          refine h_st rfl rfl ?_
          exact h_rt rfl rfl (⟨_, _, rfl, rfl⟩)
      · refine h_st rfl rfl ?_
        refine h_st rfl rfl ?_
        exact h_rt rfl rfl (⟨_, _, rfl, rfl⟩)
    · refine h_st rfl rfl ?_
      refine h_st rfl rfl ?_
      refine h_st rfl rfl ?_
      refine h_st rfl rfl ?_
      refine h_st rfl (e_dv (by decide)) ?_
      refine h_st rfl rfl ?_
      exact h_rt rfl rfl (⟨_, _, rfl, rfl⟩)
  · refine h_st rfl rfl ?_
    refine h_st rfl rfl ?_
    exact h_rt rfl rfl (⟨_, _, rfl, rfl⟩)
theorem r_nx (y : Int32) : hE ra (d + 1) 96 [.int y] σ (pI (fun σ' x => σ' = σ ∧ x = y - y / 255 * 255 + 1)) := by
  refine h_in rfl rfl (Nat.le_of_ble_eq_true rfl) ?_
  refine h_st rfl rfl ?_
  refine h_st rfl rfl ?_
  refine h_st rfl (e_dv (by decide)) ?_
  refine h_st rfl rfl ?_
  refine h_st rfl rfl ?_
  exact h_rt rfl rfl (⟨_, _, rfl, rfl, rfl⟩)
theorem r_126 (x y z : Int32) : hE ra (d + 2) 126 [.int x, .int y, .int z] σ (pI (fun σ' _ => σ' = σ)) := by
  refine h_in rfl rfl (Nat.le_of_ble_eq_true rfl) ?_
  refine h_st rfl rfl ?_
  refine h_st rfl rfl ?_
  refine h_st rfl rfl ?_
  refine h_br (fun q1 => ?_) (fun q1 => ?_)
  · refine h_st rfl rfl ?_
    refine h_st rfl rfl ?_
    refine h_st rfl rfl ?_
    refine h_br (fun q2 => ?_) (fun q2 => ?_)
    · refine h_st rfl rfl ?_
      refine h_st rfl rfl ?_
      refine h_st rfl (e_dv (by decide)) ?_
      refine h_st rfl rfl ?_
      refine h_st rfl rfl ?_
      refine h_st rfl rfl ?_
      refine h_st rfl (e_dv (by decide)) ?_
      refine h_st rfl rfl ?_
      refine h_st rfl rfl ?_
      refine h_ci1 rfl (Nat.le_of_ble_eq_true rfl) rfl rfl (r_115 _) (fun σ' y hq => ?_)
      replace hq := hq.symm
      subst hq
      refine h_st rfl rfl ?_
      refine h_ci1 rfl (Nat.le_of_ble_eq_true rfl) rfl rfl (r_127 _) (fun σ' y hq => ?_)
      replace hq := hq.symm
      subst hq
      refine h_st rfl rfl ?_
      refine h_br (fun q3 => ?_) (fun q3 => ?_)
      · refine h_st rfl rfl ?_
        refine h_ci1 rfl (Nat.le_of_ble_eq_true rfl) rfl rfl (r_127 _) (fun σ' y hq => ?_)
        replace hq := hq.symm
        subst hq
        refine h_st rfl rfl ?_
        refine h_st rfl rfl ?_
        refine h_br (fun q4 => ?_) (fun q4 => ?_)
        · refine h_st rfl rfl ?_
          exact h_rt rfl rfl (⟨_, _, rfl, rfl⟩)
        · refine h_st rfl rfl ?_
          refine h_ci1 rfl (Nat.le_of_ble_eq_true rfl) rfl rfl (r_115 _) (fun σ' y hq => ?_)
          replace hq := hq.symm
          subst hq
          refine h_st rfl rfl ?_
          refine h_st rfl rfl ?_
          refine h_br (fun q5 => ?_) (fun q5 => ?_)
          · refine h_st rfl rfl ?_
            exact h_rt rfl rfl (⟨_, _, rfl, rfl⟩)
          · refine h_st rfl rfl ?_
            refine h_st rfl rfl ?_
            exact h_rt rfl rfl (⟨_, _, rfl, rfl⟩)
      · refine h_st rfl rfl ?_
        refine h_ci1 rfl (Nat.le_of_ble_eq_true rfl) rfl rfl (r_127 _) (fun σ' y hq => ?_)
        replace hq := hq.symm
        subst hq
        refine h_st rfl rfl ?_
        refine h_st rfl rfl ?_
        refine h_br (fun q4 => ?_) (fun q4 => ?_)
        · refine h_st rfl rfl ?_
          refine h_st rfl rfl ?_
          exact h_rt rfl rfl (⟨_, _, rfl, rfl⟩)
        · refine h_st rfl rfl ?_
          refine h_ci1 rfl (Nat.le_of_ble_eq_true rfl) rfl rfl (r_115 _) (fun σ' y hq => ?_)
          replace hq := hq.symm
          subst hq
          refine h_st rfl rfl ?_
          refine h_st rfl rfl ?_
          refine h_br (fun q5 => ?_) (fun q5 => ?_)
          · refine h_st rfl rfl ?_
            refine h_st rfl rfl ?_
            exact h_rt rfl rfl (⟨_, _, rfl, rfl⟩)
          · refine h_st rfl rfl ?_
            refine h_st rfl rfl ?_
            exact h_rt rfl rfl (⟨_, _, rfl, rfl⟩)
    · refine h_st rfl rfl ?_
      refine h_st rfl rfl ?_
      refine h_st rfl rfl ?_
      refine h_st rfl rfl ?_
      refine h_st rfl rfl ?_
      refine h_br (fun q3 => ?_) (fun q3 => ?_)
      · refine h_st rfl rfl ?_
        exact h_rt rfl rfl (⟨_, _, rfl, rfl⟩)
      · refine h_st rfl rfl ?_
        refine h_st rfl rfl ?_
        exact h_rt rfl rfl (⟨_, _, rfl, rfl⟩)
  · refine h_st rfl rfl ?_
    refine h_st rfl rfl ?_
    refine h_st rfl rfl ?_
    refine h_br (fun q2 => ?_) (fun q2 => ?_)
    · refine h_st rfl rfl ?_
      exact h_rt rfl rfl (⟨_, _, rfl, rfl⟩)
    · refine h_st rfl rfl ?_
      refine h_st rfl rfl ?_
      exact h_rt rfl rfl (⟨_, _, rfl, rfl⟩)
theorem r_125l {b : Bool} {σ0 : ae_S} {F0 F : Nat → Nat → Int32} {c u g : Int32} (h : RS b σ0 F0 σ c u g F) {l : Nat} {x y : Int32} (el : x = nI l) (hl : l < 8) {P : ae_S × ae_O → Prop} (hx : ∀ x3 : Int32, k_bool (.int x3) = true → hG ra (d + 2) 125 σ [some (.ref 176), some (.int y), some (.int x), some (.int x3), some (.int (nI 4))] [] 57 P) : ∀ (m j : Nat) (x3 : Int32), k_bool (.int x3) = true → j + m = 4 → hG ra (d + 2) 125 σ [some (.ref 176), some (.int y), some (.int x), some (.int x3), some (.int (nI j))] [] 5 P := by
  intro m
  induction m with
  | zero =>
    intro j x3 hb hj
    have hj : j = 4 := by omega
    subst hj
    refine h_st rfl rfl ?_
    refine h_st rfl rfl ?_
    refine h_st rfl rfl ?_
    refine h_pc (if_pos (decide_eq_true (nI_le (Nat.le_refl 4) (by decide)))) ?_
    exact hx _ hb
  | succ m ih =>
    intro j x3 hb hj
    have ih1 := fun x3 hb => ih (j + 1) x3 hb (by omega)
    simp only [← nI_1] at ih1
    refine h_st rfl rfl ?_
    refine h_st rfl rfl ?_
    refine h_st rfl rfl ?_
    refine h_pc (if_neg (fun z9 => (nI_ge (show j < 4 by omega) (by decide)) (of_decide_eq_true z9))) ?_
    refine h_st rfl rfl ?_
    refine h_st rfl rfl ?_
    refine h_br (fun q1 => ?_) (fun q1 => ?_)
    · refine h_st rfl rfl ?_
      refine h_st rfl rfl ?_
      refine h_st rfl rfl ?_
      refine h_st rfl rfl ?_
      refine h_st rfl rfl ?_
      exact ih1 _ rfl
    · refine h_st rfl rfl ?_
      refine h_st rfl (e_get h.2.1 rfl) ?_
      refine h_st rfl rfl ?_
      refine h_st rfl (q_ia h.a183 (el) (hl) (by decide)) ?_
      refine h_st rfl rfl ?_
      refine h_st rfl rfl ?_
      refine h_st rfl rfl ?_
      refine h_st rfl rfl ?_
      refine h_st rfl rfl ?_
      refine h_st rfl rfl ?_
      refine h_br (fun q2 => ?_) (fun q2 => ?_)
      · refine h_st rfl rfl ?_
        refine h_st rfl rfl ?_
        refine h_st rfl rfl ?_
        refine h_st rfl rfl ?_
        exact ih1 _ rfl
      · refine h_st rfl rfl ?_
        refine h_st rfl rfl ?_
        refine h_st rfl (e_get h.2.1 rfl) ?_
        refine h_st rfl rfl ?_
        refine h_st rfl (q_ia h.a180 (el) (hl) (by decide)) ?_
        refine h_st rfl rfl ?_
        refine h_ci3 rfl (Nat.le_of_ble_eq_true rfl) rfl rfl (r_126 _ _ _) (fun σ' y9 hq => ?_)
        replace hq := hq.symm
        subst hq
        refine h_st rfl rfl ?_
        refine h_br (fun q3 => ?_) (fun q3 => ?_)
        · refine h_st rfl rfl ?_
          refine h_st rfl rfl ?_
          refine h_st rfl rfl ?_
          refine h_st rfl rfl ?_
          exact ih1 _ rfl
        · refine h_st rfl rfl ?_
          refine h_st rfl rfl ?_
          refine h_st rfl rfl ?_
          refine h_st rfl rfl ?_
          refine h_st rfl rfl ?_
          exact ih1 _ rfl
theorem r_125 {b : Bool} {σ0 : ae_S} {F0 F : Nat → Nat → Int32} {c u g : Int32} (h : RS b σ0 F0 σ c u g F) {l : Nat} {x y : Int32} (el : x = nI l) (hl : l < 8) : hE ra (d + 3) 125 [.ref 176, .int y, .int x] σ (pI (fun σ' _ => σ' = σ)) := by
  refine h_in rfl rfl (Nat.le_of_ble_eq_true rfl) ?_
  refine h_st rfl rfl ?_
  refine h_st rfl rfl ?_
  refine h_st rfl rfl ?_
  refine h_st rfl rfl ?_
  refine r_125l h el hl (fun x3 hb => ?_) 4 0 _ rfl rfl
  refine h_st rfl rfl ?_
  exact h_rt rfl (hb) (⟨_, _, rfl, rfl⟩)
theorem r_99t {b : Bool} {σ0 : ae_S} {F0 F : Nat → Nat → Int32} {c u g : Int32} (h : RS b σ0 F0 σ c u g F) (x : Int32) : hE ra (d + 1) 99 [.ref 176, .int x] σ (pI (fun σ' v => σ' = σ ∧ ((v = 0 ∧ (∀ l, l < 8 → x = nI l → F 177 l = 0)) ∨ (v = 1 ∧ ∃ l, l < 8 ∧ x = nI l ∧ F 177 l ≠ 0)))) := by
  refine h_in rfl rfl (Nat.le_of_ble_eq_true rfl) ?_
  refine h_st rfl rfl ?_
  refine h_st rfl rfl ?_
  refine h_br (fun q1 => ?_) (fun q1 => ?_)
  · refine h_st rfl rfl ?_
    exact h_rt rfl rfl (⟨_, _, rfl, rfl, Or.inl ⟨rfl, fun l hl el => absurd q1 (by rw [el]; exact Int32.not_lt.mpr (nI_le (a := 0) (Nat.zero_le _) (by omega)))⟩⟩)
  · refine h_st rfl rfl ?_
    refine h_st rfl rfl ?_
    refine h_st rfl rfl ?_
    refine h_br (fun q2 => ?_) (fun q2 => ?_)
    · refine h_st rfl rfl ?_
      exact h_rt rfl rfl (⟨_, _, rfl, rfl, Or.inl ⟨rfl, fun l hl el => absurd q2 (by rw [el]; exact nI_ge hl (by decide))⟩⟩)
    · obtain ⟨l, hl, el⟩ := i_ix (n := 8) (by decide) q1 q2
      refine h_st rfl rfl ?_
      refine h_st rfl (e_get h.2.1 rfl) ?_
      refine h_st rfl rfl ?_
      refine h_st rfl (q_ba h.a177 (el) (hl) (by decide)) ?_
      refine h_st rfl rfl ?_
      refine h_br (fun q3 => ?_) (fun q3 => ?_)
      · refine h_st rfl rfl ?_
        exact h_rt rfl rfl (⟨_, _, rfl, rfl, Or.inl ⟨rfl, fun l' hl' el' => by rw [nI_inj (by omega) (by omega) (el'.symm.trans el)]; exact q3⟩⟩)
      · refine h_st rfl rfl ?_
        refine h_st rfl rfl ?_
        exact h_rt rfl rfl (⟨_, _, rfl, rfl, Or.inr ⟨rfl, l, hl, el, q3⟩⟩)
theorem r_119t {b : Bool} {σ0 : ae_S} {F0 F : Nat → Nat → Int32} {c u g : Int32} (h : RS b σ0 F0 σ c u g F) (y x : Int32) : hE ra (d + 2) 119 [.ref 176, .int y, .int x] σ (pI (fun σ' v => σ' = σ ∧ (v = 0 ∨ (v = 1 ∧ (∃ l, l < 8 ∧ x = nI l ∧ F 177 l ≠ 0) ∧ ∃ k, k < 4 ∧ y = nI k)))) := by
  refine h_in rfl rfl (Nat.le_of_ble_eq_true rfl) ?_
  refine h_st rfl rfl ?_
  refine h_st rfl rfl ?_
  refine h_ci2 rfl (Nat.le_of_ble_eq_true rfl) (e_rcv h.2.1) rfl (r_99t h x) (fun σ' v hq => ?_)
  obtain ⟨hss, hv⟩ := hq
  replace hss := hss.symm
  subst hss
  refine h_st rfl rfl ?_
  refine h_br (fun q1 => ?_) (fun q1 => ?_)
  · refine h_st rfl rfl ?_
    exact h_rt rfl rfl (⟨_, _, rfl, rfl, Or.inl rfl⟩)
  · refine h_st rfl rfl ?_
    refine h_st rfl rfl ?_
    refine h_br (fun q2 => ?_) (fun q2 => ?_)
    · refine h_st rfl rfl ?_
      exact h_rt rfl rfl (⟨_, _, rfl, rfl, Or.inl rfl⟩)
    · refine h_st rfl rfl ?_
      refine h_st rfl rfl ?_
      refine h_st rfl rfl ?_
      refine h_br (fun q3 => ?_) (fun q3 => ?_)
      · refine h_st rfl rfl ?_
        exact h_rt rfl rfl (⟨_, _, rfl, rfl, Or.inl rfl⟩)
      · obtain ⟨l, hl, el, hil⟩ : ∃ l, l < 8 ∧ x = nI l ∧ F 177 l ≠ 0 := hv.elim (fun z => absurd z.1 q1) (fun z => z.2)
        obtain ⟨k, hk, ek⟩ := i_ix (n := 4) (by decide) q2 q3
        refine h_st rfl rfl ?_
        refine h_st rfl (e_get h.2.1 rfl) ?_
        refine h_st rfl rfl ?_
        refine h_st rfl (q_ia h.a183 (el) (hl) (by decide)) ?_
        refine h_st rfl rfl ?_
        refine h_st rfl rfl ?_
        refine h_st rfl rfl ?_
        refine h_st rfl rfl ?_
        refine h_st rfl rfl ?_
        refine h_st rfl rfl ?_
        refine h_br (fun q4 => ?_) (fun q4 => ?_)
        · refine h_st rfl rfl ?_
          exact h_rt rfl rfl (⟨_, _, rfl, rfl, Or.inl rfl⟩)
        · refine h_st rfl rfl ?_
          refine h_st rfl rfl ?_
          exact h_rt rfl rfl (⟨_, _, rfl, rfl, Or.inr ⟨rfl, ⟨l, hl, el, hil⟩, k, hk, ek⟩⟩)
theorem r_120 {b : Bool} {σ0 : ae_S} {F0 F : Nat → Nat → Int32} {c u g : Int32} (h : RS b σ0 F0 σ c u g F) {f : Nat} {x : Int32} (ef : x = nI f) (hf : f < 400) {sz : Nat} (hz : F 195 f = nI sz) (hz1 : 64 ≤ sz ∧ sz ≤ 200) : hE ra (d + 4) 120 [.ref 176, .int x] σ (pI (fun σ' v => σ' = σ ∧ (v = 0 ∨ (v = 1 ∧ ¬ (256 * F 194 (200 * f + 16) + F 194 (200 * f + (16 + 1)) - 20 < 0) ∧ ¬ (nI sz - 39 < 256 * F 194 (200 * f + 16) + F 194 (200 * f + (16 + 1)) - 20))))) := by
  refine h_in rfl rfl (Nat.le_of_ble_eq_true rfl) ?_
  refine h_st rfl rfl ?_
  refine h_st rfl rfl ?_
  refine h_st rfl rfl ?_
  refine h_ci3 rfl (Nat.le_of_ble_eq_true rfl) (e_rcv h.2.1) rfl (r_107 h (ef) (hf) ((rfl : (16 : Int32) = nI 16)) (by decide)) (fun σ' y hq => ?_)
  obtain ⟨hss, rfl⟩ := hq
  replace hss := hss.symm
  subst hss
  refine h_st rfl rfl ?_
  refine h_st rfl rfl ?_
  refine h_st rfl rfl ?_
  refine h_st rfl rfl ?_
  refine h_st rfl rfl ?_
  refine h_st rfl rfl ?_
  refine h_ci3 rfl (Nat.le_of_ble_eq_true rfl) (e_rcv h.2.1) rfl (r_108 h (ef) (hf) ((rfl : (12 : Int32) = nI 12)) (by decide)) (fun σ' y hq => ?_)
  obtain ⟨hss, rfl⟩ := hq
  replace hss := hss.symm
  subst hss
  refine h_st rfl rfl ?_
  refine h_st rfl rfl ?_
  refine h_br (fun q1 => ?_) (fun q1 => ?_)
  · refine h_st rfl rfl ?_
    exact h_rt rfl rfl (⟨_, _, rfl, rfl, Or.inl rfl⟩)
  · refine h_st rfl rfl ?_
    refine h_st rfl rfl ?_
    refine h_st rfl rfl ?_
    refine h_ci3 rfl (Nat.le_of_ble_eq_true rfl) (e_rcv h.2.1) rfl (r_108 h (ef) (hf) ((rfl : (13 : Int32) = nI 13)) (by decide)) (fun σ' y hq => ?_)
    obtain ⟨hss, rfl⟩ := hq
    replace hss := hss.symm
    subst hss
    refine h_st rfl rfl ?_
    refine h_br (fun q2 => ?_) (fun q2 => ?_)
    · refine h_st rfl rfl ?_
      exact h_rt rfl rfl (⟨_, _, rfl, rfl, Or.inl rfl⟩)
    · refine h_st rfl rfl ?_
      refine h_st rfl rfl ?_
      refine h_st rfl rfl ?_
      refine h_ci3 rfl (Nat.le_of_ble_eq_true rfl) (e_rcv h.2.1) rfl (r_108 h (ef) (hf) ((rfl : (14 : Int32) = nI 14)) (by decide)) (fun σ' y hq => ?_)
      obtain ⟨hss, rfl⟩ := hq
      replace hss := hss.symm
      subst hss
      refine h_st rfl rfl ?_
      refine h_st rfl rfl ?_
      refine h_br (fun q3 => ?_) (fun q3 => ?_)
      · refine h_st rfl rfl ?_
        exact h_rt rfl rfl (⟨_, _, rfl, rfl, Or.inl rfl⟩)
      · refine h_st rfl rfl ?_
        refine h_st rfl rfl ?_
        refine h_st rfl rfl ?_
        refine h_ci3 rfl (Nat.le_of_ble_eq_true rfl) (e_rcv h.2.1) rfl (r_108 h (ef) (hf) ((rfl : (23 : Int32) = nI 23)) (by decide)) (fun σ' y hq => ?_)
        obtain ⟨hss, rfl⟩ := hq
        replace hss := hss.symm
        subst hss
        refine h_st rfl rfl ?_
        refine h_st rfl rfl ?_
        refine h_br (fun q4 => ?_) (fun q4 => ?_)
        · refine h_st rfl rfl ?_
          exact h_rt rfl rfl (⟨_, _, rfl, rfl, Or.inl rfl⟩)
        · refine h_st rfl rfl ?_
          refine h_st rfl rfl ?_
          refine h_ci2 rfl (Nat.le_of_ble_eq_true rfl) (e_rcv h.2.1) rfl (r_106 h ef hf) (fun σ' y hq => ?_)
          replace hq := hq.symm
          subst hq
          refine h_st rfl rfl ?_
          refine h_st rfl rfl ?_
          refine h_st rfl rfl ?_
          refine h_ci3 rfl (Nat.le_of_ble_eq_true rfl) (e_rcv h.2.1) rfl (r_107 h (ef) (hf) ((rfl : (24 : Int32) = nI 24)) (by decide)) (fun σ' y hq => ?_)
          obtain ⟨hss, rfl⟩ := hq
          replace hss := hss.symm
          subst hss
          refine h_st rfl rfl ?_
          refine h_br (fun q5 => ?_) (fun q5 => ?_)
          · refine h_st rfl rfl ?_
            exact h_rt rfl rfl (⟨_, _, rfl, rfl, Or.inl rfl⟩)
          · refine h_st rfl rfl ?_
            refine h_st rfl rfl ?_
            refine h_br (fun q6 => ?_) (fun q6 => ?_)
            · refine h_st rfl rfl ?_
              exact h_rt rfl rfl (⟨_, _, rfl, rfl, Or.inl rfl⟩)
            · refine h_st rfl rfl ?_
              refine h_st rfl rfl ?_
              refine h_st rfl (e_get h.2.1 rfl) ?_
              refine h_st rfl rfl ?_
              refine h_st rfl ((q_ia h.a195 (ef) (hf) (by decide)).trans (by rw [hz])) ?_
              refine h_st rfl rfl ?_
              refine h_st rfl rfl ?_
              refine h_st rfl rfl ?_
              refine h_br (fun q7 => ?_) (fun q7 => ?_)
              · refine h_st rfl rfl ?_
                exact h_rt rfl rfl (⟨_, _, rfl, rfl, Or.inl rfl⟩)
              · refine h_st rfl rfl ?_
                refine h_st rfl rfl ?_
                exact h_rt rfl rfl (⟨_, _, rfl, rfl, Or.inr ⟨rfl, q6, q7⟩⟩)
theorem r_100 {b : Bool} {σ0 : ae_S} {F0 F : Nat → Nat → Int32} {c u g : Int32} (h : RS b σ0 F0 σ c u g F) {l : Nat} {x : Int32} (el : x = nI l) (hl : l < 8) {k : Nat} (hk : F 182 l = nI k) (hk1 : 64 ≤ k ∧ k ≤ 128) : hE ra (d + 1) 100 [.ref 176, .int x] σ (pI (fun σ' v => σ' = σ ∧ v = nI (if F 179 l = 0 then k - 39 else (k - 39) / 8 * 8))) := by
  have e1 : nI k - 39 = nI (k - 39) := pk_sub (a := k) (b := 39) (by omega)
  have e2 : (nI k - 39) / 8 * 8 = nI ((k - 39) / 8 * 8) := by rw [e1, show (8 : Int32) = nI 8 from rfl, pk_div (by omega) (by decide) (by decide), pk_mul]
  refine h_in rfl rfl (Nat.le_of_ble_eq_true rfl) ?_
  refine h_st rfl rfl ?_
  refine h_st rfl (e_get h.2.1 rfl) ?_
  refine h_st rfl rfl ?_
  refine h_st rfl (q_ba h.a179 (el) (hl) (by decide)) ?_
  refine h_st rfl rfl ?_
  refine h_br (fun q => ?_) (fun q => ?_)
  · refine h_st rfl rfl ?_
    refine h_st rfl (e_get h.2.1 rfl) ?_
    refine h_st rfl rfl ?_
    refine h_st rfl ((q_ia h.a182 el hl (by decide)).trans (by rw [hk])) ?_
    refine h_st rfl rfl ?_
    refine h_st rfl rfl ?_
    exact h_rt rfl rfl (⟨_, _, rfl, rfl, by rw [if_pos q]; exact e1⟩)
  · refine h_st rfl rfl ?_
    refine h_st rfl (e_get h.2.1 rfl) ?_
    refine h_st rfl rfl ?_
    refine h_st rfl ((q_ia h.a182 el hl (by decide)).trans (by rw [hk])) ?_
    refine h_st rfl rfl ?_
    refine h_st rfl rfl ?_
    refine h_st rfl rfl ?_
    refine h_st rfl (e_dv (by decide)) ?_
    refine h_st rfl rfl ?_
    refine h_st rfl rfl ?_
    refine h_st rfl rfl ?_
    exact h_rt rfl rfl (⟨_, _, rfl, rfl, by rw [if_neg q]; exact e2⟩)
theorem r_109 (a b2 c2 k : Int32) : hE ra (d + 1) 109 [.int a, .int b2, .int c2, .int k] σ (pI (fun σ' _ => σ' = σ)) := by
  refine h_in rfl rfl (Nat.le_of_ble_eq_true rfl) ?_
  refine h_st rfl rfl ?_
  refine h_st rfl rfl ?_
  refine h_sw (by decide) ?_ (fun t9 ht9 => ?_)
  · refine h_st rfl rfl ?_
    refine h_st rfl rfl ?_
    refine h_st rfl rfl ?_
    refine h_st rfl rfl ?_
    refine h_st rfl rfl ?_
    refine h_st rfl rfl ?_
    refine h_st rfl rfl ?_
    refine h_st rfl rfl ?_
    refine h_st rfl rfl ?_
    refine h_st rfl rfl ?_
    refine h_st rfl rfl ?_
    refine h_st rfl rfl ?_
    refine h_st rfl rfl ?_
    refine h_st rfl rfl ?_
    refine h_st rfl rfl ?_
    refine h_st rfl (e_dv (by decide)) ?_
    refine h_st rfl rfl ?_
    exact h_rt rfl rfl (⟨_, _, rfl, rfl⟩)
  · simp only [List.mem_cons, List.not_mem_nil, or_false] at ht9
    rcases ht9 with rfl | rfl | rfl | rfl | rfl | rfl | rfl | rfl
    · refine h_st rfl rfl ?_
      refine h_st rfl rfl ?_
      refine h_st rfl rfl ?_
      refine h_st rfl rfl ?_
      refine h_st rfl (e_dv (by decide)) ?_
      exact h_rt rfl rfl (⟨_, _, rfl, rfl⟩)
    · refine h_st rfl rfl ?_
      refine h_st rfl rfl ?_
      refine h_st rfl rfl ?_
      exact h_rt rfl rfl (⟨_, _, rfl, rfl⟩)
    · refine h_st rfl rfl ?_
      refine h_st rfl rfl ?_
      refine h_st rfl rfl ?_
      refine h_st rfl rfl ?_
      refine h_st rfl (e_dv (by decide)) ?_
      exact h_rt rfl rfl (⟨_, _, rfl, rfl⟩)
    · refine h_st rfl rfl ?_
      refine h_st rfl rfl ?_
      refine h_st rfl rfl ?_
      exact h_rt rfl rfl (⟨_, _, rfl, rfl⟩)
    · refine h_st rfl rfl ?_
      refine h_st rfl rfl ?_
      refine h_st rfl rfl ?_
      refine h_st rfl rfl ?_
      refine h_st rfl (e_dv (by decide)) ?_
      exact h_rt rfl rfl (⟨_, _, rfl, rfl⟩)
    · refine h_st rfl rfl ?_
      refine h_st rfl rfl ?_
      refine h_st rfl rfl ?_
      exact h_rt rfl rfl (⟨_, _, rfl, rfl⟩)
    · refine h_st rfl rfl ?_
      exact h_rt rfl rfl (⟨_, _, rfl, rfl⟩)
    · refine h_st rfl rfl ?_
      exact h_rt rfl rfl (⟨_, _, rfl, rfl⟩)
end RF2
