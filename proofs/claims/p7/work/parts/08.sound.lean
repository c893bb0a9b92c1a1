section AES
variable {p : Program} {l : Launch} {e : Env} {R : Room} {s : State} {m : MethodId} {args : Array Value} {below : List Frame} {meth : Method} {c : Code} {Q : State → Prop}
variable {D : va_G} {dA : Nat → ClassId} {ro : Nat → Nat} {A : Nat → Prop} {nL : Nat} {B : Nat × Nat} {ad0 : Nat → Nat} {n0 : Nat}
variable {ra : Nat → Nat × (Nat → Int32)} {own nm : String} {cc : ByteArray} {ret : Option FieldType} {KF SF d : Nat} {pc : Nat} {hd : List (Nat × Nat × Nat × Nat)}
variable {am : ae_Am}
/-- what a return at pc must be -/
def ae_RTo (cc : ByteArray) (ret : Option FieldType) (pc : Nat) : Option (Value → Bool) → Prop
  | none => ret = none ∧ decode cc pc = .ok (.return_, 1)
  | some ok => (ret = some .int ∧ decode cc pc = .ok (.ireturn, 1) ∧ ∀ v, ok v = true → ∃ x, v = .int x) ∨ (ret = some .boolean ∧ decode cc pc = .ok (.ireturn, 1) ∧ ∀ v, ok v = true → ∃ x, v = .int x ∧ narrow .boolean (.int x) = .int x) ∨ (((∃ n, ret = some (.object n)) ∨ ∃ t, ret = some (.array t)) ∧ decode cc pc = .ok (.areturn, 1) ∧ ∀ v, ok v = true → v = .null ∨ ∃ q, v = .ref q)
/-- an entry of a method's table is sound -/
def ae_E (am : ae_Am) (own nm : String) (cc : ByteArray) (nL : Nat) (ret : Option FieldType) (hd : List (Nat × Nat × Nat × Nat)) (q : Nat × ae_I) : Prop := match q.2 with
  | .inl f => ae_Pu f ∧ ∀ (p : Program) (l : Launch) (e : Env) (R : Room) (s : State) (m : MethodId) (args : Array Value) (below : List Frame) (meth : Method) (c : Code) (Q : State → Prop) (D : va_G) (dA : Nat → ClassId) (ro : Nat → Nat) (A : Nat → Prop) (B : Nat × Nat) (ad0 : Nat → Nat) (n0 : Nat) (ra : ae_R) (KF SF d : Nat), ae_X p l e R s m args below meth c D dA ro A B ra own nm cc nL ret KF SF d hd → ae_Ok p l e R s m args below meth c Q D dA ro A nL B ad0 n0 ra KF SF q.1 f
  | .inr (.inl o) => ae_RTo cc ret q.1 o
  | .inr (.inr (.inl (mid, na, np, rc, hs))) => (∀ (p : Program) (l : Launch) (e : Env) (R : Room) (s : State) (m : MethodId) (args : Array Value) (below : List Frame) (meth : Method) (c : Code) (Q : State → Prop) (D : va_G) (dA : Nat → ClassId) (ro : Nat → Nat) (A : Nat → Prop) (B : Nat × Nat) (ad0 : Nat → Nat) (n0 : Nat) (ra : ae_R) (KF SF d : Nat), ae_X p l e R s m args below meth c D dA ro A B ra own nm cc nL ret KF SF d hd → ae_CO p l e R s m args below meth c Q D dA ro A nL B ad0 n0 am ra KF SF d q.1 mid na np rc) ∧ ∀ z ∈ hs, ∀ (p : Program) (l : Launch) (e : Env) (R : Room) (s : State) (m : MethodId) (args : Array Value) (below : List Frame) (meth : Method) (c : Code) (Q : State → Prop) (D : va_G) (dA : Nat → ClassId) (ro : Nat → Nat) (A : Nat → Prop) (B : Nat × Nat) (ad0 : Nat → Nat) (n0 : Nat) (ra : ae_R) (KF SF d : Nat), ae_X p l e R s m args below meth c D dA ro A B ra own nm cc nL ret KF SF d hd → ae_CX p l e R s m args below meth c Q D dA ro A nL B ad0 n0 am ra KF SF d q.1 mid na rc z.1 z.2.1 z.2.2
  | .inr (.inr (.inr (x, c1, c2))) => c1 = 1 ∧ c2 = 6 ∧ ae_TE own cc hd q.1 x
theorem ae_tab_mem {t : List (Nat × ae_I)} {pc : Nat} {i : ae_I} (h : ae_tab t pc = some i) : (pc, i) ∈ t := by
  unfold ae_tab at h
  cases hf : t.find? (fun q => q.1 == pc) with
  | none => rw [hf] at h; cases h
  | some q =>
    rw [hf] at h
    obtain ⟨a, b⟩ := q
    have h1 : b = i := Option.some.inj h
    have h2 : a = pc := by simpa using List.find?_some hf
    subst h1
    subst h2
    exact List.mem_of_find?_eq_some hf
/-- a return, as the machine does it -/
theorem ae_ret (X : ae_X p l e R s m args below meth c D dA ro A B ra own nm cc nL ret KF SF d hd) {σ0 : ae_S} (hA0 : A = va_A (ae_w ad0 ro dA σ0.2) s.heap.size) (hn : n0 = σ0.2.length) {o : Option (Value → Bool)} (ho : ae_RTo cc ret pc o) {σ : ae_S} {L : ae_Ls} {k : List Value} {r : Option Value}
    (hr : (o = none ∧ k = [] ∧ r = none) ∨ (∃ ok v, o = some ok ∧ k = [v] ∧ ok v = true ∧ r = some v)) :
    ae_Go p l e R s m args below meth c (MQ below (ae_pst D dA ro ad0 σ0 s.heap.size σ r) args s (σ.1.1 - B.1) (σ.1.2 - B.2) A) D dA ro A nL B ad0 n0 σ L k pc := by
  obtain ⟨hx, hb, hml, hown, hts, hrt, hlk, hnm, hK, hRO, hA, hfr, hlo, hKF, hSF, hxt, hst⟩ := X
  intro ad H locs cells slots ls hP hD hS hc hs hl had
  have e1 : σ.1.1 - B.1 = cells := by omega
  have e2 : σ.1.2 - B.2 = slots := by omega
  rw [e1, e2]
  have hq : ∀ (rv : Option Value), rv = r.map (ae_v ad ro) → ∀ t : State, t.heap = H → s.WarmedH t.vm → ae_pst D dA ro ad0 σ0 s.heap.size σ r args s (.returned rv) t := fun rv hrv t ht hW => by
    subst hrv
    refine ⟨⟨ad, fun q hq => had q (by rw [hn]; exact hq), rfl, by rw [ht]; exact hP, by rw [← hA0]; exact hD⟩, ?_⟩
    rw [← hA0]
    exact hS.F ht
  have hf : ∀ q ∈ locs, A q.base := hS.2.2
  rcases hr with ⟨h1, h2, h3⟩ | ⟨ok, v, h1, h2, h3, h4⟩
  · subst h1
    subst h2
    subst h3
    exact W.vret hx hb (hrt.trans ho.1) (hq none rfl) hf ho.2
  · subst h1
    subst h2
    subst h4
    rcases ho with ⟨o1, o2, o3⟩ | ⟨o1, o2, o3⟩ | ⟨o1, o2, o3⟩
    · obtain ⟨x, rfl⟩ := o3 v h3
      exact W.iret hx hb (hrt.trans o1) (hq (some (.int x)) rfl) hf o2
    · obtain ⟨x, rfl, hnx⟩ := o3 v h3
      exact W.zret hx hb (hrt.trans o1) hnx (hq (some (.int x)) rfl) hf o2
    · have hrt2 : ∃ rt, ret = some rt ∧ ((∃ n, rt = .object n) ∨ ∃ t, rt = .array t) := by
        rcases o1 with ⟨n, z⟩ | ⟨t, z⟩
        · exact ⟨_, z, Or.inl ⟨n, rfl⟩⟩
        · exact ⟨_, z, Or.inr ⟨t, rfl⟩⟩
      obtain ⟨rt, z1, z2⟩ := hrt2
      rcases o3 v h3 with hv | ⟨q, hv⟩
      · subst hv
        exact W.aret (v := .null) hx hb (hrt.trans z1) z2 (Or.inl rfl) (hq (some .null) rfl) hf o2
      · subst hv
        exact W.aret (v := .ref (ad q)) hx hb (hrt.trans z1) z2 (Or.inr ⟨_, rfl⟩) (hq (some (.ref (ad q))) rfl) hf o2
/-- what the callees give -/
def ae_HE (l : Launch) (am : ae_Am) (ra : ae_R) (d : Nat) (E : ae_Ev) : Prop :=
  ∀ (mid : Nat) (args : List Value) (σ σ' : ae_S) (o : ae_O), E mid args σ = some (σ', o) → ae_cs σ → ae_ck σ.2.length args → (∀ v ∈ args, v.category = 1) → ae_gd σ σ' o ∧ (∀ r, o = .inl r → ae_M l am ra d mid args σ σ' r) ∧ ∀ x, o = .inr x → ae_MX l am ra d mid args σ σ' x
theorem ae_runPure {l : Launch} {th : Bool} {t : List (Nat × ae_I)} {E : ae_Ev} (hT : ∀ q ∈ t, ae_E am own nm cc nL ret hd q) (hE : ae_HE l am ra d E) :
    ∀ (n : Nat) (σ : ae_S) (L : ae_Ls) (k : List Value) (pc : Nat) (σF : ae_S) (o : ae_O), ae_run ra t E th n σ L k pc = some (σF, o) → ae_cl σ L k → ae_gd σ σF o := by
  intro n
  induction n with
  | zero => intro σ L k pc σF o h; cases h
  | succ n ih =>
    intro σ L k pc σF o h hcl
    unfold ae_run at h
    split at h
    · cases h
    · rename_i f ht
      have hq := hT _ (ae_tab_mem ht)
      split at h
      · cases h
      · rename_i σ' L' k' pc' hf
        obtain ⟨a1, a2, a3, a4⟩ := hq.1 ra σ L k σ' L' k' pc' hf hcl
        obtain ⟨b1, b2, b3, b4, b5⟩ := ih σ' L' k' pc' σF o h a1
        exact ⟨b1, b2, Nat.le_trans a2 b3, Nat.le_trans a3 b4, Nat.le_trans a4 b5⟩
    · split at h
      · cases h
        exact ⟨hcl.1, (fun v hv => by cases hv), Nat.le_refl _, Nat.le_refl _, Nat.le_refl _⟩
      · cases h
    · split at h
      · split at h
        · cases h
          exact ⟨hcl.1, (fun v hv => by cases hv; exact ck_h hcl.2.2), Nat.le_refl _, Nat.le_refl _, Nat.le_refl _⟩
        · cases h
      · cases h
    · rename_i mid na np rc hs ht
      have hq := hT _ (ae_tab_mem ht)
      split at h
      · rename_i hc
        obtain ⟨c1, c2, c3, c4⟩ := hc
        split at h
        · cases h
        · rename_i σ' v hev
          have hg := (hE mid _ σ σ' (.inl v) hev hcl.1 (fun u hu => hcl.2.2 u (List.mem_of_mem_take (List.mem_reverse.mp hu))) (fun u hu => by simpa using List.all_eq_true.mp c4 u (List.mem_reverse.mp hu))).1
          obtain ⟨g1, g2, g3, g4, g5⟩ := hg
          have hk : ae_ck σ'.2.length (v.toList ++ k.drop na) := fun u hu => by
            rcases List.mem_append.mp hu with h1 | h1
            · exact g2 u (by rw [Option.mem_toList.mp h1])
            · exact ae_cv_mono g5 (hcl.2.2 u (List.mem_of_mem_drop h1))
          obtain ⟨b1, b2, b3, b4, b5⟩ := ih σ' L _ np σF o h ⟨g1, ae_cL_mono g5 hcl.2.1, hk⟩
          exact ⟨b1, b2, Nat.le_trans g3 b3, Nat.le_trans g4 b4, Nat.le_trans g5 b5⟩
        · rename_i σ' x hev
          have hg := (hE mid _ σ σ' (.inr x) hev hcl.1 (fun u hu => hcl.2.2 u (List.mem_of_mem_take (List.mem_reverse.mp hu))) (fun u hu => by simpa using List.all_eq_true.mp c4 u (List.mem_reverse.mp hu))).1
          obtain ⟨g1, g2, g3, g4, g5⟩ := hg
          split at h
          · cases h
          · rename_i y hp i hfd
            obtain ⟨b1, b2, b3, b4, b5⟩ := ih σ' (L.set i none) [] hp σF o h ⟨g1, cL_none (ae_cL_mono g5 hcl.2.1), fun u hu => by cases hu⟩
            exact ⟨b1, b2, Nat.le_trans g3 b3, Nat.le_trans g4 b4, Nat.le_trans g5 b5⟩
      · cases h
    · rename_i x c1 c2 ht
      split at h
      · cases h
        exact ⟨hcl.1, (fun v hv => by cases hv), Nat.le_add_right _ _, Nat.le_add_right _ _, Nat.le_refl _⟩
      · cases h
theorem ae_runGo {th : Bool} {t : List (Nat × ae_I)} {E : ae_Ev} (hT : ∀ q ∈ t, ae_E am own nm cc nL ret hd q) (hE : ae_HE l am ra d E) {σF : ae_S} {oF : ae_O} (X : ae_X p l e R s m args below meth c D dA ro A B ra own nm cc nL ret KF SF d hd) (hKS : σF.1.1 ≤ KF ∧ σF.1.2 ≤ SF) (hFin : ∀ r, oF = .inl r → ∀ (pc : Nat) (o : Option (Value → Bool)) (L : ae_Ls) (k : List Value), ae_RTo cc ret pc o → (o = none ∧ k = [] ∧ r = none) ∨ (∃ ok v, o = some ok ∧ k = [v] ∧ ok v = true ∧ r = some v) → ae_Go p l e R s m args below meth c Q D dA ro A nL B ad0 n0 σF L k pc)
    (hThr : ∀ x, oF = .inr x → th = true → ∀ (pc : Nat) (σt : ae_S) (L : ae_Ls) (k : List Value), ae_TE own cc hd pc x → ae_cat k ≤ 8 → σF = ((σt.1.1 + 1, σt.1.2 + 6), σt.2) → ae_Go p l e R s m args below meth c Q D dA ro A nL B ad0 n0 σt L k pc) :
    ∀ (n : Nat) (σ : ae_S) (L : ae_Ls) (k : List Value) (pc : Nat), ae_run ra t E th n σ L k pc = some (σF, oF) → ae_cl σ L k → n0 ≤ σ.2.length → ae_Go p l e R s m args below meth c Q D dA ro A nL B ad0 n0 σ L k pc := by
  intro n
  induction n with
  | zero => intro σ L k pc h; cases h
  | succ n ih =>
    intro σ L k pc h hcl hn0
    unfold ae_run at h
    split at h
    · cases h
    · rename_i f ht
      have hq := hT _ (ae_tab_mem ht)
      split at h
      · cases h
      · rename_i σ' L' k' pc' hf
        obtain ⟨a1, a2, a3, a4⟩ := hq.1 ra σ L k σ' L' k' pc' hf hcl
        obtain ⟨b1, b2, b3, b4, b5⟩ := ae_runPure hT hE n σ' L' k' pc' σF oF h a1
        exact hq.2 _ _ _ _ _ _ _ _ _ _ Q _ _ _ _ _ ad0 n0 _ _ _ _ X σ L k σ' L' k' pc' hf hcl hn0 ⟨Nat.le_trans b3 hKS.1, Nat.le_trans b4 hKS.2⟩ (ih σ' L' k' pc' h a1 (Nat.le_trans hn0 a4))
    · rename_i ht
      have hq := hT _ (ae_tab_mem ht)
      split at h
      · cases h
        exact hFin none rfl pc none L [] hq (Or.inl ⟨rfl, rfl, rfl⟩)
      · cases h
    · rename_i ok ht
      have hq := hT _ (ae_tab_mem ht)
      split at h
      · rename_i v
        split at h
        · rename_i hok
          cases h
          exact hFin (some v) rfl pc (some ok) L [v] hq (Or.inr ⟨ok, v, rfl, rfl, hok, rfl⟩)
        · cases h
      · cases h
    · rename_i mid na np rc hs ht
      have hq := hT _ (ae_tab_mem ht)
      obtain ⟨hq2, hq3⟩ := hq
      split at h
      · rename_i hc
        obtain ⟨c1, c2, c3, c4⟩ := hc
        split at h
        · cases h
        · rename_i σ' v hev
          obtain ⟨hg, hM, -⟩ := hE mid _ σ σ' (.inl v) hev hcl.1 (fun u hu => hcl.2.2 u (List.mem_of_mem_take (List.mem_reverse.mp hu))) (fun u hu => by simpa using List.all_eq_true.mp c4 u (List.mem_reverse.mp hu))
          have hg0 := hg
          obtain ⟨g1, g2, g3, g4, g5⟩ := hg
          have hk : ae_ck σ'.2.length (v.toList ++ k.drop na) := fun u hu => by
            rcases List.mem_append.mp hu with h1 | h1
            · exact g2 u (by rw [Option.mem_toList.mp h1])
            · exact ae_cv_mono g5 (hcl.2.2 u (List.mem_of_mem_drop h1))
          have hcl' : ae_cl σ' L (v.toList ++ k.drop na) := ⟨g1, ae_cL_mono g5 hcl.2.1, hk⟩
          obtain ⟨b1, b2, b3, b4, b5⟩ := ae_runPure hT hE n σ' L _ np σF oF h hcl'
          have hkk : (k.take na).reverse.reverse ++ k.drop na = k := by rw [List.reverse_reverse, List.take_append_drop]
          have G1 := ih σ' L _ np h hcl' (Nat.le_trans hn0 g5)
          have G2 := hq2 _ _ _ _ _ _ _ _ _ _ Q _ _ _ _ _ ad0 n0 _ _ _ _ X σ L (k.take na).reverse (k.drop na) σ' v (by simp; omega) c2 c3 (hM v rfl) (by rw [hkk]; exact hcl) hn0 hg0 ⟨Nat.le_trans b3 hKS.1, Nat.le_trans b4 hKS.2⟩ G1
          rw [hkk] at G2
          exact G2
        · rename_i σ' x hev
          obtain ⟨hg, -, hM⟩ := hE mid _ σ σ' (.inr x) hev hcl.1 (fun u hu => hcl.2.2 u (List.mem_of_mem_take (List.mem_reverse.mp hu))) (fun u hu => by simpa using List.all_eq_true.mp c4 u (List.mem_reverse.mp hu))
          have hg0 := hg
          obtain ⟨g1, g2, g3, g4, g5⟩ := hg
          split at h
          · cases h
          · rename_i y hp i hfd
            have hyx : y = x := by simpa using List.find?_some hfd
            subst hyx
            have hcl' : ae_cl σ' (L.set i none) [] := ⟨g1, cL_none (ae_cL_mono g5 hcl.2.1), fun u hu => by cases hu⟩
            obtain ⟨b1, b2, b3, b4, b5⟩ := ae_runPure hT hE n σ' (L.set i none) [] hp σF oF h hcl'
            have hkk : (k.take na).reverse.reverse ++ k.drop na = k := by rw [List.reverse_reverse, List.take_append_drop]
            have G1 := ih σ' (L.set i none) [] hp h hcl' (Nat.le_trans hn0 g5)
            have G2 := hq3 _ (List.mem_of_find?_eq_some hfd) _ _ _ _ _ _ _ _ _ _ Q _ _ _ _ _ ad0 n0 _ _ _ _ X σ L (k.take na).reverse (k.drop na) σ' (by simp; omega) c2 c3 (hM y rfl) (by rw [hkk]; exact hcl) hn0 hg0 ⟨Nat.le_trans b3 hKS.1, Nat.le_trans b4 hKS.2⟩ G1
            rw [hkk] at G2
            exact G2
      · cases h
    · rename_i x c1 c2 ht
      have hq := hT _ (ae_tab_mem ht)
      obtain ⟨hq1, hq2, hq3⟩ := hq
      subst hq1
      subst hq2
      split at h
      · rename_i hc
        cases h
        exact hThr x rfl hc.1 pc σ L k hq3 hc.2 rfl
      · cases h
end AES
section AET
/-- every method's table is sound -/
def ae_TB (am : ae_Am) (at0 : ae_At) : Prop := ∀ mid, at0 mid ≠ [] → plainName (am mid).1.cls = true ∧ ∀ q ∈ at0 mid, ae_E am (am mid).1.cls (am mid).1.name (am mid).2.1 (am mid).2.2.1 (am mid).2.2.2.1 (am mid).2.2.2.2 q
theorem ae_entL {n nL : Nat} {args : List Value} (h : ae_ck n args) (hc : ∀ v ∈ args, v.category = 1) : ae_cL n (ae_ent args nL) := by
  intro i v hv
  unfold ae_ent at hv
  have hm := List.mem_of_getElem? hv
  rcases List.mem_append.mp hm with h1 | h1
  · obtain ⟨u, hu, he⟩ := List.mem_map.mp h1
    cases he
    exact ⟨h v hu, hc v hu⟩
  · have := List.eq_of_mem_replicate h1
    cases this
theorem ae_entS {ad ro : Nat → Nat} : ∀ (args : List Value), (∀ v ∈ args, v.category = 1) → lg_sl (args.map (ae_v ad ro)) = args.map (fun v => Slot.val (ae_v ad ro v)) := by
  intro args
  induction args with
  | nil => intro _; rfl
  | cons a as ih =>
    intro h
    have h1 : (ae_v ad ro a).category = 1 := by rw [ae_v_cat]; exact h a List.mem_cons_self
    have h2 := ih (fun v hv => h v (List.mem_cons_of_mem _ hv))
    simp only [lg_sl, List.map_cons, List.flatMap_cons] at h2 ⊢
    rw [h2]
    simp [h1]
theorem ae_entA {ad ro : Nat → Nat} : ∀ (args : List Value) (i : Nat), (∀ v ∈ args, v.category = 1) → ∀ (j : Nat) (v : Value), args[j]? = some v → (i + j, ae_v ad ro v) ∈ lv_args i (args.map (ae_v ad ro)) := by
  intro args
  induction args with
  | nil => intro i _ j v h; simp at h
  | cons a as ih =>
    intro i hc j v h
    have h1 : (ae_v ad ro a).category = 1 := by rw [ae_v_cat]; exact hc a List.mem_cons_self
    cases j with
    | zero =>
      simp at h
      subst h
      simp [lv_args]
    | succ j =>
      simp at h
      have h2 := ih (i + 1) (fun v hv => hc v (List.mem_cons_of_mem _ hv)) j v h
      simp only [List.map_cons, lv_args, h1]
      simp
      rw [show i + (j + 1) = i + 1 + j by omega]
      exact h2
theorem ae_sound (l : Launch) (hst : l.stackTraces = false) {am : ae_Am} {at0 : ae_At} (ra : ae_R) (hTB : ae_TB am at0) : ∀ (d n : Nat), ae_HE l am ra d (ae_ev am at0 ra d n) := by
  intro d n
  induction d with
  | zero => intro mid args σ σ' o h; cases h
  | succ d ih =>
    intro mid args0 σ σ' o h hcs hck hcat
    unfold ae_ev at h
    split at h
    · rename_i hlen
      have hne : at0 mid ≠ [] := by
        intro z
        rw [z] at h
        cases n <;> simp [ae_run, ae_tab] at h
      obtain ⟨hpl, hT⟩ := hTB mid hne
      have hcl : ae_cl σ (ae_ent args0 (am mid).2.2.1) [] := ⟨hcs, ae_entL hck hcat, fun v hv => by cases hv⟩
      have hg := ae_runPure hT ih n σ _ [] 0 σ' o h hcl
      have hg0 := hg
      obtain ⟨g1, g2, g3, g4, g5⟩ := hg
      have key : ∀ (D : va_G) (dA : Nat → ClassId) (ro ad : Nat → Nat) (sz : Nat) (QQ : Array Value → State → Outcome → State → Prop), (∀ (p : Program) (e : Env) (s : State) (m : MethodId) (below : List Frame) (meth : Method) (c : Code), ae_X p l e (headSpec [ae_cw (am mid)] (ae_rm (d + 1) σ σ')).room s m (args0.map (ae_v ad ro)).toArray below meth c D dA ro (va_A (ae_w ad ro dA σ.2) s.heap.size) σ.1 ra (am mid).1.cls (am mid).1.name (am mid).2.1 (am mid).2.2.1 (am mid).2.2.2.1 σ'.1.1 σ'.1.2 d (am mid).2.2.2.2 → s.heap.size = sz →
          (∀ r, o = .inl r → ∀ (pc : Nat) (oo : Option (Value → Bool)) (L : ae_Ls) (k : List Value), ae_RTo (am mid).2.1 (am mid).2.2.2.1 pc oo → (oo = none ∧ k = [] ∧ r = none) ∨ (∃ ok v, oo = some ok ∧ k = [v] ∧ ok v = true ∧ r = some v) → ae_Go p l e (headSpec [ae_cw (am mid)] (ae_rm (d + 1) σ σ')).room s m (args0.map (ae_v ad ro)).toArray below meth c (ae_MQ below QQ (args0.map (ae_v ad ro)).toArray s) D dA ro (va_A (ae_w ad ro dA σ.2) s.heap.size) (am mid).2.2.1 σ.1 ad σ.2.length σ' L k pc) ∧
          (∀ x, o = .inr x → decide (5 ≤ d) = true → ∀ (pc : Nat) (σt : ae_S) (L : ae_Ls) (k : List Value), ae_TE (am mid).1.cls (am mid).2.1 (am mid).2.2.2.2 pc x → ae_cat k ≤ 8 → σ' = ((σt.1.1 + 1, σt.1.2 + 6), σt.2) → ae_Go p l e (headSpec [ae_cw (am mid)] (ae_rm (d + 1) σ σ')).room s m (args0.map (ae_v ad ro)).toArray below meth c (ae_MQ below QQ (args0.map (ae_v ad ro)).toArray s) D dA ro (va_A (ae_w ad ro dA σ.2) s.heap.size) (am mid).2.2.1 σ.1 ad σ.2.length σt L k pc)) →
          MetFree l (am mid).1 (headSpec [ae_cw (am mid)] (ae_rm (d + 1) σ σ')) (va_Pc (args0.map (ae_v ad ro)) (ae_pre D dA ro ra ad σ sz)) (fun _ _ _ _ _ => True) QQ := by
        intro D dA ro ad sz QQ hend
        refine ae_ofW hpl ?_
        intro p e s m args below meth c s₁ BB hml htab hv
        obtain ⟨rfl, hsz, hP, hK, hD0, hRO, hWd⟩ := hv
        have hown : s.vm.findClass (am mid).1.cls = some m.cls := findClass_of_methodNamed BB.named
        have hnm : meth.name = (am mid).1.name := (name_of_methodNamed BB.named BB.method).1
        have hD := hD0.self (sz := s.heap.size)
        have hA : ∀ q : Nat, s.heap.size ≤ q → va_A (ae_w ad ro dA σ.2) s.heap.size q := fun q h => Or.inr h
        have X : ae_X p l e (headSpec [ae_cw (am mid)] (ae_rm (d + 1) σ σ')).room s m (args0.map (ae_v ad ro)).toArray below meth c D dA ro (va_A (ae_w ad ro dA σ.2) s.heap.size) σ.1 ra (am mid).1.cls (am mid).1.name (am mid).2.1 (am mid).2.2.1 (am mid).2.2.2.1 σ'.1.1 σ'.1.2 d (am mid).2.2.2.2 := by
          refine ⟨BB.exec, BB.bytes, hml, hown, ?_, BB.returns, BB.notSynchronized, hnm, hK, ?_, hA, Nat.le_refl _, Nat.le_refl _, ?_, ?_, htab, hst⟩
          · exact aw_warmAll (s := s) (U := s) (State.WarmedH.refl s) hWd
          · rw [hsz]
            exact hRO
          · show σ'.1.1 ≤ σ.1.1 + (σ'.1.1 - σ.1.1)
            omega
          · show σ'.1.2 ≤ σ.1.2 + (σ'.1.2 - σ.1.2)
            omega
        obtain ⟨hf, ht⟩ := hend p e s m below meth c X hsz
        have GG := ae_runGo (Q := ae_MQ below QQ (args0.map (ae_v ad ro)).toArray s) (ad0 := ad) (n0 := σ.2.length) hT ih (σF := σ') (oF := o) X ⟨Nat.le_refl _, Nat.le_refl _⟩ hf ht n σ _ [] 0 h hcl (Nat.le_refl _)
        have hlens : (lg_sl (args0.map (ae_v ad ro))).length ≤ (am mid).2.2.1 := by
          rw [ae_entS args0 hcat]
          simpa using hlen
        have hl := lv_entry (args0.map (ae_v ad ro)) (n := (am mid).2.2.1) hlens
        rw [lg_entry_eq]
        refine GG ad s.heap [] 0 0 _ hP hD va_S.rf rfl rfl ⟨?_, hl.1, hl.2.1, ?_⟩ (fun _ _ => rfl)
        · unfold ae_ent
          simp
          omega
        · intro i v hv
          unfold ae_ent at hv
          have hi : args0[i]? = some v := by
            by_cases hlt : i < args0.length
            · rw [List.getElem?_append_left (by simpa using hlt)] at hv
              simpa using hv
            · rw [List.getElem?_append_right (by simpa using hlt)] at hv
              have := List.eq_of_mem_replicate (List.mem_of_getElem? hv)
              cases this
          have hm := ae_entA (ad := ad) (ro := ro) args0 0 hcat i v hi
          rw [Nat.zero_add] at hm
          exact hl.2.2 _ hm
      refine ⟨hg0, fun r hr => ?_, fun x hx => ?_⟩
      · subst hr
        intro D dA ro ad sz
        refine key D dA ro ad sz _ (fun p e s m below meth c X hsz => ⟨fun r' hr' pc oo L k ho hk => ?_, (fun x hx => by cases hx)⟩)
        cases hr'
        subst hsz
        exact ae_ret X rfl rfl ho hk
      · subst hx
        intro D dA ro ad sz
        refine key D dA ro ad sz _ (fun p e s m below meth c X hsz => ⟨(fun r hr => by cases hr), fun x' hx' hd5 pc σt L k hte hk hσ => ?_⟩)
        cases hx'
        subst hsz
        exact ae_throw X rfl rfl rfl hte (of_decide_eq_true hd5) hk hσ ⟨Nat.le_refl _, Nat.le_refl _⟩
    · cases h
end AET
