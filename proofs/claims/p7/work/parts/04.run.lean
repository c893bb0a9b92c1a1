section AEC
abbrev ae_K : Type := Nat × Nat × Nat × Option Nat × List (Nat × Nat × Nat)
abbrev ae_I : Type := ae_Op ⊕ (Option (Value → Bool) ⊕ (ae_K ⊕ (Nat × Nat × Nat)))
abbrev ae_O : Type := Option Value ⊕ Nat
abbrev ae_Ev : Type := Nat → List Value → ae_S → Option (ae_S × ae_O)
abbrev ae_Q4 : Type := MethodName × ByteArray × Nat × Option FieldType × List (Nat × Nat × Nat × Nat)
abbrev ae_Am : Type := Nat → ae_Q4
/-- a method's own code word, with its handlers where it has some -/
def ae_cw (q : ae_Q4) : Cond := match q.2.2.2.2 with
  | [] => .code q.1 q.2.1 q.2.2.1 q.2.2.2.1
  | z :: zs => .codeWith q.1 q.2.1 q.2.2.1 q.2.2.2.1 (z :: zs)
abbrev ae_At : Type := Nat → List (Nat × ae_I)
def ae_tab (t : List (Nat × ae_I)) (pc : Nat) : Option ae_I := (t.find? (fun q => q.1 == pc)).map (fun q => q.2)
/-- the receiver is an object of that class -/
def ae_rcv (σ : ae_S) : Option Nat → List Value → Bool
  | none, _ => true
  | some ci, .ref p :: _ => (match σ.2[p]? with
    | some (.inr (cj, _)) => cj == ci
    | _ => false)
  | some _, _ => false
def ae_run (ra : ae_R) (t : List (Nat × ae_I)) (E : ae_Ev) (th : Bool) : Nat → ae_S → ae_Ls → List Value → Nat → Option (ae_S × ae_O)
  | 0, _, _, _, _ => none
  | n + 1, σ, L, k, pc => match ae_tab t pc with
    | none => none
    | some (.inl f) => (match f ra σ L k with
      | none => none
      | some (σ', L', k', pc') => ae_run ra t E th n σ' L' k' pc')
    | some (.inr (.inl none)) => (match k with
      | [] => some (σ, .inl none)
      | _ => none)
    | some (.inr (.inl (some ok))) => (match k with
      | [v] => if ok v = true then some (σ, .inl (some v)) else none
      | _ => none)
    | some (.inr (.inr (.inl (mid, na, np, rc, hs)))) =>
      if na ≤ k.length ∧ ae_cat (k.drop na) ≤ 8 ∧ ae_rcv σ rc (k.take na).reverse = true ∧ (k.take na).all (fun v => v.category == 1) = true then
        (match E mid (k.take na).reverse σ with
        | none => none
        | some (σ', .inl v) => ae_run ra t E th n σ' L (v.toList ++ k.drop na) np
        | some (σ', .inr x) => (match hs.find? (fun h => h.1 == x) with
          | none => none
          | some (_, hp, i) => ae_run ra t E th n σ' (L.set i none) [] hp))
      else none
    | some (.inr (.inr (.inr (x, c1, c2)))) => if th = true ∧ ae_cat k ≤ 8 then some (((σ.1.1 + c1, σ.1.2 + c2), σ.2), .inr x) else none
def ae_ent (args : List Value) (nL : Nat) : ae_Ls := args.map some ++ List.replicate (nL - args.length) none
def ae_ev (am : ae_Am) (at0 : ae_At) (ra : ae_R) : Nat → Nat → ae_Ev
  | 0, _ => fun _ _ _ => none
  | d + 1, n => fun mid args σ => if args.length ≤ (am mid).2.2.1 then ae_run ra (at0 mid) (ae_ev am at0 ra d n) (decide (5 ≤ d)) n σ (ae_ent args (am mid).2.2.1) [] 0 else none
def ae_pre (D : va_G) (dA : Nat → ClassId) (ro : Nat → Nat) (ra : ae_R) (ad : Nat → Nat) (σ : ae_S) (sz : Nat) (U : State) : Prop :=
  U.heap.size = sz ∧ va_P D classes (ae_w ad ro dA σ.2) U.heap ∧ va_K D classes (ae_ty dA) U ∧ va_D (fun _ => True) (ae_w ad ro dA σ.2) ∧ ae_RO ra ro (va_A (ae_w ad ro dA σ.2) sz) U U.heap ∧ (∀ w ∈ aw_all, w.before #[] U = true)
def ae_pst (D : va_G) (dA : Nat → ClassId) (ro : Nat → Nat) (ad : Nat → Nat) (σ : ae_S) (sz : Nat) (σ' : ae_S) (r : Option Value) : Array Value → State → Outcome → State → Prop := fun _ st oc t =>
  (∃ ad' : Nat → Nat, (∀ q, q < σ.2.length → ad' q = ad q) ∧ oc = .returned (r.map (ae_v ad' ro)) ∧ va_P D classes (ae_w ad' ro dA σ'.2) t.heap ∧ va_D (va_A (ae_w ad ro dA σ.2) sz) (ae_w ad' ro dA σ'.2)) ∧ va_F (va_A (ae_w ad ro dA σ.2) sz) st t
def ae_rm (d : Nat) (σ σ' : ae_S) : Room := { frames := d, cells := σ'.1.1 - σ.1.1, slots := σ'.1.2 - σ.1.2, locals := 40 * d }
def ae_M (l : Launch) (am : ae_Am) (ra : ae_R) (d mid : Nat) (args : List Value) (σ σ' : ae_S) (r : Option Value) : Prop :=
  ∀ (D : va_G) (dA : Nat → ClassId) (ro ad : Nat → Nat) (sz : Nat), Met l (am mid).1 [ae_cw (am mid)] (ae_rm d σ σ')
    (va_Pc (args.map (ae_v ad ro)) (ae_pre D dA ro ra ad σ sz)) (ae_pst D dA ro ad σ sz σ' r) (σ'.1.1 - σ.1.1) (σ'.1.2 - σ.1.2) (va_A (ae_w ad ro dA σ.2) sz)
def ae_xn (x : Nat) : String := if x = 0 then "java/lang/IllegalArgumentException" else "java/lang/IllegalStateException"
/-- what a throw leaves -/
def ae_QX (D : va_G) (dA : Nat → ClassId) (ro : Nat → Nat) (ad : Nat → Nat) (σ : ae_S) (sz : Nat) (σ' : ae_S) (x : Nat) : Array Value → State → Outcome → State → Prop := fun _ st o t =>
  ∃ q : Addr, o = .threw q ∧ st.WarmedH t.vm ∧ (∃ L : List Loc, st.sameButNew ({ t with vm := st.vm } : State) L (σ'.1.1 - σ.1.1) (σ'.1.2 - σ.1.2) ∧ ∀ z ∈ L, va_A (ae_w ad ro dA σ.2) sz z.base) ∧
    (∃ ad' : Nat → Nat, (∀ q, q < σ.2.length → ad' q = ad q) ∧ va_P D classes (ae_w ad' ro dA σ'.2) t.heap ∧ va_D (va_A (ae_w ad ro dA σ.2) sz) (ae_w ad' ro dA σ'.2)) ∧ va_F (va_A (ae_w ad ro dA σ.2) sz) st t ∧
    ∃ ce : Cell, t.heap[q]? = some ce ∧ ce.vm = .none ∧ st.vm.findClass (ae_xn x) = some ce.cls
def ae_MX (l : Launch) (am : ae_Am) (ra : ae_R) (d mid : Nat) (args : List Value) (σ σ' : ae_S) (x : Nat) : Prop :=
  ∀ (D : va_G) (dA : Nat → ClassId) (ro ad : Nat → Nat) (sz : Nat), MetFree l (am mid).1 (headSpec [ae_cw (am mid)] (ae_rm d σ σ'))
    (va_Pc (args.map (ae_v ad ro)) (ae_pre D dA ro ra ad σ sz)) (fun _ _ _ _ _ => True) (ae_QX D dA ro ad σ sz σ' x)
/-- what a call leaves -/
def ae_gd (σ σ' : ae_S) (o : ae_O) : Prop := ae_cs σ' ∧ (∀ v, o = .inl (some v) → ae_cv σ'.2.length v) ∧ σ.1.1 ≤ σ'.1.1 ∧ σ.1.2 ≤ σ'.1.2 ∧ σ.2.length ≤ σ'.2.length
theorem ae_blind {D : va_G} {dA : Nat → ClassId} {ro : Nat → Nat} {ra : ae_R} {ad : Nat → Nat} {σ : ae_S} {sz : Nat} {av : List Value} : FrameBlind (va_Pc av (ae_pre D dA ro ra ad σ sz)) := by
  intro a U g mk q
  obtain ⟨q0, q1, qP, qK, qD, qR, qW⟩ := q
  exact ⟨q0, q1, qP, va_K.moved (u := U) (U := U.calling g mk a) (Vm.Alike.refl U.vm) qK, qD, ae_RO.moved (u := U) (U := U.calling g mk a) (Vm.Alike.refl U.vm) qR, aw_warmAll (s := U) (U := U.calling g mk a) (State.WarmedH.refl U) qW⟩
end AEC
section AEG
variable {p : Program} {l : Launch} {e : Env} {R : Room} {s : State} {m : MethodId} {args : Array Value} {below : List Frame} {meth : Method} {c : Code} {Q : State → Prop}
variable {D : va_G} {dA : Nat → ClassId} {ro : Nat → Nat} {A : Nat → Prop} {nL : Nat} {B : Nat × Nat} {ad0 : Nat → Nat} {n0 : Nat}
variable {ra : Nat → Nat × (Nat → Int32)} {own nm : String} {cc : ByteArray} {ret : Option FieldType} {KF SF d : Nat} {pc : Nat} {hd : List (Nat × Nat × Nat × Nat)}
variable {am : ae_Am}
theorem ae_F0 {σ : ae_S} {ad : Nat → Nat} {H : Heap} {locs : List Loc} (hD : va_D A (ae_w ad ro dA σ.2)) (hS : va_S A s.heap H locs) (hA : ∀ q, s.heap.size ≤ q → A q) : ∀ q, va_A (ae_w ad ro dA σ.2) H.size q → A q := fun q h => by
  rcases h with ⟨k, e0, h⟩ | h
  · exact hD.2 k _ h
  · exact hA q (Nat.le_trans hS.1 h)
theorem ae_preU (X : ae_X p l e R s m args below meth c D dA ro A B ra own nm cc nL ret KF SF d hd) {σ : ae_S} {ad : Nat → Nat} {H : Heap} {locs : List Loc} (hP : va_P D classes (ae_w ad ro dA σ.2) H) (hD : va_D A (ae_w ad ro dA σ.2)) (hS : va_S A s.heap H locs) : ∀ U : State, U.heap = H → s.WarmedH U.vm → ae_pre D dA ro ra ad σ H.size U := by
  obtain ⟨hx, hb, hml, hown, hts, hr, hlk, hnm, hK, hRO, hA, hfr, hlo, hKF, hSF, hxt, hst⟩ := X
  intro U hU hW
  have hR1 : ae_RO ra ro (va_A (ae_w ad ro dA σ.2) H.size) U H := ((hRO.kept (fun a h1 h2 => hS.2.1 a h1 h2)).narrow (ae_F0 hD hS hA)).moved hW.alike
  exact ⟨by rw [hU], by rw [hU]; exact hP, va_K.moved hW.alike hK, hD.weaken (fun _ _ _ _ => trivial), by rw [hU]; exact hR1, aw_warmAll hW hts⟩
/-- a call, as the store sees it -/
def ae_Rn (p : Program) (l : Launch) (e : Env) (R : Room) (s : State) (m : MethodId) (args : Array Value) (below : List Frame) (meth : Method) (c : Code) (D : va_G) (dA : Nat → ClassId) (ro : Nat → Nat) (A : Nat → Prop) (nL : Nat) (B : Nat × Nat) (KF SF pc : Nat) (args0 rest : List Value) (σ σ' : ae_S) (L : ae_Ls) (r : Option Value) : Prop :=
  ∀ (ad : Nat → Nat) (H : Heap) (locs : List Loc) (cells slots : Nat) (ls : Array Slot), va_P D classes (ae_w ad ro dA σ.2) H → va_D A (ae_w ad ro dA σ.2) → va_S A s.heap H locs → B.1 + cells = σ.1.1 → B.2 + slots = σ.1.2 → ae_L ad ro nL L ls →
    va_Run p l e R s m args below meth c H locs cells slots (σ'.1.1 - σ.1.1) (σ'.1.2 - σ.1.2) (F0 m pc ls ((args0.reverse ++ rest).map (ae_v ad ro))) (rest.map (ae_v ad ro)) (ae_pst D dA ro ad σ H.size σ' r (args0.map (ae_v ad ro)).toArray) (va_A (ae_w ad ro dA σ.2) H.size)
theorem ae_goCall (X : ae_X p l e R s m args below meth c D dA ro A B ra own nm cc nL ret KF SF d hd) {σ σ' : ae_S} {L : ae_Ls} {args0 rest : List Value} {r : Option Value} (hrn : ae_Rn p l e R s m args below meth c D dA ro A nL B KF SF pc args0 rest σ σ' L r)
    (hcl : ae_cl σ L (args0.reverse ++ rest)) (hn0 : n0 ≤ σ.2.length) (hg : ae_gd σ σ' (.inl r)) (G0 : ae_Go p l e R s m args below meth c Q D dA ro A nL B ad0 n0 σ' L (r.toList ++ rest) (pc + 3)) : ae_Go p l e R s m args below meth c Q D dA ro A nL B ad0 n0 σ L (args0.reverse ++ rest) pc := by
  obtain ⟨hx, hb, hml, hown, hts, hr, hlk, hnm, hK, hRO, hA, hfr, hlo, hKF, hSF, hxt, hst⟩ := X
  intro ad H locs cells slots ls hP hD hS hc hs hl had T hT XS
  obtain ⟨v, st₀, t, T', L2, h0, X', hL, e1, e2, ⟨⟨ad', hag, hv, hP', hD'⟩, hz, hk⟩, st⟩ := hrn ad H locs cells slots ls hP hD hS hc hs hl T hT XS
  cases hv
  rw [h0] at hz hk
  have hF := ae_F0 hD hS hA
  have hS' : va_S A s.heap T'.heap (locs ++ L2) := ⟨Nat.le_trans hS.1 (by rw [e1]; exact hz), fun q h1 h2 => by rw [e1, hk q (Nat.lt_of_lt_of_le h1 hS.1) (fun z => h2 (hF q z))]; exact hS.2.1 q h1 h2, fun q hq => by
      rcases List.mem_append.mp hq with h | h
      · exact hS.2.2 q h
      · exact hF _ (hL q h)⟩
  obtain ⟨g1, g2, g3, g4, g5⟩ := hg
  have hrest : ae_ck σ.2.length rest := fun u hu => hcl.2.2 u (List.mem_append_right _ hu)
  have G2 := G0 ad' T'.heap (locs ++ L2) (cells + (σ'.1.1 - σ.1.1)) (slots + (σ'.1.2 - σ.1.2)) ls (by rw [e1]; exact hP') (hD'.weaken (fun _ _ _ h => hF _ h)) hS' (by omega) (by omega) (ae_L_up hag hcl.2.1 hl) (fun q hq => by rw [hag q (by omega)]; exact had q hq)
  have e3 : (r.toList ++ rest).map (ae_v ad' ro) = (r.map (ae_v ad' ro)).toList ++ rest.map (ae_v ad ro) := by
    rw [List.map_append, ae_k_eq hag hrest]
    cases r <;> rfl
  rw [e3] at G2
  obtain ⟨t2, a1, b1⟩ := G2 T' rfl X'
  exact ⟨t2, st t2 a1, b1⟩
/-- the callee's side of a call -/
theorem ae_cb (X : ae_X p l e R s m args below meth c D dA ro A B ra own nm cc nL ret KF SF d hd) {mid : Nat} {y : MethodName} {bytes : ByteArray} {maxL n : Nat} {rt : Option FieldType} {σ σ' : ae_S} (hwc : Jvm.Cond.code y bytes maxL rt ∈ aw_all) (hm : maxL ≤ 21) :
    (ae_rm d σ σ').cells = σ'.1.1 - σ.1.1 ∧ (ae_rm d σ σ').slots = σ'.1.2 - σ.1.2 ∧ (ae_rm d σ σ').frames + 1 ≤ R.frames ∧ 8 + (maxL + 11) + (ae_rm d σ σ').locals ≤ R.locals ∧ (∀ w ∈ [Jvm.Cond.code y bytes maxL rt], ∀ (a' : Array Value) (U : State), s.WarmedH U.vm → w.before a' U = true) ∧ Jvm.Cond.code y bytes maxL rt ∈ [Jvm.Cond.code y bytes maxL rt] := by
  obtain ⟨hx, hb, hml, hown, hts, hr, hlk, hnm, hK, hRO, hA, hfr, hlo, hKF, hSF, hxt, hst⟩ := X
  refine ⟨rfl, rfl, hfr, ?_, fun w hw a' U hW => ?_, List.mem_singleton.mpr rfl⟩
  · show 8 + (maxL + 11) + 40 * d ≤ R.locals
    omega
  · rw [List.mem_singleton.mp hw]
    exact aw_warm hW (List.mem_filter.mp hwc).2 (hts _ hwc)
theorem ae_par {y : MethodName} {n : Nat} (h : (parseMethodDescriptor y.desc).map (fun d => d.parameters.length) = some n) : ∀ sig, parseMethodDescriptor y.desc = some sig → n = sig.parameters.length := fun sig hs => by
  rw [hs] at h
  exact (Option.some.inj h).symm
def ae_hy (y : MethodName) : Prop := y.cls ≠ "java/lang/invoke/MethodHandle" ∧ y.cls ≠ "java/lang/invoke/VarHandle"
/-- a call of mid at pc -/
def ae_CO (p : Program) (l : Launch) (e : Env) (R : Room) (s : State) (m : MethodId) (args : Array Value) (below : List Frame) (meth : Method) (c : Code) (Q : State → Prop) (D : va_G) (dA : Nat → ClassId) (ro : Nat → Nat) (A : Nat → Prop) (nL : Nat) (B : Nat × Nat) (ad0 : Nat → Nat) (n0 : Nat) (am : ae_Am) (ra : ae_R) (KF SF d pc mid na np : Nat) (rc : Option Nat) : Prop :=
  ∀ (σ : ae_S) (L : ae_Ls) (args0 rest : List Value) (σ' : ae_S) (r : Option Value), args0.length = na → ae_cat rest ≤ 8 → ae_rcv σ rc args0 = true → ae_M l am ra d mid args0 σ σ' r → ae_cl σ L (args0.reverse ++ rest) → n0 ≤ σ.2.length → ae_gd σ σ' (.inl r) → σ'.1.1 ≤ KF ∧ σ'.1.2 ≤ SF → ae_Go p l e R s m args below meth c Q D dA ro A nL B ad0 n0 σ' L (r.toList ++ rest) np → ae_Go p l e R s m args below meth c Q D dA ro A nL B ad0 n0 σ L (args0.reverse ++ rest) pc

theorem ok_callV (X : ae_X p l e R s m args below meth c D dA ro A B ra own nm cc nL ret KF SF d hd) {mid : Nat} {y : MethodName} {bytes : ByteArray} {maxL n index : Nat} {rt : Option FieldType} (hm : am mid = (y, bytes, maxL, rt, [])) (hmL : maxL ≤ 21) (hy : ae_hy y) (hpr : (parseMethodDescriptor y.desc).map (fun d => d.parameters.length) = some n) (hwc : Jvm.Cond.code y bytes maxL rt ∈ aw_all) (hwi : Jvm.Cond.initialized y.cls ∈ aw_all) (hwl : Jvm.Cond.methodLink own index y ∈ aw_all) (hwn : Jvm.Cond.instanceMethod y ∈ aw_all) (hws : Jvm.Cond.selects y.cls y y ∈ aw_all) {ci N : Nat} {T0 : u_T} (hci : classes[ci]? = some (y.cls, T0, N)) (hdg : decode cc pc = .ok (.invokevirtual index, 3)) : ae_CO p l e R s m args below meth c Q D dA ro A nL B ad0 n0 am ra KF SF d pc mid (n + 1) (pc + 3) (some ci) := by
  intro σ L args0 rest σ' r hna hcat hrc hM hcl hn0 hg hF G0
  obtain ⟨c1, c2, c3, c4, c5, c6⟩ := ae_cb (mid := mid) (n := n) (σ := σ) (σ' := σ') X hwc hmL
  refine ae_goCall X ?_ hcl hn0 hg G0
  have hpU := @ae_preU p l e R s m args below meth c D dA ro A nL B ra own nm cc ret KF SF d hd X
  obtain ⟨hx, hb, hml, hown, hts, hr, hlk, hnm, hK, hRO, hA, hfr, hlo, hKF, hSF, hxt, hst⟩ := X
  intro ad H locs cells slots ls hP hD hS hc hs hl
  have hM1 := hM D dA ro ad H.size
  rw [hm] at hM1
  have hq2 : ((rest.map (ae_v ad ro)).map fun v => v.category).sum ≤ 8 := by rw [ae_cat_map]; exact hcat
  have hg3 := hg.2.2.1
  have hg4 := hg.2.2.2.1
  have hF1 := hF.1
  have hF2 := hF.2
  cases args0 with
  | nil => cases hrc
  | cons a0 as =>
    cases a0 with
    | ref p0 =>
      have hp0 : ∃ fs, σ.2[p0]? = some (.inr (ci, fs)) := by
        simp only [ae_rcv] at hrc
        split at hrc
        · rename_i cj fs he0
          exact ⟨fs, by rw [he0, beq_iff_eq.mp hrc]⟩
        · cases hrc
      obtain ⟨fs, he0⟩ := hp0
      exact va_runV (As := as.map (ae_v ad ro)) (rest := rest.map (ae_v ad ro)) (b := ad p0) ⟨hx, hb, hml, hown, hts⟩ hM1 ⟨⟨c1, c2, c3, c4, c5, c6, hts _ hwc, hts _ hwi, hy, ae_par hpr, hts _ hwl⟩, hts _ hwn, hts _ hws⟩ ⟨ae_blind, va_recv hK hP hci (ae_w_get he0), fun U hU hW => ⟨rfl, hpU hP hD hS U hU hW⟩⟩ rfl (by simpa using hna) hl.2.1 (by simp [ae_v]) (lv_room hq2) hdg ⟨by omega, by omega⟩
    | _ => cases hrc

theorem ok_callVN (X : ae_X p l e R s m args below meth c D dA ro A B ra own nm cc nL ret KF SF d hd) {mid : Nat} {y : MethodName} {bytes : ByteArray} {maxL n index : Nat} {rt : Option FieldType} (hm : am mid = (y, bytes, maxL, rt, [])) (hmL : maxL ≤ 21) (hy : ae_hy y) (hpr : (parseMethodDescriptor y.desc).map (fun d => d.parameters.length) = some n) (hwc : Jvm.Cond.code y bytes maxL rt ∈ aw_all) (hwi : Jvm.Cond.initialized y.cls ∈ aw_all) {host : String} (hwl : Jvm.Cond.methodLinkNest own index y host ∈ aw_all) (hwn : Jvm.Cond.instanceMethod y ∈ aw_all) (hws : Jvm.Cond.selects y.cls y y ∈ aw_all) {ci N : Nat} {T0 : u_T} (hci : classes[ci]? = some (y.cls, T0, N)) (hdg : decode cc pc = .ok (.invokevirtual index, 3)) : ae_CO p l e R s m args below meth c Q D dA ro A nL B ad0 n0 am ra KF SF d pc mid (n + 1) (pc + 3) (some ci) := by
  intro σ L args0 rest σ' r hna hcat hrc hM hcl hn0 hg hF G0
  obtain ⟨c1, c2, c3, c4, c5, c6⟩ := ae_cb (mid := mid) (n := n) (σ := σ) (σ' := σ') X hwc hmL
  refine ae_goCall X ?_ hcl hn0 hg G0
  have hpU := @ae_preU p l e R s m args below meth c D dA ro A nL B ra own nm cc ret KF SF d hd X
  obtain ⟨hx, hb, hml, hown, hts, hr, hlk, hnm, hK, hRO, hA, hfr, hlo, hKF, hSF, hxt, hst⟩ := X
  intro ad H locs cells slots ls hP hD hS hc hs hl
  have hM1 := hM D dA ro ad H.size
  rw [hm] at hM1
  have hq2 : ((rest.map (ae_v ad ro)).map fun v => v.category).sum ≤ 8 := by rw [ae_cat_map]; exact hcat
  have hg3 := hg.2.2.1
  have hg4 := hg.2.2.2.1
  have hF1 := hF.1
  have hF2 := hF.2
  cases args0 with
  | nil => cases hrc
  | cons a0 as =>
    cases a0 with
    | ref p0 =>
      have hp0 : ∃ fs, σ.2[p0]? = some (.inr (ci, fs)) := by
        simp only [ae_rcv] at hrc
        split at hrc
        · rename_i cj fs he0
          exact ⟨fs, by rw [he0, beq_iff_eq.mp hrc]⟩
        · cases hrc
      obtain ⟨fs, he0⟩ := hp0
      exact va_runVN (As := as.map (ae_v ad ro)) (rest := rest.map (ae_v ad ro)) (b := ad p0) ⟨hx, hb, hml, hown, hts⟩ hM1 ⟨⟨⟨c1, c2, c3, c4, c5, c6⟩, hts _ hwc, hts _ hwi, hy, ae_par hpr, hts _ hwl⟩, hts _ hwn, hts _ hws⟩ ⟨ae_blind, va_recv hK hP hci (ae_w_get he0), fun U hU hW => ⟨rfl, hpU hP hD hS U hU hW⟩⟩ rfl (by simpa using hna) hl.2.1 (by simp [ae_v]) (lv_room hq2) hdg ⟨by omega, by omega⟩
    | _ => cases hrc

theorem ok_callS (X : ae_X p l e R s m args below meth c D dA ro A B ra own nm cc nL ret KF SF d hd) {mid : Nat} {y : MethodName} {bytes : ByteArray} {maxL n index : Nat} {rt : Option FieldType} (hm : am mid = (y, bytes, maxL, rt, [])) (hmL : maxL ≤ 21) (hy : ae_hy y) (hpr : (parseMethodDescriptor y.desc).map (fun d => d.parameters.length) = some n) (hwc : Jvm.Cond.code y bytes maxL rt ∈ aw_all) (hwi : Jvm.Cond.initialized y.cls ∈ aw_all) (hwl : Jvm.Cond.methodLink own index y ∈ aw_all) (hwn : Jvm.Cond.static y ∈ aw_all) (hdg : decode cc pc = .ok (.invokestatic index, 3)) : ae_CO p l e R s m args below meth c Q D dA ro A nL B ad0 n0 am ra KF SF d pc mid n (pc + 3) none := by
  intro σ L args0 rest σ' r hna hcat hrc hM hcl hn0 hg hF G0
  obtain ⟨c1, c2, c3, c4, c5, c6⟩ := ae_cb (mid := mid) (n := n) (σ := σ) (σ' := σ') X hwc hmL
  refine ae_goCall X ?_ hcl hn0 hg G0
  have hpU := @ae_preU p l e R s m args below meth c D dA ro A nL B ra own nm cc ret KF SF d hd X
  obtain ⟨hx, hb, hml, hown, hts, hr, hlk, hnm, hK, hRO, hA, hfr, hlo, hKF, hSF, hxt, hst⟩ := X
  intro ad H locs cells slots ls hP hD hS hc hs hl
  have hM1 := hM D dA ro ad H.size
  rw [hm] at hM1
  have hq2 : ((rest.map (ae_v ad ro)).map fun v => v.category).sum ≤ 8 := by rw [ae_cat_map]; exact hcat
  have hg3 := hg.2.2.1
  have hg4 := hg.2.2.2.1
  have hF1 := hF.1
  have hF2 := hF.2
  exact va_runS (As := args0.map (ae_v ad ro)) (rest := rest.map (ae_v ad ro)) ⟨hx, hb, hml, hown, hts⟩ hM1 ⟨⟨c1, c2, c3, c4, c5, c6, hts _ hwc, hts _ hwi, hy, ae_par hpr, hts _ hwl⟩, hts _ hwn⟩ ⟨ae_blind, fun U hU hW => ⟨rfl, hpU hP hD hS U hU hW⟩⟩ rfl (by simpa using hna) hl.2.1 (by simp) (lv_room hq2) hdg ⟨by omega, by omega⟩

theorem ok_callSN (X : ae_X p l e R s m args below meth c D dA ro A B ra own nm cc nL ret KF SF d hd) {mid : Nat} {y : MethodName} {bytes : ByteArray} {maxL n index : Nat} {rt : Option FieldType} (hm : am mid = (y, bytes, maxL, rt, [])) (hmL : maxL ≤ 21) (hy : ae_hy y) (hpr : (parseMethodDescriptor y.desc).map (fun d => d.parameters.length) = some n) (hwc : Jvm.Cond.code y bytes maxL rt ∈ aw_all) (hwi : Jvm.Cond.initialized y.cls ∈ aw_all) {host : String} (hwl : Jvm.Cond.methodLinkNest own index y host ∈ aw_all) (hwn : Jvm.Cond.static y ∈ aw_all) (hdg : decode cc pc = .ok (.invokestatic index, 3)) : ae_CO p l e R s m args below meth c Q D dA ro A nL B ad0 n0 am ra KF SF d pc mid n (pc + 3) none := by
  intro σ L args0 rest σ' r hna hcat hrc hM hcl hn0 hg hF G0
  obtain ⟨c1, c2, c3, c4, c5, c6⟩ := ae_cb (mid := mid) (n := n) (σ := σ) (σ' := σ') X hwc hmL
  refine ae_goCall X ?_ hcl hn0 hg G0
  have hpU := @ae_preU p l e R s m args below meth c D dA ro A nL B ra own nm cc ret KF SF d hd X
  obtain ⟨hx, hb, hml, hown, hts, hr, hlk, hnm, hK, hRO, hA, hfr, hlo, hKF, hSF, hxt, hst⟩ := X
  intro ad H locs cells slots ls hP hD hS hc hs hl
  have hM1 := hM D dA ro ad H.size
  rw [hm] at hM1
  have hq2 : ((rest.map (ae_v ad ro)).map fun v => v.category).sum ≤ 8 := by rw [ae_cat_map]; exact hcat
  have hg3 := hg.2.2.1
  have hg4 := hg.2.2.2.1
  have hF1 := hF.1
  have hF2 := hF.2
  exact va_runSN (As := args0.map (ae_v ad ro)) (rest := rest.map (ae_v ad ro)) ⟨hx, hb, hml, hown, hts⟩ hM1 ⟨⟨⟨c1, c2, c3, c4, c5, c6⟩, hts _ hwc, hts _ hwi, hy, ae_par hpr, hts _ hwl⟩, hts _ hwn, trivial⟩ ⟨ae_blind, fun U hU hW => ⟨rfl, hpU hP hD hS U hU hW⟩⟩ rfl (by simpa using hna) hl.2.1 (by simp) (lv_room hq2) hdg ⟨by omega, by omega⟩

theorem ok_callI (X : ae_X p l e R s m args below meth c D dA ro A B ra own nm cc nL ret KF SF d hd) {mid : Nat} {y : MethodName} {bytes : ByteArray} {maxL n index : Nat} {rt : Option FieldType} (hm : am mid = (y, bytes, maxL, rt, [])) (hmL : maxL ≤ 21) (hy : ae_hy y) (hpr : (parseMethodDescriptor y.desc).map (fun d => d.parameters.length) = some n) (hwc : Jvm.Cond.code y bytes maxL rt ∈ aw_all) (hwi : Jvm.Cond.initialized y.cls ∈ aw_all) (hwl : Jvm.Cond.methodLink own index y ∈ aw_all) (hwn : Jvm.Cond.instanceMethod y ∈ aw_all) (hnm0 : y.name = "<init>") (hrt : rt = none) {ci : Nat} (hdg : decode cc pc = .ok (.invokespecial index, 3)) : ae_CO p l e R s m args below meth c Q D dA ro A nL B ad0 n0 am ra KF SF d pc mid (n + 1) (pc + 3) (some ci) := by
  subst hrt
  intro σ L args0 rest σ' r hna hcat hrc hM hcl hn0 hg hF G0
  obtain ⟨c1, c2, c3, c4, c5, c6⟩ := ae_cb (mid := mid) (n := n) (σ := σ) (σ' := σ') X hwc hmL
  refine ae_goCall X ?_ hcl hn0 hg G0
  have hpU := @ae_preU p l e R s m args below meth c D dA ro A nL B ra own nm cc ret KF SF d hd X
  obtain ⟨hx, hb, hml, hown, hts, hr, hlk, hnm, hK, hRO, hA, hfr, hlo, hKF, hSF, hxt, hst⟩ := X
  intro ad H locs cells slots ls hP hD hS hc hs hl
  have hM1 := hM D dA ro ad H.size
  rw [hm] at hM1
  have hq2 : ((rest.map (ae_v ad ro)).map fun v => v.category).sum ≤ 8 := by rw [ae_cat_map]; exact hcat
  have hg3 := hg.2.2.1
  have hg4 := hg.2.2.2.1
  have hF1 := hF.1
  have hF2 := hF.2
  cases args0 with
  | nil => cases hrc
  | cons a0 as =>
    cases a0 with
    | ref p0 =>
      exact va_runI (As := as.map (ae_v ad ro)) (rest := rest.map (ae_v ad ro)) (b := ad p0) ⟨hx, hb, hml, hown, hts⟩ hM1 ⟨⟨c1, c2, c3, c4, c5, c6, hts _ hwc, hts _ hwi, hy, ae_par hpr, hts _ hwl⟩, hnm0, hts _ hwn⟩ ⟨ae_blind, fun U hU hW => ⟨rfl, hpU hP hD hS U hU hW⟩⟩ rfl (by simpa using hna) hl.2.1 (by simp [ae_v]) (lv_room hq2) hdg ⟨by omega, by omega⟩
    | _ => cases hrc

theorem ok_callIN (X : ae_X p l e R s m args below meth c D dA ro A B ra own nm cc nL ret KF SF d hd) {mid : Nat} {y : MethodName} {bytes : ByteArray} {maxL n index : Nat} {rt : Option FieldType} (hm : am mid = (y, bytes, maxL, rt, [])) (hmL : maxL ≤ 21) (hy : ae_hy y) (hpr : (parseMethodDescriptor y.desc).map (fun d => d.parameters.length) = some n) (hwc : Jvm.Cond.code y bytes maxL rt ∈ aw_all) (hwi : Jvm.Cond.initialized y.cls ∈ aw_all) {host : String} (hwl : Jvm.Cond.methodLinkNest own index y host ∈ aw_all) (hwn : Jvm.Cond.instanceMethod y ∈ aw_all) (hnm0 : y.name = "<init>") (hrt : rt = none) {ci : Nat} (hdg : decode cc pc = .ok (.invokespecial index, 3)) : ae_CO p l e R s m args below meth c Q D dA ro A nL B ad0 n0 am ra KF SF d pc mid (n + 1) (pc + 3) (some ci) := by
  subst hrt
  intro σ L args0 rest σ' r hna hcat hrc hM hcl hn0 hg hF G0
  obtain ⟨c1, c2, c3, c4, c5, c6⟩ := ae_cb (mid := mid) (n := n) (σ := σ) (σ' := σ') X hwc hmL
  refine ae_goCall X ?_ hcl hn0 hg G0
  have hpU := @ae_preU p l e R s m args below meth c D dA ro A nL B ra own nm cc ret KF SF d hd X
  obtain ⟨hx, hb, hml, hown, hts, hr, hlk, hnm, hK, hRO, hA, hfr, hlo, hKF, hSF, hxt, hst⟩ := X
  intro ad H locs cells slots ls hP hD hS hc hs hl
  have hM1 := hM D dA ro ad H.size
  rw [hm] at hM1
  have hq2 : ((rest.map (ae_v ad ro)).map fun v => v.category).sum ≤ 8 := by rw [ae_cat_map]; exact hcat
  have hg3 := hg.2.2.1
  have hg4 := hg.2.2.2.1
  have hF1 := hF.1
  have hF2 := hF.2
  cases args0 with
  | nil => cases hrc
  | cons a0 as =>
    cases a0 with
    | ref p0 =>
      exact va_runIN (As := as.map (ae_v ad ro)) (rest := rest.map (ae_v ad ro)) (b := ad p0) ⟨hx, hb, hml, hown, hts⟩ hM1 ⟨⟨⟨c1, c2, c3, c4, c5, c6⟩, hts _ hwc, hts _ hwi, hy, ae_par hpr, hts _ hwl⟩, hnm0, hts _ hwn⟩ ⟨ae_blind, fun U hU hW => ⟨rfl, hpU hP hD hS U hU hW⟩⟩ rfl (by simpa using hna) hl.2.1 (by simp [ae_v]) (lv_room hq2) hdg ⟨by omega, by omega⟩
    | _ => cases hrc

end AEG