section XE
variable {p : Program} {l : Launch} {e : Env} {R : Room} {s : State} {m : MethodId} {args : Array Value} {below : List Frame} {meth : Method} {c : Code} {Q : State → Prop}
variable {D : va_G} {dA : Nat → ClassId} {ro : Nat → Nat} {A : Nat → Prop} {nL : Nat} {B : Nat × Nat} {ad0 : Nat → Nat} {n0 : Nat}
variable {ra : Nat → Nat × (Nat → Int32)} {own nm : String} {cc : ByteArray} {ret : Option FieldType} {KF SF d : Nat} {pc : Nat} {hd : List (Nat × Nat × Nat × Nat)}
variable {am : ae_Am}
theorem ae_ofW {l : Launch} {q : ae_Q4} {rm : Room} {Pc : Array Value → State → Prop} {Q : Array Value → State → Outcome → State → Prop} (hy : plainName q.1.cls = true)
    (body : ∀ p e s m args below meth c s₁, BodyLoose p l q.1 (headSpec [ae_cw q] rm) q.2.1 q.2.2.1 q.2.2.2.1 e s m args below meth c s₁ → c.maxLocals = q.2.2.1 → c.exceptionTable.toList = tableOf q.2.2.2.2 → Pc args s →
      W p l e (headSpec [ae_cw q] rm).room s m args below meth c s.heap [] 0 0 (ae_MQ below Q args s) (entryFrame m args q.2.2.1)) : MetFree l q.1 (headSpec [ae_cw q] rm) Pc (fun _ _ _ _ _ => True) Q := by
  obtain ⟨y, b, n, r, hs⟩ := q
  refine MetFree.of_bodyS (code := b) (maxLocals := n) (ret := r) hy ?_ ?_
  · intro args s m h hn
    have hw := atoms_spec (ws := [ae_cw (y, b, n, r, hs)]) h _ List.mem_cons_self
    cases hs with
    | nil =>
      obtain ⟨meth, c, h1, h2, h3, h4, h5, h6, -, -⟩ := Cond.code_spec hn hw
      exact ⟨meth, c, h1, h2, h3, h4, h5, h6⟩
    | cons z zs =>
      obtain ⟨m', meth, c, hn', hmeth, hcode, hbytes, hlocals, htable, hret, hlocks, -⟩ := Cond.codeWith_spec hw
      cases hn.symm.trans hn'
      exact ⟨meth, c, hmeth, hcode, hbytes, hlocals, hret, hlocks⟩
  · intro p e s m args below meth c s₁ B hml hP _
    have hh0 : s₁.heap = s.heap := by rw [B.state]; rfl
    have hw := atoms_spec (ws := [ae_cw (y, b, n, r, hs)]) B.pre _ List.mem_cons_self
    have htab : c.exceptionTable.toList = tableOf hs := by
      cases hs with
      | nil =>
        have h9 := B.noHandlers hw
        rw [Array.isEmpty_iff] at h9
        rw [h9]
        rfl
      | cons z zs =>
        obtain ⟨m', meth', c', hn', hmeth, hcode, hbytes, hlocals, htable, hret, hlocks, -⟩ := Cond.codeWith_spec hw
        cases B.named.symm.trans hn'
        cases B.method.symm.trans hmeth
        cases (Stand.of_body B).code.symm.trans hcode
        rw [← htable, table_eq]
    obtain ⟨t, a1, o, b1, b2, b3⟩ := body p e s m args below meth c s₁ B hml htab hP s₁ hh0 (Stand.of_body B)
    exact ⟨t, o, a1, b1, b2, b3⟩
/-- a callee with handlers pays as one without -/
theorem ae_backW {l : Launch} {R : Room} {p : Program} {e : Env} {below : List Frame} {s : State} {sargs : Array Value} {y : MethodName} {w0 : Cond} {bytes : ByteArray} {maxL : Nat} {ret : Option FieldType} {hs : List (Nat × Nat × Nat × Nat)} {rm : Room} {Pc : Array Value → State → Prop} {Qc : Array Value → State → Outcome → State → Prop} {mc ms : Nat} {free : Addr → Prop} (he : w0 = Jvm.Cond.codeWith y bytes maxL ret hs)
    (hM : Met l y [w0] rm Pc Qc mc ms free) (hblind : FrameBlind Pc) (hrc : rm.cells = mc) (hrs : rm.slots = ms) (hframes : rm.frames + 1 ≤ R.frames) (hlocals : 8 + (maxL + 11) + rm.locals ≤ R.locals)
    (hws : ∀ a' U, s.WarmedH U.vm → w0.before a' U = true) (hinit : ∀ a' U, s.WarmedH U.vm → (Cond.initialized y.cls).before a' U = true) :
    Back l R p e below s sargs y 3 8 (PreOf R mc ms Pc) (PostOf Qc mc ms free) := by
  subst he
  refine Back.of_freeWith (S := headSpec [Jvm.Cond.codeWith y bytes maxL ret hs] rm) (P := Pc) (K := fun _ _ _ _ _ => True) (Q := fun a st o t => Qc a st o t ∧ ∃ L, FrameEnd st o t L mc ms ∧ ∀ q ∈ L, free q.base) (bytes := bytes) (maxL := maxL) (ret := ret) (handlers := hs)
    (E := fun a st o t L k n => k = mc ∧ n = ms ∧ ∀ q ∈ L, free q.base) hM hframes hlocals ?_ ?_ (fun _ _ _ _ _ _ _ _ _ => trivial) ?_ ?_
  · intro m meth c A a X hp
    exact ⟨atoms_intro fun w hw => by rw [List.mem_singleton.mp hw]; exact hws _ _ X.warmed, hws _ _ X.warmed, hinit _ _ X.warmed, by rw [show (headSpec [Jvm.Cond.codeWith y bytes maxL ret hs] rm).room.cells = mc from hrc]; exact hp.1, by rw [show (headSpec [Jvm.Cond.codeWith y bytes maxL ret hs] rm).room.slots = ms from hrs]; exact hp.2.1⟩
  · intro m meth c A a g mk X hp
    exact hblind _ _ _ _ hp.2.2
  · intro a st o t h
    obtain ⟨hq, L, hF, hL⟩ := h
    exact ⟨L, mc, ms, hF, rfl, rfl, hL⟩
  · intro m meth c A a g mk v t L k n X hp hq hF hE
    obtain ⟨e1, e2, hL⟩ := hE
    subst e1
    subst e2
    exact ⟨g, mk, t, L, rfl, rfl, hq.1, rfl, hL, rfl, rfl⟩
theorem ok_callSW (X : ae_X p l e R s m args below meth c D dA ro A B ra own nm cc nL ret KF SF d hd) {mid : Nat} {y : MethodName} {bytes : ByteArray} {maxL n index : Nat} {rt : Option FieldType} {hs : List (Nat × Nat × Nat × Nat)} (hm : am mid = (y, bytes, maxL, rt, hs)) (he : ae_cw (y, bytes, maxL, rt, hs) = Jvm.Cond.codeWith y bytes maxL rt hs) (hmL : maxL ≤ 21) (hy : ae_hy y) (hpr : (parseMethodDescriptor y.desc).map (fun d => d.parameters.length) = some n) (hwc : Jvm.Cond.codeWith y bytes maxL rt hs ∈ aw_all) (hwi : Jvm.Cond.initialized y.cls ∈ aw_all) (hwl : Jvm.Cond.methodLink own index y ∈ aw_all) (hwn : Jvm.Cond.static y ∈ aw_all)
    (hdg : decode cc pc = .ok (.invokestatic index, 3)) : ae_CO p l e R s m args below meth c Q D dA ro A nL B ad0 n0 am ra KF SF d pc mid n (pc + 3) none := by
  intro σ L args0 rest σ' r hna hcat hrc hM hcl hn0 hg hF G0
  refine ae_goCall X ?_ hcl hn0 hg G0
  have hpU := @ae_preU p l e R s m args below meth c D dA ro A nL B ra own nm cc ret KF SF d hd X
  obtain ⟨hx, hb, hml, hown, hts, hr, hlk, hnm, hK, hRO, hA, hfr, hlo, hKF, hSF, hxt, hst⟩ := X
  intro ad H locs cells slots ls hP hD hS hc hs0 hl
  have hM1 := hM D dA ro ad H.size
  rw [hm] at hM1
  have hq2 : ((rest.map (ae_v ad ro)).map fun v => v.category).sum ≤ 8 := by rw [ae_cat_map]; exact hcat
  have hg3 := hg.2.2.1
  have hg4 := hg.2.2.2.1
  have hF1 := hF.1
  have hF2 := hF.2
  have hK1 : Back l R p e below s args y 3 8 (PreOf R (σ'.1.1 - σ.1.1) (σ'.1.2 - σ.1.2) _) (PostOf _ (σ'.1.1 - σ.1.1) (σ'.1.2 - σ.1.2) _) := ae_backW he hM1 ae_blind rfl rfl hfr (by show 8 + (maxL + 11) + 40 * d ≤ R.locals; omega) (fun a' U hW => by rw [he]; exact aw_warm hW (List.mem_filter.mp hwc).2 (hts _ hwc)) (fun a' U hW => aw_warm hW (List.mem_filter.mp hwi).2 (hts _ hwi))
  obtain ⟨m', methM, cM, hnamed, hmethM, -, -, -, -, -, -, hsigM⟩ := Cond.codeWith_spec (hts _ hwc)
  intro T hT XS
  obtain ⟨v, vm₁, ⟨U', l2, c2, s2⟩, hW₁, X', ⟨g', mk, t, L2, e1, e2, hq, h1, hL, h2, h3⟩, st⟩ := XS.staticBack hx hown (hts _ hwl) (hts _ hwn) (hts _ hwi) hnamed hmethM hsigM hy hK1 (g := F0 m pc ls ((args0.reverse ++ rest).map (ae_v ad ro))) rfl (hl.2.1.trans hml.symm) (Steps.refl _) (argsL := args0.map (ae_v ad ro)) (rest := rest.map (ae_v ad ro)) (fun sig h => by rw [List.length_map, hna]; exact ae_par hpr sig h) (by simp) (lv_room hq2) (by rw [hb]; exact hdg)
    (fun vm₁ hW₁ => ⟨by show cells + _ ≤ R.cells; omega, by show slots + _ ≤ R.slots; omega, rfl, hpU hP hD hS (T.setVm vm₁) hT hW₁⟩)
  dsimp only [Pt.U, Pt.locs, Pt.cells, Pt.slots] at X' e1 e2 h1 h2 h3 st
  subst h1
  subst h2
  subst h3
  exact ⟨v, (T.setVm vm₁).calling g' mk (args0.map (ae_v ad ro)).toArray, t, U', L2, hT, X', hL, e1, e2, hq, fun tg h => st.trans h⟩
/-- a call whose throw is caught -/
def ae_CX (p : Program) (l : Launch) (e : Env) (R : Room) (s : State) (m : MethodId) (args : Array Value) (below : List Frame) (meth : Method) (c : Code) (Q : State → Prop) (D : va_G) (dA : Nat → ClassId) (ro : Nat → Nat) (A : Nat → Prop) (nL : Nat) (B : Nat × Nat) (ad0 : Nat → Nat) (n0 : Nat) (am : ae_Am) (ra : ae_R) (KF SF d pc mid na : Nat) (rc : Option Nat) (x hp i : Nat) : Prop :=
  ∀ (σ : ae_S) (L : ae_Ls) (args0 rest : List Value) (σ' : ae_S), args0.length = na → ae_cat rest ≤ 8 → ae_rcv σ rc args0 = true → ae_MX l am ra d mid args0 σ σ' x → ae_cl σ L (args0.reverse ++ rest) → n0 ≤ σ.2.length → ae_gd σ σ' (.inr x) → σ'.1.1 ≤ KF ∧ σ'.1.2 ≤ SF → ae_Go p l e R s m args below meth c Q D dA ro A nL B ad0 n0 σ' (L.set i none) [] hp → ae_Go p l e R s m args below meth c Q D dA ro A nL B ad0 n0 σ L (args0.reverse ++ rest) pc
theorem ae_L.del {ad ro : Nat → Nat} {nL n i : Nat} {L : ae_Ls} {ls ls' : Array Slot} {v : Value} (h : ae_L ad ro nL L ls) (hc : ae_cL n L)
    (h' : lv_has ls' nL ((i, v) :: (ae_as ad ro L).filter (fun q => !(q.1 == i) && !(q.1 + 1 == i && q.2.category == 2)))) : ae_L ad ro nL (L.set i none) ls' := by
  refine ⟨by simp [h.1], h'.1, h'.2.1, fun j u hj => ?_⟩
  rw [List.getElem?_set] at hj
  by_cases hji : i = j
  · subst hji
    simp only [if_true] at hj
    split at hj <;> cases hj
  · rw [if_neg hji] at hj
    refine h'.2.2 (j, ae_v ad ro u) (List.mem_cons_of_mem _ (List.mem_filter.mpr ⟨ae_as_mem.mpr ⟨u, hj, rfl⟩, ?_⟩))
    have hcat : (ae_v ad ro u).category = 1 := by rw [ae_v_cat]; exact (hc j u hj).2
    simp [hcat]
    exact fun z => hji z.symm
theorem ok_catchV (X : ae_X p l e R s m args below meth c D dA ro A B ra own nm cc nL ret KF SF d hd) {mid : Nat} {y : MethodName} {bytes : ByteArray} {maxL n index : Nat} {rt : Option FieldType} (hm : am mid = (y, bytes, maxL, rt, [])) (hmL : maxL ≤ 21) (hy : ae_hy y) (hpr : (parseMethodDescriptor y.desc).map (fun d => d.parameters.length) = some n) (hwc : Jvm.Cond.code y bytes maxL rt ∈ aw_all) (hwi : Jvm.Cond.initialized y.cls ∈ aw_all) (hwl : Jvm.Cond.methodLink own index y ∈ aw_all) (hwn : Jvm.Cond.instanceMethod y ∈ aw_all) (hws : Jvm.Cond.selects y.cls y y ∈ aw_all) {ci N : Nat} {T0 : u_T} (hci : classes[ci]? = some (y.cls, T0, N))
    (hdg : decode cc pc = .ok (.invokevirtual index, 3)) {x h0 i st en ct : Nat} {pre suf : List (Nat × Nat × Nat × Nat)} (hsp : hd = pre ++ (st, en, h0, ct) :: suf) (hcov : st ≤ pc ∧ pc < en) (hct : ct ≠ 0) (hwk : Jvm.Cond.classLink own ct (ae_xn x) ∈ aw_all) (hwa : Jvm.Cond.castable (ae_xn x) (ae_xn x) ∈ aw_all)
    (hpre : pre = [] ∨ (x = 1 ∧ ∃ s1 e1 h1 c1, pre = [(s1, e1, h1, c1)] ∧ s1 ≤ pc ∧ pc < e1 ∧ c1 ≠ 0 ∧ Jvm.Cond.classLink own c1 (ae_xn 0) ∈ aw_all)) (hi : i < nL) (hda : decode cc h0 = .ok (.astore i, 2)) :
    ae_CX p l e R s m args below meth c Q D dA ro A nL B ad0 n0 am ra KF SF d pc mid (n + 1) (some ci) x (h0 + 2) i := by
  intro σ L args0 rest σ' hna hcat hrc hM hcl hn0 hg hF G0
  have hpU := @ae_preU p l e R s m args below meth c D dA ro A nL B ra own nm cc ret KF SF d hd X
  obtain ⟨hx, hb, hml, hown, hts, hr, hlk, hnm, hK, hRO, hA, hfr, hlo, hKF, hSF, hxt, hst⟩ := X
  intro ad H locs cells slots ls hP hD hS hc hs hl had
  have hM1 := hM D dA ro ad H.size
  rw [hm] at hM1
  have hq2 : ((rest.map (ae_v ad ro)).map fun v => v.category).sum ≤ 8 := by rw [ae_cat_map]; exact hcat
  obtain ⟨g1, g2, g3, g4, g5⟩ := hg
  have hF1 := hF.1
  have hF2 := hF.2
  cases args0 with
  | nil => cases hrc
  | cons a0 as =>
    cases a0 with
    | ref p0 =>
      have hp0 : ∃ fs, σ.2[p0]? = some (.inr (ci, fs)) := by
        simp only [ae_rcv] at hrc
        split at hrc
        · rename_i cj fs he0
          exact ⟨fs, by rw [he0, beq_iff_eq.mp hrc]⟩
        · cases hrc
      obtain ⟨fs, he0⟩ := hp0
      obtain ⟨cellB, hcB, hoB, hclB⟩ := va_recv hK hP hci (ae_w_get he0)
      intro T hT XS
      obtain ⟨mk, methM, hnamed, hmethM, hstM, habM⟩ := Cond.instanceMethod_spec (hts _ hwn)
      obtain ⟨methM', cM, hmethM', hcM, -, hlM, -, -, -, hsigM⟩ := Cond.code_spec hnamed (hts _ hwc)
      cases hmethM.symm.trans hmethM'
      obtain ⟨c2, r2, m2, q1, q2, q3, q4, kP, hkP, hkPi⟩ := Cond.selects_spec (hts _ hws)
      cases hclB.symm.trans q1
      cases (State.methodFound?_of_named hnamed hy).symm.trans q2
      cases hnamed.symm.trans q3
      have hselP : selectMethod e.platform s.vm cellB.cls mk = .method mk := by rw [Launch.admits_selectMethod XS.admits]; exact q4
      obtain ⟨vm₁, X₁, hstep₁⟩ := XS.invokevirtual hx hown (hts _ hwl) hnamed hmethM hstM hkP hkPi hy (a := ad p0) (cell := cellB) (by rw [hT]; exact hcB) (fun z h => by rw [h] at hoB; cases hoB) hselP hmethM habM hkP hkPi (g := F0 m pc ls (((Value.ref p0 :: as).reverse ++ rest).map (ae_v ad ro))) rfl (argsL := as.map (ae_v ad ro)) (rest := rest.map (ae_v ad ro)) (by rw [List.length_map]; have h9 := ae_par hpr _ hsigM; simp at hna; omega) (by simp [ae_v]) (by rw [hb]; exact hdg)
      have hAt : At (T.setVm vm₁) m c below := X₁.here
      have hnU : (T.setVm vm₁).methodNamed? y = some mk := X₁.named hnamed
      obtain ⟨kY, hkY, -⟩ := className_of_methodNamed hnU
      have hcodeU : (Cond.code y bytes maxL rt).before args (T.setVm vm₁) = true := aw_warm X₁.warmed (List.mem_filter.mp hwc).2 (hts _ hwc)
      have hinitU : (Cond.initialized y.cls).before args (T.setVm vm₁) = true := aw_warm X₁.warmed (List.mem_filter.mp hwi).2 (hts _ hwi)
      have hinitY : kY.init = .initialized := Cond.initialized_spec (findClass_of_methodNamed hnU) hkY hinitU
      obtain ⟨methY, cY, hmY, hcY, -, hlY, -, -, -, -⟩ := Cond.code_spec hnU hcodeU
      have hat1 : (headSpec [ae_cw (y, bytes, maxL, rt, [])] (ae_rm d σ σ')).pre.before (Value.ref (ad p0) :: as.map (ae_v ad ro)).toArray (T.setVm vm₁) = true := atoms_intro fun w hw => by
        rw [List.mem_singleton.mp hw]
        exact aw_warm X₁.warmed (List.mem_filter.mp hwc).2 (hts _ hwc)
      have happ := Spec.appliesLoose_calling (e := e) (S := headSpec [ae_cw (y, bytes, maxL, rt, [])] (ae_rm d σ σ')) (g := F0 m pc ls (rest.map (ae_v ad ro))) hAt (by rw [hb]; exact hdg) hnU hkY hinitY
        (X₁.room_calling (g := F0 m pc ls (rest.map (ae_v ad ro))) (args' := (Value.ref (ad p0) :: as.map (ae_v ad ro)).toArray) (R' := (headSpec [ae_cw (y, bytes, maxL, rt, [])] (ae_rm d σ σ')).room) (hl.2.1.trans hml.symm) hmY hcY hfr (by
          show 2 * (F0 m pc ls (rest.map (ae_v ad ro))).monitorRoom + ((rest.map (ae_v ad ro)).map fun v => v.category).sum + (cY.maxLocals + 11) + 40 * d ≤ R.locals
          rw [hlY]
          have h9 := lv_room (m := m) (pc := pc) (ls := ls) (rest := rest.map (ae_v ad ro)) hq2
          omega) (by show cells + (σ'.1.1 - σ.1.1) ≤ R.cells; omega) (by show slots + (σ'.1.2 - σ.1.2) ≤ R.slots; omega)) hat1
      obtain ⟨mid0, hmid⟩ := hAt.above
      have hfr2 : ((T.setVm vm₁).setTop (F0 m pc ls (rest.map (ae_v ad ro)))).frames = (.java (F0 m pc ls (rest.map (ae_v ad ro))) :: mid0) ++ below := by rw [State.frames_setTop' _ hAt.top, hmid]; rfl
      obtain ⟨o, s₂, hsteps, -, hend, hq⟩ := Steps.callFree hM1 p XS.admits XS.cas XS.clock (acts := []) hfr2 happ (ae_blind _ _ (F0 m pc ls (rest.map (ae_v ad ro))) mk ⟨rfl, hpU hP hD hS (T.setVm vm₁) hT X₁.warmed⟩) trivial
      obtain ⟨q, ho, hW2, ⟨L2, hsame2, hL2⟩, ⟨ad', hag, hP', hD'⟩, ⟨hz, hkk⟩, ce, hce, hcv, hcc⟩ := hq
      subst ho
      rw [State.frames_setTop' _ hAt.top] at hend
      have hend2 : Ended s₂ (.java (F0 m pc ls (rest.map (ae_v ad ro))) :: below) (.threw q) := by
        have h9 := X₁.tail
        rw [h9] at hend
        exact hend
      obtain ⟨T', X', hWT, hsT, ht⟩ := X₁.outOfThrown (g := F0 m pc ls (rest.map (ae_v ad ro))) rfl hend2 hW2 hsame2
      have hT'h : s₂.heap = T'.heap := by rw [ht]; exact throwing_heap T' _ q
      rw [hT'h] at hP' hce hz hkk
      have hz : H.size ≤ T'.heap.size := by rw [← hT]; exact hz
      have hkk : ∀ z : Nat, z < H.size → ¬ va_A (ae_w ad ro dA σ.2) H.size z → T'.heap[z]? = H[z]? := by rw [← hT] at *; exact hkk
      have hE : s.vm.findClass (ae_xn x) = some ce.cls := by
        have h9 : vm₁.findClass (ae_xn x) = some ce.cls := hcc
        have h8 : s.WarmedH vm₁ := X₁.warmed
        rw [h8.alike.findClass] at h9
        exact h9
      obtain ⟨vm2, X2, hst2⟩ := xc_catch X' (g := F0 m pc ls (rest.map (ae_v ad ro))) rfl hce hcv hown hE (hts _ hwa) (tableOf pre) ⟨st, en, h0, ct⟩ (tableOf suf) (by rw [hxt, hsp]; simp [tableOf]) (by
        intro z hz
        rcases hpre with hp0 | ⟨hx1, s1, e1, h1, c1, hp0, hp1, hp2, hp3, hp4⟩
        · rw [hp0] at hz
          cases hz
        · rw [hp0] at hz
          have hz1 : z = ⟨s1, e1, h1, c1⟩ := by simpa [tableOf] using hz
          subst hz1
          subst hx1
          exact ⟨by simp [covers, hp1, hp2], hp3, ae_xn 0, hts _ hp4, hRO.2.2.2.2.2.2.2⟩) (by simp [covers, hcov]) hct (hts _ hwk)
      have hFa := ae_F0 hD hS hA
      have hS' : va_S A s.heap T'.heap (locs ++ L2) := ⟨Nat.le_trans hS.1 hz, fun z h1 h2 => by rw [hkk z (Nat.lt_of_lt_of_le h1 hS.1) (fun y => h2 (hFa z y))]; exact hS.2.1 z h1 h2, fun z hz => by
        rcases List.mem_append.mp hz with h | h
        · exact hS.2.2 z h
        · exact hFa _ (hL2 z h)⟩
      have hW3 : W p l e R s m args below meth c T'.heap (locs ++ L2) (cells + (σ'.1.1 - σ.1.1)) (slots + (σ'.1.2 - σ.1.2)) Q (F0 m h0 ls [.ref q]) :=
        lv_astore hx hb hda hl.has hi rfl (fun ls' h' => G0 ad' T'.heap (locs ++ L2) _ _ ls' hP' (hD'.weaken (fun _ _ _ h => hFa _ h)) hS' (by omega) (by omega) (ae_L_up hag (cL_none hcl.2.1) (hl.del hcl.2.1 h')) (fun z hz => by rw [hag z (by omega)]; exact had z hz))
      obtain ⟨t2, a1, b1⟩ := hW3 (T'.setVm vm2) rfl X2
      refine ⟨t2, hstep₁ _ (fun acts => ?_), b1⟩
      rw [doInvoke_state]
      refine hsteps.trans ?_
      rw [ht]
      exact hst2 _ a1
    | _ => cases hrc
end XE
