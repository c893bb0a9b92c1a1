section XD
variable {p : Program} {l : Launch} {e : Env} {R : Room} {s : State} {m : MethodId} {args : Array Value} {below : List Frame} {meth : Method} {c : Code} {Q : State → Prop}
variable {D : va_G} {dA : Nat → ClassId} {ro : Nat → Nat} {A : Nat → Prop} {nL : Nat} {B : Nat × Nat} {ad0 : Nat → Nat} {n0 : Nat}
variable {ra : Nat → Nat × (Nat → Int32)} {own nm : String} {cc : ByteArray} {ret : Option FieldType} {KF SF d : Nat} {pc : Nat} {hd : List (Nat × Nat × Nat × Nat)}
variable {am : ae_Am}
/-- a body that ends, whatever its end -/
def ae_MQ (below : List Frame) (Qc : Array Value → State → Outcome → State → Prop) (a : Array Value) (s : State) : State → Prop := fun t => ∃ o, t.status = .running ∧ Ended t below o ∧ Qc a s o t
def ae_xl : List String := ["java/lang/RuntimeException", "java/lang/Exception"]
/-- the words of a throw that speak of the heap -/
def ae_hw : List Cond := [.laysStatic "java/lang/Throwable" "UNASSIGNED_STACK" "[Ljava/lang/StackTraceElement;", .isRef (.static "java/lang/Throwable" "UNASSIGNED_STACK" "[Ljava/lang/StackTraceElement;"), .laysStatic "java/lang/Throwable" "SUPPRESSED_SENTINEL" "Ljava/util/List;", .isRef (.static "java/lang/Throwable" "SUPPRESSED_SENTINEL" "Ljava/util/List;")]
/-- what a throw at pc must be -/
def ae_TE (own : String) (cc : ByteArray) (hd : List (Nat × Nat × Nat × Nat)) (pc x : Nat) : Prop :=
  ∃ ik ic : Nat, decode cc pc = .ok (.new ik, 3) ∧ decode cc (pc + 3) = .ok (.dup, 1) ∧ decode cc (pc + 4) = .ok (.invokespecial ic, 3) ∧ decode cc (pc + 7) = .ok (.athrow, 1) ∧
    Jvm.Cond.classLink own ik (ae_xn x) ∈ aw_all ∧ Jvm.Cond.initialized (ae_xn x) ∈ aw_all ∧ (∀ w ∈ Bundle.ownAtoms0 own ic (ae_xn x) ae_xl, w ∈ aw_all ∨ w ∈ ae_hw) ∧ hd = [] ∧ Bundle.fit (ae_xn x) = true
theorem ae_throw (X : ae_X p l e R s m args below meth c D dA ro A B ra own nm cc nL ret KF SF d hd) {σ0 : ae_S} (hA0 : A = va_A (ae_w ad0 ro dA σ0.2) s.heap.size) (hn : n0 = σ0.2.length) (hB : B = σ0.1) {x : Nat} (hte : ae_TE own cc hd pc x) (hd5 : 5 ≤ d) {σ σF : ae_S} {L : ae_Ls} {k : List Value} (hk : ae_cat k ≤ 8) (hσ : σF = ((σ.1.1 + 1, σ.1.2 + 6), σ.2)) (hKS : σF.1.1 ≤ KF ∧ σF.1.2 ≤ SF) :
    ae_Go p l e R s m args below meth c (ae_MQ below (ae_QX D dA ro ad0 σ0 s.heap.size σF x) args s) D dA ro A nL B ad0 n0 σ L k pc := by
  obtain ⟨hx, hb, hml, hown, hts, hrt, hlk, hnm, hK, hRO, hA, hfr, hlo, hKF, hSF, hxt, hst⟩ := X
  obtain ⟨ik, ic, d0, d3, d4, d7, w1, w2, w3, hd0, hfit⟩ := hte
  intro ad H locs cells slots ls hP hD hS hc hs hl had T hT XS
  subst hσ
  have hK1 : σ.1.1 + 1 ≤ KF := hKS.1
  have hK2 : σ.1.2 + 6 ≤ SF := hKS.2
  have htr : e.platform.stackTraces = false := (show e.platform.stackTraces = l.stackTraces by rw [XS.admits.platform]).trans hst
  have hq2 : ((k.map (ae_v ad ro)).map fun v => v.category).sum ≤ 8 := by rw [ae_cat_map]; exact hk
  have Y := xc_base XS (R' := { frames := R.frames, locals := R.locals, cells := 1, slots := 6 }) (Nat.le_refl _) (Nat.le_refl _) (by show cells + 1 ≤ R.cells; omega) (by show slots + 6 ≤ R.slots; omega)
  have hSm := xc_same XS
  have hvm : (xc_st s T).vm = s.vm := rfl
  have hhp : (xc_st s T).heap = H := hT
  generalize xc_st s T = s' at Y hSm hvm hhp
  have hW0 : s.WarmedH s'.vm := by rw [hvm]; exact State.WarmedH.refl s
  have hts' : ∀ v ∈ aw_all, v.before args s' = true := aw_warmAll hW0 hts
  have hR1 := (hRO.kept (fun a h1 h2 => hS.2.1 a h1 h2)).moved hW0.alike
  have hU1 := ae_LS.words (U := s') (by rw [hhp]; exact hR1.2.2.2.2.2.1) args
  have hU2 := ae_LS.words (U := s') (by rw [hhp]; exact hR1.2.2.2.2.2.2.1) args
  have hat : ∀ v ∈ Bundle.ownAtoms0 own ic (ae_xn x) ae_xl, v.before args s' = true := fun v hv => by
    rcases w3 v hv with h | h
    · exact hts' v h
    · simp only [ae_hw, List.mem_cons, List.not_mem_nil, or_false] at h
      rcases h with h | h | h | h <;> subst h
      · exact hU1.1
      · exact hU1.2
      · exact hU2.1
      · exact hU2.2
  have hown' : s'.vm.findClass own = some m.cls := by rw [hvm]; exact hown
  have hins : (Cond.instantiable (ae_xn x) 6).before args s' = true := hat _ (by simp [Bundle.ownAtoms0])
  obtain ⟨vm₁, cX, kX, hfX, hkX, -, -, X₁, st1⟩ := Y.newCold hx (own := own) (C := ae_xn x) (index := ik) (n := 6) hown' (hts' _ w1) hins (hts' _ w2) (g := F0 m pc ls (k.map (ae_v ad ro))) rfl (by rw [hb]; exact d0) (Nat.le_refl _) (Nat.le_refl _)
  generalize hT1 : (T.setVm vm₁).pushCell { cls := cX, slots := kX.instanceTypes.map defaultValue, vm := .none } = T1 at X₁ st1
  have hcellA : T1.heap[T.heap.size]? = some (freshCell cX kX) := by rw [← hT1]; exact State.heap_pushCell_size _ _
  have hout : ∀ z ∈ c.exceptionTable.toList, covers z (pc + 7) = false := by
    rw [hxt, hd0]
    intro z hz
    cases hz
  have hq3 := lv_room (m := m) (pc := pc) (ls := ls) (rest := k.map (ae_v ad ro)) hq2
  obtain ⟨U, hsteps, hrun, hend, hW, hsame, ce, hce, hO⟩ := X₁.ctorThrow0 hx htr (own := own) (cls := ae_xn x) (names := ae_xl) (ic := ic) hown' hfit (by decide) hat (fun z hz => nomatch hz) hfX hkX hcellA (by rw [hhp, hT]; exact Nat.le_refl _)
    (g := { method := m, pc := pc + 4, locals := ls, stack := .ref T.heap.size :: .ref T.heap.size :: k.map (ae_v ad ro), locked := none }) rfl (hl.2.1.trans hml.symm) rfl rfl (rest := k.map (ae_v ad ro)) rfl
    (by rw [hb]; exact d4) (by rw [hb]; exact d7) hout (by show 2 + 3 < R.frames; omega) (by
      show 2 * 0 + ((Value.ref T.heap.size :: k.map (ae_v ad ro)).map fun v => v.category).sum + (13 * (2 + 1) + 41) ≤ R.locals
      have hrf : (Value.ref T.heap.size).category = 1 := rfl
      simp only [List.map_cons, List.sum_cons, hrf]
      omega) hlk
  obtain ⟨f1, f2⟩ := xc_old hsame
  rw [hhp] at f1 f2
  have f1' : H.size ≤ U.heap.size := f1
  have f2' : ∀ q : Nat, q < H.size → U.heap[q]? = H[q]? := f2
  have hWs : s.WarmedH U.vm := State.WarmedH.trans hW0 hW
  have hsU : s.sameButNew ({ U with vm := s.vm } : State) locs (cells + 1) (slots + 6) := by
    have h9 : s'.sameButNew ({ U with vm := s.vm } : State) [] (0 + 1) (0 + 6) := by
      have := hsame
      rw [hvm] at this
      exact this
    have := hSm.trans h9
    simpa using this
  refine ⟨U, ?_, .threw T.heap.size, hrun, hend, T.heap.size, rfl, hWs, ⟨locs, ?_, ?_⟩, ⟨ad, ?_, ?_, ?_⟩, ?_, ce, hce, hO.vm, ?_⟩
  · refine st1 _ ?_
    have d3' : decode c.code (pc + 3) = .ok (.dup, 1) := by rw [hb]; exact d3
    have hdup : ∀ tg, Steps p.tables e below (T1.setTop (F0 m (pc + 4) ls (.ref T.heap.size :: .ref T.heap.size :: k.map (ae_v ad ro)))) tg → Steps p.tables e below (T1.setTop (F0 m (pc + 3) ls (.ref T.heap.size :: k.map (ae_v ad ro)))) tg := by
      intro tg a
      jvm_step X₁.here [X₁.here.top, hx, d3', Value.category]
      exact a
    exact hdup _ hsteps
  · have e1 : σ.1.1 + 1 - σ0.1.1 = cells + 1 := by rw [hB] at hc; omega
    have e2 : σ.1.2 + 6 - σ0.1.2 = slots + 6 := by rw [hB] at hs; omega
    show s.sameButNew _ locs (σ.1.1 + 1 - σ0.1.1) (σ.1.2 + 6 - σ0.1.2)
    rw [e1, e2]
    exact hsU
  · rw [← hA0]
    exact hS.2.2
  · exact fun q hq => had q (by rw [hn]; exact hq)
  · exact hP.kept (fun j q hj => f2' q.1 ((hP j q hj).lt))
  · rw [← hA0]
    exact hD
  · rw [← hA0]
    exact ⟨Nat.le_trans hS.1 f1', fun q h1 h2 => (f2' q (Nat.lt_of_lt_of_le h1 hS.1)).trans (hS.2.1 q h1 h2)⟩
  · have h9 := hO.cls
    rw [hvm] at h9
    exact h9

end XD