section AE
/-- cells: arrays (number of the kind, length, contents), objects (number of the class, fields); references are places in the list of cells -/
abbrev ae_C : Type := (Nat × vp_A) ⊕ (Nat × List Value)
/-- how many cells and slots were made so far, and the cells -/
abbrev ae_S : Type := (Nat × Nat) × List ae_C
abbrev ae_Ls : Type := List (Option Value)
abbrev ae_R : Type := Nat → Nat × (Nat → Int32)
abbrev ae_Op : Type := ae_R → ae_S → ae_Ls → List Value → Option (ae_S × ae_Ls × List Value × Nat)
def ae_v (ad ro : Nat → Nat) : Value → Value
  | .ref p => .ref (ad p)
  | .retAddr k => .ref (ro k)
  | .int x => .int x
  | .long x => .long x
  | .float x => .float x
  | .double x => .double x
  | .null => .null
def ae_a (ad : Nat → Nat) (x : vp_A) : vp_A := (x.1, match x.2 with
  | .inl f => .inl f
  | .inr (.inl f) => .inr (.inl f)
  | .inr (.inr (.inl f)) => .inr (.inr (.inl f))
  | .inr (.inr (.inr (.inl f))) => .inr (.inr (.inr (.inl f)))
  | .inr (.inr (.inr (.inr f))) => .inr (.inr (.inr (.inr (fun i => (f i).map ad)))))
def ae_c (ad ro : Nat → Nat) (dA : Nat → ClassId) : ae_C → va_E
  | .inl (t, x) => .inl (dA t, ae_a ad x)
  | .inr (ci, fs) => .inr (ci, fs.map (ae_v ad ro))
def ae_w (ad ro : Nat → Nat) (dA : Nat → ClassId) (σ : List ae_C) : va_W := σ.mapIdx (fun i x => (ad i, ae_c ad ro dA x))
theorem ae_w_get {ad ro : Nat → Nat} {dA : Nat → ClassId} {σ : List ae_C} {q : Nat} {x : ae_C} (h : σ[q]? = some x) : (ae_w ad ro dA σ)[q]? = some (ad q, ae_c ad ro dA x) := by
  simp [ae_w, List.getElem?_mapIdx, h]
theorem ae_w_set (ad ro : Nat → Nat) (dA : Nat → ClassId) (σ : List ae_C) (q : Nat) (x : ae_C) : (ae_w ad ro dA σ).set q (ad q, ae_c ad ro dA x) = ae_w ad ro dA (σ.set q x) := by
  apply List.ext_getElem?
  intro i
  simp only [ae_w, List.getElem?_set, List.getElem?_mapIdx, List.length_mapIdx]
  by_cases h : q = i
  · subst h
    by_cases h2 : q < σ.length
    · simp [h2]
    · simp [h2]
  · simp [h]
/-- no reference points out of the store -/
def ae_cv (n : Nat) : Value → Prop
  | .ref p => p < n
  | _ => True
def ae_cc (n : Nat) : ae_C → Prop
  | .inl (_, _, .inr (.inr (.inr (.inr f)))) => ∀ i p, f i = some p → p < n
  | .inl _ => True
  | .inr (_, fs) => ∀ v ∈ fs, ae_cv n v
def ae_cs (σ : ae_S) : Prop := ∀ x ∈ σ.2, ae_cc σ.2.length x
def ae_cL (n : Nat) (L : ae_Ls) : Prop := ∀ (i : Nat) (v : Value), L[i]? = some (some v) → ae_cv n v ∧ v.category = 1
def ae_ck (n : Nat) (k : List Value) : Prop := ∀ v ∈ k, ae_cv n v
def ae_cl (σ : ae_S) (L : ae_Ls) (k : List Value) : Prop := ae_cs σ ∧ ae_cL σ.2.length L ∧ ae_ck σ.2.length k
theorem ae_cv_mono {n n' : Nat} (h : n ≤ n') {v : Value} (hv : ae_cv n v) : ae_cv n' v := by
  cases v <;> first | trivial | exact Nat.lt_of_lt_of_le hv h
theorem ae_cc_mono {n n' : Nat} (h : n ≤ n') {x : ae_C} (hx : ae_cc n x) : ae_cc n' x := by
  rcases x with ⟨t, k, f | f | f | f | f⟩ | ⟨ci, fs⟩
  · trivial
  · trivial
  · trivial
  · trivial
  · exact fun i p hp => Nat.lt_of_lt_of_le (hx i p hp) h
  · exact fun v hv => ae_cv_mono h (hx v hv)
theorem ae_cL_mono {n n' : Nat} (h : n ≤ n') {L : ae_Ls} (hL : ae_cL n L) : ae_cL n' L := fun i v hv => ⟨ae_cv_mono h (hL i v hv).1, (hL i v hv).2⟩
theorem ae_ck_mono {n n' : Nat} (h : n ≤ n') {k : List Value} (hk : ae_ck n k) : ae_ck n' k := fun v hv => ae_cv_mono h (hk v hv)
theorem ae_v_eq {n : Nat} {ad ad' ro : Nat → Nat} (h : ∀ q, q < n → ad' q = ad q) {v : Value} (hv : ae_cv n v) : ae_v ad' ro v = ae_v ad ro v := by
  cases v <;> simp_all [ae_v, ae_cv]
theorem ae_k_eq {n : Nat} {ad ad' ro : Nat → Nat} (h : ∀ q, q < n → ad' q = ad q) {k : List Value} (hv : ae_ck n k) : k.map (ae_v ad' ro) = k.map (ae_v ad ro) :=
  List.map_congr_left fun v hm => ae_v_eq h (hv v hm)
theorem ae_c_eq {n : Nat} {ad ad' ro : Nat → Nat} {dA : Nat → ClassId} (h : ∀ q, q < n → ad' q = ad q) {x : ae_C} (hx : ae_cc n x) : ae_c ad' ro dA x = ae_c ad ro dA x := by
  rcases x with ⟨t, k, f | f | f | f | f⟩ | ⟨ci, fs⟩
  · rfl
  · rfl
  · rfl
  · rfl
  · have : (fun i => (f i).map ad') = (fun i => (f i).map ad) := by
      funext i
      cases hf : f i with
      | none => rfl
      | some p => simp [h p (hx i p hf)]
    simp [ae_c, ae_a, this]
  · simp only [ae_c]
    rw [ae_k_eq h hx]
def ae_up (ad : Nat → Nat) (n a : Nat) : Nat → Nat := fun j => if j = n then a else ad j
theorem ae_up_lt {ad : Nat → Nat} {n a : Nat} : ∀ q, q < n → ae_up ad n a q = ad q := fun q h => by simp [ae_up, Nat.ne_of_lt h]
theorem ae_up_self {ad : Nat → Nat} {n a : Nat} : ae_up ad n a n = a := by simp [ae_up]
theorem ae_w_eq {ad ad' ro : Nat → Nat} {dA : Nat → ClassId} {σ : List ae_C} {n : Nat} (hn : σ.length ≤ n) (h : ∀ q, q < n → ad' q = ad q) (hc : ∀ x ∈ σ, ae_cc n x) : ae_w ad' ro dA σ = ae_w ad ro dA σ := by
  apply List.ext_getElem?
  intro i
  simp only [ae_w, List.getElem?_mapIdx]
  cases hi : σ[i]? with
  | none => rfl
  | some x =>
    have hl : i < σ.length := (List.getElem?_eq_some_iff.mp hi).1
    simp [h i (by omega), ae_c_eq h (hc x (List.mem_of_getElem? hi))]
theorem ae_w_push {ad ro : Nat → Nat} {dA : Nat → ClassId} {σ : List ae_C} (a : Nat) (x : ae_C) (hc : ∀ y ∈ σ, ae_cc σ.length y) (hx : ae_cc σ.length x) :
    ae_w (ae_up ad σ.length a) ro dA (σ ++ [x]) = ae_w ad ro dA σ ++ [(a, ae_c ad ro dA x)] := by
  have h1 : ae_w (ae_up ad σ.length a) ro dA (σ ++ [x]) = ae_w (ae_up ad σ.length a) ro dA σ ++ [(ae_up ad σ.length a σ.length, ae_c (ae_up ad σ.length a) ro dA x)] := by
    simp [ae_w, List.mapIdx_append]
  rw [h1, ae_up_self, ae_w_eq (Nat.le_refl _) ae_up_lt hc, ae_c_eq ae_up_lt hx]
/-- the locals -/
def ae_L (ad ro : Nat → Nat) (nL : Nat) (L : ae_Ls) (ls : Array Slot) : Prop := L.length = nL ∧ ls.size = nL ∧ lv_wf ls ∧ ∀ (i : Nat) (v : Value), L[i]? = some (some v) → ls[i]? = some (.val (ae_v ad ro v))
def ae_as (ad ro : Nat → Nat) (L : ae_Ls) : List (Nat × Value) := L.zipIdx.filterMap (fun q => q.1.map (fun v => (q.2, ae_v ad ro v)))
theorem ae_as_mem {ad ro : Nat → Nat} {L : ae_Ls} {i : Nat} {w : Value} : (i, w) ∈ ae_as ad ro L ↔ ∃ v, L[i]? = some (some v) ∧ w = ae_v ad ro v := by
  simp only [ae_as, List.mem_filterMap]
  constructor
  · rintro ⟨⟨o, j⟩, hm, he⟩
    rw [List.mem_zipIdx_iff_getElem?] at hm
    cases o with
    | none => simp at he
    | some v =>
      simp only [Option.map_some, Option.some.injEq, Prod.mk.injEq] at he
      obtain ⟨e1, e2⟩ := he
      subst e1
      exact ⟨v, hm, e2.symm⟩
  · rintro ⟨v, hv, rfl⟩
    exact ⟨(some v, i), by rw [List.mem_zipIdx_iff_getElem?]; exact hv, rfl⟩
theorem ae_L.has {ad ro : Nat → Nat} {nL : Nat} {L : ae_Ls} {ls : Array Slot} (h : ae_L ad ro nL L ls) : lv_has ls nL (ae_as ad ro L) := by
  refine ⟨h.2.1, h.2.2.1, fun q hq => ?_⟩
  obtain ⟨i, w⟩ := q
  obtain ⟨v, hv, rfl⟩ := ae_as_mem.mp hq
  exact h.2.2.2 i v hv
theorem ae_v_cat (ad ro : Nat → Nat) (v : Value) : (ae_v ad ro v).category = v.category := by cases v <;> rfl
theorem ae_L.put {ad ro : Nat → Nat} {nL n i : Nat} {L : ae_Ls} {ls ls' : Array Slot} {v : Value} (h : ae_L ad ro nL L ls) (hc : ae_cL n L)
    (h' : lv_has ls' nL ((i, ae_v ad ro v) :: (ae_as ad ro L).filter (fun q => !(q.1 == i) && !(q.1 + 1 == i && q.2.category == 2)))) : ae_L ad ro nL (L.set i (some v)) ls' := by
  refine ⟨by simp [h.1], h'.1, h'.2.1, fun j u hj => ?_⟩
  rw [List.getElem?_set] at hj
  by_cases hji : i = j
  · subst hji
    simp only [if_true] at hj
    split at hj
    · cases hj
      exact h'.2.2 (i, ae_v ad ro v) List.mem_cons_self
    · cases hj
  · rw [if_neg hji] at hj
    refine h'.2.2 (j, ae_v ad ro u) (List.mem_cons_of_mem _ (List.mem_filter.mpr ⟨ae_as_mem.mpr ⟨u, hj, rfl⟩, ?_⟩))
    have hcat : (ae_v ad ro u).category = 1 := by rw [ae_v_cat]; exact (hc j u hj).2
    simp [hcat]
    exact fun z => hji z.symm
theorem ae_L_up {n : Nat} {ad ad' ro : Nat → Nat} {nL : Nat} {L : ae_Ls} {ls : Array Slot} (h : ∀ q, q < n → ad' q = ad q) (hc : ae_cL n L) (hl : ae_L ad ro nL L ls) : ae_L ad' ro nL L ls :=
  ⟨hl.1, hl.2.1, hl.2.2.1, fun i v hv => by rw [ae_v_eq h (hc i v hv).1]; exact hl.2.2.2 i v hv⟩
/-- a static field that holds a reference or null, and what its words say -/
def ae_LS (C n d : String) (A : Nat → Prop) (U : State) (H : Heap) : Prop := ∃ (c : ClassId) (k : Class) (i : Nat) (f : Field) (a : Nat) (cell : Cell) (v : Value), U.vm.findClass C = some c ∧ U.fieldFound? C n d = some (c, k, i, f) ∧ k.staticTypes[f.slot]? = some f.type ∧ k.statics = some a ∧ f.isStatic = true ∧ H[a]? = some cell ∧ cell.vm.isStatics = true ∧ cell.cls = c ∧ f.slot < cell.slots.size ∧ cell.slots[f.slot]? = some v ∧ (v = .null ∨ ∃ t, v = .ref t) ∧ ¬ A a
theorem ae_LS.moved {C n d : String} {A : Nat → Prop} {u U : State} {H : Heap} (hvm : u.vm.Alike U.vm) (h : ae_LS C n d A u H) : ae_LS C n d A U H := by
  obtain ⟨c, k, i, f, a, cell, v, h0, h1, h2, h3, h4⟩ := h
  obtain ⟨k', hi', he⟩ := State.fieldFound?_setVm hvm h1
  exact ⟨c, k', i, f, a, cell, v, by rw [hvm.findClass]; exact h0, hi', by rw [he]; exact h2, by rw [he]; exact h3, h4⟩
theorem ae_LS.kept {C n d : String} {A : Nat → Prop} {U : State} {H H1 : Heap} (h : ae_LS C n d A U H) (hq : ∀ a : Nat, a < H.size → ¬ A a → H1[a]? = H[a]?) : ae_LS C n d A U H1 := by
  obtain ⟨c, k, i, f, a, cell, v, h0, h1, h2, h3, h4, h5, h6, h7, h8, h9, h10, h11⟩ := h
  exact ⟨c, k, i, f, a, cell, v, h0, h1, h2, h3, h4, by rw [hq a (Array.getElem?_eq_some_iff.mp h5).1 h11]; exact h5, h6, h7, h8, h9, h10, h11⟩
theorem ae_LS.narrow {C n d : String} {A A' : Nat → Prop} {U : State} {H : Heap} (h : ae_LS C n d A U H) (hAB : ∀ q, A' q → A q) : ae_LS C n d A' U H := by
  obtain ⟨c, k, i, f, a, cell, v, h0, h1, h2, h3, h4, h5, h6, h7, h8, h9, h10, h11⟩ := h
  exact ⟨c, k, i, f, a, cell, v, h0, h1, h2, h3, h4, h5, h6, h7, h8, h9, h10, fun z => h11 (hAB a z)⟩
theorem ae_LS.of {args : Array Value} {s : State} {C n d : String} {A : Nat → Prop} (hl : (Cond.laysStatic C n d).before args s = true) (h : (Cond.isRef (.static C n d)).before args s = true) (hA : ∀ a : Nat, a < s.heap.size → ¬ A a) : ae_LS C n d A s s.heap := by
  obtain ⟨c, k, i, f, a, cell, hc, hi, hst, ha, hcell, hs, hcls, hlt, hty⟩ := Cond.laysStatic_spec hl
  cases hv : (Term.static C n d).eval args s none [] s with
  | none => simp [Cond.before, Cond.holds, Cond.value, hv] at h
  | some w =>
    obtain ⟨hst', a', cell', ha', hcell', -, hslot⟩ := Term.static_spec hi hv
    cases ha.symm.trans ha'
    cases hcell.symm.trans hcell'
    simp only [Cond.before, Cond.holds, Cond.value, hv] at h
    refine ⟨c, k, i, f, a, cell, w, hc, hi, hty, ha, hst, hcell, hs, hcls, hlt, hslot, ?_, hA a (Array.getElem?_eq_some_iff.mp hcell).1⟩
    cases w with
    | null => exact Or.inl rfl
    | ref t => exact Or.inr ⟨t, rfl⟩
    | _ => simp at h
theorem ae_LS.words {C n d : String} {A : Nat → Prop} {U : State} (h : ae_LS C n d A U U.heap) (args : Array Value) : (Cond.laysStatic C n d).before args U = true ∧ (Cond.isRef (.static C n d)).before args U = true := by
  obtain ⟨c, k, i, f, a, cell, v, h0, h1, h2, h3, h4, h5, h6, h7, h8, h9, h10, h11⟩ := h
  refine ⟨by simp [Cond.before, Cond.holds, Cond.value, h0, h1, h3, h5, h4, h6, h7, h8, h2], ?_⟩
  have hv : (Term.static C n d).eval args U none [] U = some v := Term.static_eval h1 h4 h3 h5 h6 h9
  rcases h10 with h10 | ⟨t, h10⟩ <;> subst h10 <;> simp [Cond.before, Cond.holds, Cond.value, hv]
/-- the arrays that are only read: the script, and the static ones -/
def ae_RO (ra : ae_R) (ro : Nat → Nat) (A : Nat → Prop) (U : State) (H : Heap) : Prop :=
  (∀ k, k < 4 → va_T .int (ro k) (ra k).1 (fun j => .int ((ra k).2 j)) A U H) ∧ (∀ k, k < 4 → (ra k).1 < 2 ^ 31) ∧ va_Z "TwinNetwork" "LEAVES_SWITCH" "[I" (.ref (ro 1)) A U H ∧ va_Z "TwinNetwork" "ENDS_AT_SWITCH" "[I" (.ref (ro 2)) A U H ∧ va_Z "TwinNetwork" "CHECK_STEPS" "[I" (.ref (ro 3)) A U H ∧ ae_LS "java/lang/Throwable" "UNASSIGNED_STACK" "[Ljava/lang/StackTraceElement;" A U H ∧ ae_LS "java/lang/Throwable" "SUPPRESSED_SENTINEL" "Ljava/util/List;" A U H ∧ va_Nc "java/lang/IllegalStateException" "java/lang/IllegalArgumentException" U
theorem ae_RO.moved {ra : ae_R} {ro : Nat → Nat} {A : Nat → Prop} {u U : State} {H : Heap} (hvm : u.vm.Alike U.vm) (h : ae_RO ra ro A u H) : ae_RO ra ro A U H :=
  ⟨fun k hk => (h.1 k hk).moved hvm, h.2.1, h.2.2.1.moved hvm, h.2.2.2.1.moved hvm, h.2.2.2.2.1.moved hvm, h.2.2.2.2.2.1.moved hvm, h.2.2.2.2.2.2.1.moved hvm, h.2.2.2.2.2.2.2.moved hvm⟩
theorem ae_RO.narrow {ra : ae_R} {ro : Nat → Nat} {A A' : Nat → Prop} {U : State} {H : Heap} (h : ae_RO ra ro A U H) (hAB : ∀ q, A' q → A q) : ae_RO ra ro A' U H :=
  ⟨fun k hk => (h.1 k hk).narrow hAB, h.2.1, h.2.2.1.narrow hAB, h.2.2.2.1.narrow hAB, h.2.2.2.2.1.narrow hAB, h.2.2.2.2.2.1.narrow hAB, h.2.2.2.2.2.2.1.narrow hAB, h.2.2.2.2.2.2.2⟩
theorem ae_RO.kept {ra : ae_R} {ro : Nat → Nat} {A : Nat → Prop} {U : State} {H H1 : Heap} (h : ae_RO ra ro A U H) (hq : ∀ a : Nat, a < H.size → ¬ A a → H1[a]? = H[a]?) : ae_RO ra ro A U H1 :=
  ⟨fun k hk => (h.1 k hk).kept hq, h.2.1, h.2.2.1.kept hq, h.2.2.2.1.kept hq, h.2.2.2.2.1.kept hq, h.2.2.2.2.2.1.kept hq, h.2.2.2.2.2.2.1.kept hq, h.2.2.2.2.2.2.2⟩

/-- the machine at a point of a method, for every heap that holds the store -/
def ae_Go (p : Program) (l : Launch) (e : Env) (R : Room) (s : State) (m : MethodId) (args : Array Value) (below : List Frame) (meth : Method) (c : Code) (Q : State → Prop) (D : va_G) (dA : Nat → ClassId) (ro : Nat → Nat) (A : Nat → Prop) (nL : Nat) (B : Nat × Nat) (ad0 : Nat → Nat) (n0 : Nat) (σ : ae_S) (L : ae_Ls) (k : List Value) (pc : Nat) : Prop :=
  ∀ (ad : Nat → Nat) (H : Heap) (locs : List Loc) (cells slots : Nat) (ls : Array Slot), va_P D classes (ae_w ad ro dA σ.2) H → va_D A (ae_w ad ro dA σ.2) → va_S A s.heap H locs → B.1 + cells = σ.1.1 → B.2 + slots = σ.1.2 → ae_L ad ro nL L ls → (∀ q, q < n0 → ad q = ad0 q) →
    W p l e R s m args below meth c H locs cells slots Q (F0 m pc ls (k.map (ae_v ad ro)))

/-- what holds all through a method -/
def ae_X (p : Program) (l : Launch) (e : Env) (R : Room) (s : State) (m : MethodId) (args : Array Value) (below : List Frame) (meth : Method) (c : Code) (D : va_G) (dA : Nat → ClassId) (ro : Nat → Nat) (A : Nat → Prop) (B : Nat × Nat) (ra : Nat → Nat × (Nat → Int32)) (own nm : String) (cc : ByteArray) (nL : Nat) (ret : Option FieldType) (KF SF d : Nat) (hd : List (Nat × Nat × Nat × Nat)) : Prop :=
  p.tables.exec = Jvm.exec ∧ c.code = cc ∧ c.maxLocals = nL ∧ s.vm.findClass own = some m.cls ∧ (∀ w ∈ aw_all, w.before args s = true) ∧ meth.sig.returnType = ret ∧ meth.locks = false ∧ meth.name = nm ∧ va_K D classes (ae_ty dA) s ∧ ae_RO ra ro A s s.heap ∧ (∀ q, s.heap.size ≤ q → A q) ∧ d + 1 ≤ R.frames ∧ 40 * (d + 1) ≤ R.locals ∧ KF ≤ B.1 + R.cells ∧ SF ≤ B.2 + R.slots ∧ c.exceptionTable.toList = tableOf hd ∧ l.stackTraces = false

/-- an op does at pc what the machine does -/
def ae_Ok (p : Program) (l : Launch) (e : Env) (R : Room) (s : State) (m : MethodId) (args : Array Value) (below : List Frame) (meth : Method) (c : Code) (Q : State → Prop) (D : va_G) (dA : Nat → ClassId) (ro : Nat → Nat) (A : Nat → Prop) (nL : Nat) (B : Nat × Nat) (ad0 : Nat → Nat) (n0 : Nat) (ra : Nat → Nat × (Nat → Int32)) (KF SF pc : Nat) (f : ae_Op) : Prop :=
  ∀ (σ : ae_S) (L : ae_Ls) (k : List Value) (σ' : ae_S) (L' : ae_Ls) (k' : List Value) (pc' : Nat), f ra σ L k = some (σ', L', k', pc') → ae_cl σ L k → n0 ≤ σ.2.length → σ'.1.1 ≤ KF ∧ σ'.1.2 ≤ SF → ae_Go p l e R s m args below meth c Q D dA ro A nL B ad0 n0 σ' L' k' pc' → ae_Go p l e R s m args below meth c Q D dA ro A nL B ad0 n0 σ L k pc
/-- an op leaves the store closed, and takes nothing away -/
def ae_Pu (f : ae_Op) : Prop :=
  ∀ (ra : ae_R) (σ : ae_S) (L : ae_Ls) (k : List Value) (σ' : ae_S) (L' : ae_Ls) (k' : List Value) (pc' : Nat), f ra σ L k = some (σ', L', k', pc') → ae_cl σ L k → ae_cl σ' L' k' ∧ σ.1.1 ≤ σ'.1.1 ∧ σ.1.2 ≤ σ'.1.2 ∧ σ.2.length ≤ σ'.2.length

def o_push (v : Value) (np : Nat) : ae_Op := fun _ σ L k => some (σ, L, v :: k, np)
def o_bin (f : Int32 → Int32 → Int32) (np : Nat) : ae_Op := fun _ σ L k => match k with
  | .int y :: .int x :: r => some (σ, L, .int (f x y) :: r, np)
  | _ => none
def o_dv (f : Int32 → Int32 → Int32) (np : Nat) : ae_Op := fun _ σ L k => match k with
  | .int y :: .int x :: r => if y = 0 then none else some (σ, L, .int (f x y) :: r, np)
  | _ => none
def o_un (f : Int32 → Int32) (np : Nat) : ae_Op := fun _ σ L k => match k with
  | .int x :: r => some (σ, L, .int (f x) :: r, np)
  | _ => none
def o_i2l (np : Nat) : ae_Op := fun _ σ L k => match k with
  | .int x :: r => some (σ, L, .long x.toInt64 :: r, np)
  | _ => none
def o_lcmp (np : Nat) : ae_Op := fun _ σ L k => match k with
  | .long y :: .long x :: r => some (σ, L, .int (lg_cmp x y) :: r, np)
  | _ => none
def o_dup (np : Nat) : ae_Op := fun _ σ L k => match k with
  | v :: r => if v.category = 1 then some (σ, L, v :: v :: r, np) else none
  | _ => none
def o_dup2 (np : Nat) : ae_Op := fun _ σ L k => match k with
  | v :: u :: r => if v.category = 1 ∧ u.category = 1 then some (σ, L, v :: u :: v :: u :: r, np) else none
  | _ => none
def o_dupx1 (np : Nat) : ae_Op := fun _ σ L k => match k with
  | v :: u :: r => if v.category = 1 ∧ u.category = 1 then some (σ, L, v :: u :: v :: r, np) else none
  | _ => none
def o_pop (np : Nat) : ae_Op := fun _ σ L k => match k with
  | v :: r => if v.category = 1 then some (σ, L, r, np) else none
  | _ => none
def o_il (i : Nat) (np : Nat) : ae_Op := fun _ σ L k => match L[i]? with
  | some (some (.int x)) => some (σ, L, .int x :: k, np)
  | _ => none
def o_al (i : Nat) (np : Nat) : ae_Op := fun _ σ L k => match L[i]? with
  | some (some (.ref x)) => some (σ, L, .ref x :: k, np)
  | some (some .null) => some (σ, L, .null :: k, np)
  | some (some (.retAddr x)) => some (σ, L, .retAddr x :: k, np)
  | _ => none
def o_is (i : Nat) (np : Nat) : ae_Op := fun _ σ L k => match k with
  | .int x :: r => if i < L.length then some (σ, L.set i (some (.int x)), r, np) else none
  | _ => none
def o_as (i : Nat) (np : Nat) : ae_Op := fun _ σ L k => match k with
  | .ref x :: r => if i < L.length then some (σ, L.set i (some (.ref x)), r, np) else none
  | .null :: r => if i < L.length then some (σ, L.set i (some .null), r, np) else none
  | .retAddr x :: r => if i < L.length then some (σ, L.set i (some (.retAddr x)), r, np) else none
  | _ => none
def o_inc (i : Nat) (n : Int32) (np : Nat) : ae_Op := fun _ σ L k => match L[i]? with
  | some (some (.int x)) => some (σ, L.set i (some (.int (x + n))), k, np)
  | _ => none
def o_if (t : Int32 → Bool) (tg np : Nat) : ae_Op := fun _ σ L k => match k with
  | .int x :: r => some (σ, L, r, if t x then tg else np)
  | _ => none
def o_ic (t : Int32 → Int32 → Bool) (tg np : Nat) : ae_Op := fun _ σ L k => match k with
  | .int y :: .int x :: r => some (σ, L, r, if t x y then tg else np)
  | _ => none
def o_nul (tg np : Nat) : ae_Op := fun _ σ L k => match k with
  | .null :: r => some (σ, L, r, tg)
  | .ref _ :: r => some (σ, L, r, np)
  | _ => none
def o_goto (tg : Nat) : ae_Op := fun _ σ L k => some (σ, L, k, tg)
def o_sw (lo hi : Int) (tgs : List Nat) (df : Nat) : ae_Op := fun _ σ L k => match k with
  | .int x :: r => some (σ, L, r, if x.toInt < lo ∨ hi < x.toInt then df else tgs.getD (x.toInt - lo).toNat 0)
  | _ => none

def o_get (ci kk : Nat) (np : Nat) : ae_Op := fun _ σ L k => match k with
  | .ref p :: r => match σ.2[p]? with
    | some (.inr (cj, fs)) => if cj = ci then (match fs[kk]? with
      | some v => some (σ, L, v :: r, np)
      | none => none) else none
    | _ => none
  | _ => none
def o_put (ci kk : Nat) (ok : Value → Bool) (np : Nat) : ae_Op := fun _ σ L k => match k with
  | v :: .ref p :: r => match σ.2[p]? with
    | some (.inr (cj, fs)) => if cj = ci ∧ ok v = true ∧ kk < fs.length then some ((σ.1, σ.2.set p (.inr (cj, fs.set kk v))), L, r, np) else none
    | _ => none
  | _ => none
def k_int : Value → Bool
  | .int _ => true
  | _ => false
def k_bool : Value → Bool
  | .int x => x == 0 || x == 1
  | _ => false
def k_ref : Value → Bool
  | .ref _ => true
  | .null => true
  | _ => false
def o_ia (np : Nat) : ae_Op := fun ra σ L k => match k with
  | .int i :: .ref p :: r => match σ.2[p]? with
    | some (.inl (t, n, .inl f)) => if t = 0 ∧ ¬ (i < 0 ∨ n ≤ i.toNatClampNeg) then some (σ, L, .int (f i.toNatClampNeg) :: r, np) else none
    | _ => none
  | .int i :: .retAddr q :: r => if q < 4 ∧ ¬ (i < 0 ∨ (ra q).1 ≤ i.toNatClampNeg) then some (σ, L, .int ((ra q).2 i.toNatClampNeg) :: r, np) else none
  | _ => none
def o_ba (np : Nat) : ae_Op := fun _ σ L k => match k with
  | .int i :: .ref p :: r => match σ.2[p]? with
    | some (.inl (t, n, .inl f)) => if (t = 1 ∨ t = 2) ∧ ¬ (i < 0 ∨ n ≤ i.toNatClampNeg) then some (σ, L, .int (f i.toNatClampNeg) :: r, np) else none
    | _ => none
  | _ => none
def o_la (np : Nat) : ae_Op := fun _ σ L k => match k with
  | .int i :: .ref p :: r => match σ.2[p]? with
    | some (.inl (t, n, .inr (.inl f))) => if t = 3 ∧ ¬ (i < 0 ∨ n ≤ i.toNatClampNeg) then some (σ, L, .long (f i.toNatClampNeg) :: r, np) else none
    | _ => none
  | _ => none
def o_aa (np : Nat) : ae_Op := fun _ σ L k => match k with
  | .int i :: .ref p :: r => match σ.2[p]? with
    | some (.inl (t, n, .inr (.inr (.inr (.inr f))))) => if (4 ≤ t ∧ t < 10) ∧ ¬ (i < 0 ∨ n ≤ i.toNatClampNeg) then some (σ, L, va_rf (f i.toNatClampNeg) :: r, np) else none
    | _ => none
  | _ => none
def o_ias (np : Nat) : ae_Op := fun _ σ L k => match k with
  | .int x :: .int i :: .ref p :: r => match σ.2[p]? with
    | some (.inl (t, n, .inl f)) => if t = 0 ∧ ¬ (i < 0 ∨ n ≤ i.toNatClampNeg) then some ((σ.1, σ.2.set p (.inl (t, n, .inl (upd f i.toNatClampNeg x)))), L, r, np) else none
    | _ => none
  | _ => none
def o_bas (np : Nat) : ae_Op := fun _ σ L k => match k with
  | .int x :: .int i :: .ref p :: r => match σ.2[p]? with
    | some (.inl (t, n, .inl f)) => if ¬ (i < 0 ∨ n ≤ i.toNatClampNeg) then (if t = 1 then some ((σ.1, σ.2.set p (.inl (t, n, .inl (upd f i.toNatClampNeg (vp_nar .byte x))))), L, r, np) else if t = 2 then some ((σ.1, σ.2.set p (.inl (t, n, .inl (upd f i.toNatClampNeg (vp_nar .boolean x))))), L, r, np) else none) else none
    | _ => none
  | _ => none
def o_las (np : Nat) : ae_Op := fun _ σ L k => match k with
  | .long x :: .int i :: .ref p :: r => match σ.2[p]? with
    | some (.inl (t, n, .inr (.inl f))) => if t = 3 ∧ ¬ (i < 0 ∨ n ≤ i.toNatClampNeg) then some ((σ.1, σ.2.set p (.inl (t, n, .inr (.inl (vp_updL f i.toNatClampNeg x))))), L, r, np) else none
    | _ => none
  | _ => none
/-- the class of an array's elements -/
def ae_ec (t : Nat) : Nat := (aw_ec.getD (t - 4) 99)
def o_aas (np : Nat) : ae_Op := fun _ σ L k => match k with
  | .ref q :: .int i :: .ref p :: r => match σ.2[p]?, σ.2[q]? with
    | some (.inl (t, n, .inr (.inr (.inr (.inr f))))), some (.inr (ci, _)) => if (4 ≤ t ∧ t < 10 ∧ ci = ae_ec t) ∧ ¬ (i < 0 ∨ n ≤ i.toNatClampNeg) then some ((σ.1, σ.2.set p (.inl (t, n, .inr (.inr (.inr (.inr (va_up f i.toNatClampNeg (some q)))))))), L, r, np) else none
    | _, _ => none
  | .null :: .int i :: .ref p :: r => match σ.2[p]? with
    | some (.inl (t, n, .inr (.inr (.inr (.inr f))))) => if (4 ≤ t ∧ t < 10) ∧ ¬ (i < 0 ∨ n ≤ i.toNatClampNeg) then some ((σ.1, σ.2.set p (.inl (t, n, .inr (.inr (.inr (.inr (va_up f i.toNatClampNeg none))))))), L, r, np) else none
    | _ => none
  | _ => none
def o_len (np : Nat) : ae_Op := fun ra σ L k => match k with
  | .ref p :: r => match σ.2[p]? with
    | some (.inl (t, n, _)) => if t < 10 then some (σ, L, .int (Int32.ofNat n) :: r, np) else none
    | _ => none
  | .retAddr q :: r => if q < 4 then some (σ, L, .int (Int32.ofNat (ra q).1) :: r, np) else none
  | _ => none
def o_new (ci N : Nat) (fs : List Value) (np : Nat) : ae_Op := fun _ σ L k => some (((σ.1.1 + 1, σ.1.2 + N), σ.2 ++ [.inr (ci, fs)]), L, .ref σ.2.length :: k, np)
def ae_zero (t : Nat) (n : Nat) : vp_A := (n, if t = 3 then .inr (.inl (fun _ => 0)) else .inl (fun _ => 0))
def o_na (t : Nat) (np : Nat) : ae_Op := fun _ σ L k => match k with
  | .int i :: r => if ¬ i < 0 ∧ i.toNatClampNeg * 8 ≤ 536870912 then some (((σ.1.1 + 1, σ.1.2 + i.toNatClampNeg), σ.2 ++ [.inl (t, ae_zero t i.toNatClampNeg)]), L, .ref σ.2.length :: r, np) else none
  | _ => none
def o_nq (t : Nat) (np : Nat) : ae_Op := fun _ σ L k => match k with
  | .int i :: r => if ¬ i < 0 ∧ i.toNatClampNeg * 8 ≤ 536870912 then some (((σ.1.1 + 1, σ.1.2 + i.toNatClampNeg), σ.2 ++ [.inl (t, i.toNatClampNeg, .inr (.inr (.inr (.inr (fun _ => none)))))]), L, .ref σ.2.length :: r, np) else none
  | _ => none
def ae_cat (k : List Value) : Nat := (k.map fun v => v.category).sum
def o_oi (np : Nat) : ae_Op := fun _ σ L k => match k with
  | .ref _ :: r => if ae_cat r ≤ 8 then some (σ, L, r, np) else none
  | _ => none
def o_mn (np : Nat) : ae_Op := fun _ σ L k => match k with
  | .int y :: .int x :: r => if ae_cat r ≤ 8 then some (σ, L, .int (if y < x then y else x) :: r, np) else none
  | _ => none
def o_mx (np : Nat) : ae_Op := fun _ σ L k => match k with
  | .int y :: .int x :: r => if ae_cat r ≤ 8 then some (σ, L, .int (if x < y then y else x) :: r, np) else none
  | _ => none
def o_cp (np : Nat) : ae_Op := fun _ σ L k => match k with
  | .int n :: .int dp :: .ref p :: .int sp :: .ref q :: r => match σ.2[q]?, σ.2[p]? with
    | some (.inl (t0, n0, .inl f)), some (.inl (t1, n1, .inl g)) => if (t0 = 1 ∧ t1 = 1 ∧ ae_cat r ≤ 8) ∧ (¬ sp < 0 ∧ ¬ dp < 0 ∧ ¬ n < 0) ∧ sp.toNatClampNeg + n.toNatClampNeg ≤ n0 ∧ dp.toNatClampNeg + n.toNatClampNeg ≤ n1 ∧ (∀ i, i < n.toNatClampNeg → fits .byte (.int (f (sp.toNatClampNeg + i))) = true) then some ((σ.1, σ.2.set p (.inl (t1, n1, .inl (va_cpy f g sp.toNatClampNeg dp.toNatClampNeg n.toNatClampNeg)))), L, r, np) else none
    | _, _ => none
  | _ => none

end AE
section AEP
theorem ck_c {n : Nat} {v : Value} {k : List Value} (hv : ae_cv n v) (hk : ae_ck n k) : ae_ck n (v :: k) := fun u hu => (List.mem_cons.mp hu).elim (fun z => z ▸ hv) (hk u)
theorem ck_t {n : Nat} {v : Value} {k : List Value} (h : ae_ck n (v :: k)) : ae_ck n k := fun u hu => h u (List.mem_cons_of_mem _ hu)
theorem ck_h {n : Nat} {v : Value} {k : List Value} (h : ae_ck n (v :: k)) : ae_cv n v := h v List.mem_cons_self
theorem cL_set {n i : Nat} {L : ae_Ls} {v : Value} (h : ae_cL n L) (hv : ae_cv n v) (hc : v.category = 1) : ae_cL n (L.set i (some v)) := by
  intro j u hj
  rw [List.getElem?_set] at hj
  by_cases hji : i = j
  · subst hji
    simp only [if_true] at hj
    split at hj
    · cases hj
      exact ⟨hv, hc⟩
    · cases hj
  · rw [if_neg hji] at hj
    exact h j u hj
theorem cL_none {n i : Nat} {L : ae_Ls} (h : ae_cL n L) : ae_cL n (L.set i none) := by
  intro j u hj
  rw [List.getElem?_set] at hj
  by_cases hji : i = j
  · subst hji
    simp only [if_true] at hj
    split at hj <;> cases hj
  · rw [if_neg hji] at hj
    exact h j u hj
theorem cs_set {σ : ae_S} {q : Nat} {x : ae_C} (h : ae_cs σ) (hx : ae_cc σ.2.length x) : ae_cs (σ.1, σ.2.set q x) := by
  intro y hy
  simp only [List.length_set]
  rcases List.mem_or_eq_of_mem_set hy with h1 | h1
  · exact h y h1
  · exact h1 ▸ hx
theorem cs_push {σ : ae_S} {a b : Nat} {x : ae_C} (h : ae_cs σ) (hx : ae_cc σ.2.length x) : ae_cs ((a, b), σ.2 ++ [x]) := by
  intro y hy
  simp only [List.length_append, List.length_singleton]
  rcases List.mem_append.mp hy with h1 | h1
  · exact ae_cc_mono (Nat.le_succ _) (h y h1)
  · rw [List.mem_singleton.mp h1]
    exact ae_cc_mono (Nat.le_succ _) hx
theorem pu_st {σ : ae_S} {L : ae_Ls} {k k' : List Value} (hcl : ae_cl σ L k) (h : ae_ck σ.2.length k → ae_ck σ.2.length k') : ae_cl σ L k' ∧ σ.1.1 ≤ σ.1.1 ∧ σ.1.2 ≤ σ.1.2 ∧ σ.2.length ≤ σ.2.length :=
  ⟨⟨hcl.1, hcl.2.1, h hcl.2.2⟩, Nat.le_refl _, Nat.le_refl _, Nat.le_refl _⟩
theorem pu_se {σ : ae_S} {L : ae_Ls} {k k' : List Value} {q : Nat} {x : ae_C} (hcl : ae_cl σ L k) (hx : ae_cc σ.2.length x) (h : ae_ck σ.2.length k → ae_ck σ.2.length k') : ae_cl (σ.1, σ.2.set q x) L k' ∧ σ.1.1 ≤ σ.1.1 ∧ σ.1.2 ≤ σ.1.2 ∧ σ.2.length ≤ (σ.2.set q x).length :=
  ⟨⟨cs_set hcl.1 hx, by simpa using hcl.2.1, by simpa using h hcl.2.2⟩, Nat.le_refl _, Nat.le_refl _, by simp⟩
theorem pu_pu {σ : ae_S} {L : ae_Ls} {k k' : List Value} {N : Nat} {x : ae_C} (hcl : ae_cl σ L k) (hx : ae_cc σ.2.length x) (h : ae_ck σ.2.length k → ae_ck σ.2.length k') : ae_cl ((σ.1.1 + 1, σ.1.2 + N), σ.2 ++ [x]) L (.ref σ.2.length :: k') ∧ σ.1.1 ≤ σ.1.1 + 1 ∧ σ.1.2 ≤ σ.1.2 + N ∧ σ.2.length ≤ (σ.2 ++ [x]).length :=
  ⟨⟨cs_push hcl.1 hx, by simpa using ae_cL_mono (Nat.le_succ _) hcl.2.1, by simpa using ck_c (show ae_cv (σ.2.length + 1) (.ref σ.2.length) from Nat.lt_succ_self _) (ae_ck_mono (Nat.le_succ _) (h hcl.2.2))⟩, by omega, by omega, by simp⟩

theorem pu_push {v : Value} {np : Nat} (hv : ∀ n, ae_cv n v) : ae_Pu (o_push v np) := by
  intro ra σ L k σ' L' k' pc' h hcl
  simp only [o_push] at h
  cases h
  exact pu_st hcl (fun hk => ck_c (hv _) hk)
theorem pu_bin {f : Int32 → Int32 → Int32} {np : Nat} : ae_Pu (o_bin f np) := by
  intro ra σ L k σ' L' k' pc' h hcl
  simp only [o_bin] at h
  repeat' split at h
  all_goals first | (cases h; done) | (cases h; exact pu_st hcl (fun hk => ck_c trivial (ck_t (ck_t hk))))
theorem pu_dv {f : Int32 → Int32 → Int32} {np : Nat} : ae_Pu (o_dv f np) := by
  intro ra σ L k σ' L' k' pc' h hcl
  simp only [o_dv] at h
  repeat' split at h
  all_goals first | (cases h; done) | (cases h; exact pu_st hcl (fun hk => ck_c trivial (ck_t (ck_t hk))))
theorem pu_un {f : Int32 → Int32} {np : Nat} : ae_Pu (o_un f np) := by
  intro ra σ L k σ' L' k' pc' h hcl
  simp only [o_un] at h
  repeat' split at h
  all_goals first | (cases h; done) | (cases h; exact pu_st hcl (fun hk => ck_c trivial (ck_t hk)))
theorem pu_i2l {np : Nat} : ae_Pu (o_i2l np) := by
  intro ra σ L k σ' L' k' pc' h hcl
  simp only [o_i2l] at h
  repeat' split at h
  all_goals first | (cases h; done) | (cases h; exact pu_st hcl (fun hk => ck_c trivial (ck_t hk)))
theorem pu_lcmp {np : Nat} : ae_Pu (o_lcmp np) := by
  intro ra σ L k σ' L' k' pc' h hcl
  simp only [o_lcmp] at h
  repeat' split at h
  all_goals first | (cases h; done) | (cases h; exact pu_st hcl (fun hk => ck_c trivial (ck_t (ck_t hk))))
theorem pu_dup {np : Nat} : ae_Pu (o_dup np) := by
  intro ra σ L k σ' L' k' pc' h hcl
  simp only [o_dup] at h
  repeat' split at h
  all_goals first | (cases h; done) | (cases h; exact pu_st hcl (fun hk => ck_c (ck_h hk) hk))
theorem pu_dup2 {np : Nat} : ae_Pu (o_dup2 np) := by
  intro ra σ L k σ' L' k' pc' h hcl
  simp only [o_dup2] at h
  repeat' split at h
  all_goals first | (cases h; done) | (cases h; exact pu_st hcl (fun hk => ck_c (ck_h hk) (ck_c (ck_h (ck_t hk)) hk)))
theorem pu_dupx1 {np : Nat} : ae_Pu (o_dupx1 np) := by
  intro ra σ L k σ' L' k' pc' h hcl
  simp only [o_dupx1] at h
  repeat' split at h
  all_goals first | (cases h; done) | (cases h; exact pu_st hcl (fun hk => ck_c (ck_h hk) (ck_c (ck_h (ck_t hk)) (ck_c (ck_h hk) (ck_t (ck_t hk))))))
theorem pu_pop {np : Nat} : ae_Pu (o_pop np) := by
  intro ra σ L k σ' L' k' pc' h hcl
  simp only [o_pop] at h
  repeat' split at h
  all_goals first | (cases h; done) | (cases h; exact pu_st hcl (fun hk => ck_t hk))
theorem pu_il {i np : Nat} : ae_Pu (o_il i np) := by
  intro ra σ L k σ' L' k' pc' h hcl
  simp only [o_il] at h
  repeat' split at h
  all_goals first | (cases h; done) | (cases h; exact pu_st hcl (fun hk => ck_c trivial hk))
theorem pu_al {i np : Nat} : ae_Pu (o_al i np) := by
  intro ra σ L k σ' L' k' pc' h hcl
  simp only [o_al] at h
  repeat' split at h
  all_goals first | (cases h; done) | (cases h; exact pu_st hcl (fun hk => ck_c (hcl.2.1 _ _ (by assumption)).1 hk))
theorem pu_is {i np : Nat} : ae_Pu (o_is i np) := by
  intro ra σ L k σ' L' k' pc' h hcl
  simp only [o_is] at h
  repeat' split at h
  all_goals first | (cases h; done) | (cases h; exact ⟨⟨hcl.1, cL_set hcl.2.1 trivial rfl, ck_t hcl.2.2⟩, Nat.le_refl _, Nat.le_refl _, Nat.le_refl _⟩)
theorem pu_as {i np : Nat} : ae_Pu (o_as i np) := by
  intro ra σ L k σ' L' k' pc' h hcl
  simp only [o_as] at h
  repeat' split at h
  all_goals first | (cases h; done) | (cases h; exact ⟨⟨hcl.1, cL_set hcl.2.1 (ck_h hcl.2.2) rfl, ck_t hcl.2.2⟩, Nat.le_refl _, Nat.le_refl _, Nat.le_refl _⟩)
theorem pu_inc {i : Nat} {n : Int32} {np : Nat} : ae_Pu (o_inc i n np) := by
  intro ra σ L k σ' L' k' pc' h hcl
  simp only [o_inc] at h
  repeat' split at h
  all_goals first | (cases h; done) | (cases h; exact ⟨⟨hcl.1, cL_set hcl.2.1 trivial rfl, hcl.2.2⟩, Nat.le_refl _, Nat.le_refl _, Nat.le_refl _⟩)
theorem pu_if {t : Int32 → Bool} {tg np : Nat} : ae_Pu (o_if t tg np) := by
  intro ra σ L k σ' L' k' pc' h hcl
  simp only [o_if] at h
  split at h
  all_goals first | (cases h; done) | (cases h; exact pu_st hcl (fun hk => ck_t hk))
theorem pu_ic {t : Int32 → Int32 → Bool} {tg np : Nat} : ae_Pu (o_ic t tg np) := by
  intro ra σ L k σ' L' k' pc' h hcl
  simp only [o_ic] at h
  split at h
  all_goals first | (cases h; done) | (cases h; exact pu_st hcl (fun hk => ck_t (ck_t hk)))
theorem pu_sw {lo hi : Int} {tgs : List Nat} {df : Nat} : ae_Pu (o_sw lo hi tgs df) := by
  intro ra σ L k σ' L' k' pc' h hcl
  simp only [o_sw] at h
  split at h
  all_goals first | (cases h; done) | (cases h; exact pu_st hcl (fun hk => ck_t hk))
theorem pu_nul {tg np : Nat} : ae_Pu (o_nul tg np) := by
  intro ra σ L k σ' L' k' pc' h hcl
  simp only [o_nul] at h
  repeat' split at h
  all_goals first | (cases h; done) | (cases h; exact pu_st hcl (fun hk => ck_t hk))
theorem pu_goto {tg : Nat} : ae_Pu (o_goto tg) := by
  intro ra σ L k σ' L' k' pc' h hcl
  simp only [o_goto] at h
  cases h
  exact pu_st hcl (fun hk => hk)
theorem cs_o {σ : ae_S} {p cj : Nat} {fs : List Value} (h : ae_cs σ) (hp : σ.2[p]? = some (.inr (cj, fs))) : ∀ v ∈ fs, ae_cv σ.2.length v := h _ (List.mem_of_getElem? hp)
theorem cs_q {σ : ae_S} {p t n : Nat} {f : Nat → Option Nat} (h : ae_cs σ) (hp : σ.2[p]? = some (.inl (t, n, .inr (.inr (.inr (.inr f)))))) : ∀ i p, f i = some p → p < σ.2.length := h _ (List.mem_of_getElem? hp)
theorem pu_get {ci kk np : Nat} : ae_Pu (o_get ci kk np) := by
  intro ra σ L k σ' L' k' pc' h hcl
  simp only [o_get] at h
  repeat' split at h
  all_goals first | (cases h; done) | (cases h; exact pu_st hcl (fun hk => ck_c (cs_o hcl.1 (by assumption) _ (List.mem_of_getElem? (by assumption))) (ck_t hk)))
theorem ck_fs {n i : Nat} {fs : List Value} {v : Value} (h : ∀ u ∈ fs, ae_cv n u) (hv : ae_cv n v) : ∀ u ∈ fs.set i v, ae_cv n u := fun u hu => by
  rcases List.mem_or_eq_of_mem_set hu with h1 | h1
  · exact h u h1
  · exact h1 ▸ hv
theorem pu_put {ci kk : Nat} {ok : Value → Bool} {np : Nat} : ae_Pu (o_put ci kk ok np) := by
  intro ra σ L k σ' L' k' pc' h hcl
  simp only [o_put] at h
  repeat' split at h
  all_goals first | (cases h; done) | (cases h; exact pu_se hcl (ck_fs (cs_o hcl.1 (by assumption)) (ck_h hcl.2.2)) (fun hk => ck_t (ck_t hk)))
theorem pu_ia {np : Nat} : ae_Pu (o_ia np) := by
  intro ra σ L k σ' L' k' pc' h hcl
  simp only [o_ia] at h
  repeat' split at h
  all_goals first | (cases h; done) | (cases h; exact pu_st hcl (fun hk => ck_c trivial (ck_t (ck_t hk))))
theorem pu_ba {np : Nat} : ae_Pu (o_ba np) := by
  intro ra σ L k σ' L' k' pc' h hcl
  simp only [o_ba] at h
  repeat' split at h
  all_goals first | (cases h; done) | (cases h; exact pu_st hcl (fun hk => ck_c trivial (ck_t (ck_t hk))))
theorem pu_la {np : Nat} : ae_Pu (o_la np) := by
  intro ra σ L k σ' L' k' pc' h hcl
  simp only [o_la] at h
  repeat' split at h
  all_goals first | (cases h; done) | (cases h; exact pu_st hcl (fun hk => ck_c trivial (ck_t (ck_t hk))))
theorem ck_rf {n : Nat} {f : Nat → Option Nat} (h : ∀ i p, f i = some p → p < n) (i : Nat) : ae_cv n (va_rf (f i)) := by
  cases hf : f i with
  | none => trivial
  | some p => exact h i p hf
theorem ck_up {n q : Nat} {f : Nat → Option Nat} {j : Nat} {o : Option Nat} (h : ∀ i p, f i = some p → p < n) (ho : ∀ q, o = some q → q < n) : ∀ i p, va_up f j o i = some p → p < n := by
  intro i p hp
  unfold va_up at hp
  split at hp
  · exact ho p hp
  · exact h i p hp
theorem pu_aa {np : Nat} : ae_Pu (o_aa np) := by
  intro ra σ L k σ' L' k' pc' h hcl
  simp only [o_aa] at h
  repeat' split at h
  all_goals first | (cases h; done) | (cases h; exact pu_st hcl (fun hk => ck_c (ck_rf (cs_q hcl.1 (by assumption)) _) (ck_t (ck_t hk))))
theorem pu_ias {np : Nat} : ae_Pu (o_ias np) := by
  intro ra σ L k σ' L' k' pc' h hcl
  simp only [o_ias] at h
  repeat' split at h
  all_goals first | (cases h; done) | (cases h; exact pu_se hcl (trivial) (fun hk => ck_t (ck_t (ck_t hk))))
theorem pu_bas {np : Nat} : ae_Pu (o_bas np) := by
  intro ra σ L k σ' L' k' pc' h hcl
  simp only [o_bas] at h
  repeat' split at h
  all_goals first | (cases h; done) | (cases h; exact pu_se hcl (trivial) (fun hk => ck_t (ck_t (ck_t hk))))
theorem pu_las {np : Nat} : ae_Pu (o_las np) := by
  intro ra σ L k σ' L' k' pc' h hcl
  simp only [o_las] at h
  repeat' split at h
  all_goals first | (cases h; done) | (cases h; exact pu_se hcl (trivial) (fun hk => ck_t (ck_t (ck_t hk))))
theorem pu_aas {np : Nat} : ae_Pu (o_aas np) := by
  intro ra σ L k σ' L' k' pc' h hcl
  simp only [o_aas] at h
  repeat' split at h
  all_goals first | (cases h; done) | (cases h; exact pu_se hcl (ck_up (q := 0) (cs_q hcl.1 (by assumption)) (fun q hq => by first | (cases hq; done) | (cases hq; exact ck_h hcl.2.2))) (fun hk => ck_t (ck_t (ck_t hk))))
theorem pu_len {np : Nat} : ae_Pu (o_len np) := by
  intro ra σ L k σ' L' k' pc' h hcl
  simp only [o_len] at h
  repeat' split at h
  all_goals first | (cases h; done) | (cases h; exact pu_st hcl (fun hk => ck_c trivial (ck_t hk)))
theorem pu_new {ci N : Nat} {fs : List Value} {np : Nat} (hf : ∀ n, ∀ v ∈ fs, ae_cv n v) : ae_Pu (o_new ci N fs np) := by
  intro ra σ L k σ' L' k' pc' h hcl
  simp only [o_new] at h
  cases h
  exact pu_pu hcl (hf _) (fun hk => hk)
theorem cc_zero (t n m : Nat) : ae_cc m (.inl (t, ae_zero t n)) := by
  unfold ae_zero
  split <;> trivial
theorem pu_na {t np : Nat} : ae_Pu (o_na t np) := by
  intro ra σ L k σ' L' k' pc' h hcl
  simp only [o_na] at h
  repeat' split at h
  all_goals first | (cases h; done) | (cases h; exact pu_pu hcl (cc_zero _ _ _) (fun hk => ck_t hk))
theorem pu_nq {t np : Nat} : ae_Pu (o_nq t np) := by
  intro ra σ L k σ' L' k' pc' h hcl
  simp only [o_nq] at h
  repeat' split at h
  all_goals first | (cases h; done) | (cases h; exact pu_pu hcl (fun i p hp => by cases hp) (fun hk => ck_t hk))
theorem pu_oi {np : Nat} : ae_Pu (o_oi np) := by
  intro ra σ L k σ' L' k' pc' h hcl
  simp only [o_oi] at h
  repeat' split at h
  all_goals first | (cases h; done) | (cases h; exact pu_st hcl (fun hk => ck_t hk))
theorem pu_mn {np : Nat} : ae_Pu (o_mn np) := by
  intro ra σ L k σ' L' k' pc' h hcl
  simp only [o_mn] at h
  split at h
  · split at h
    · cases h
      exact pu_st hcl (fun hk => ck_c trivial (ck_t (ck_t hk)))
    · cases h
  · cases h
theorem pu_mx {np : Nat} : ae_Pu (o_mx np) := by
  intro ra σ L k σ' L' k' pc' h hcl
  simp only [o_mx] at h
  split at h
  · split at h
    · cases h
      exact pu_st hcl (fun hk => ck_c trivial (ck_t (ck_t hk)))
    · cases h
  · cases h
theorem pu_cp {np : Nat} : ae_Pu (o_cp np) := by
  intro ra σ L k σ' L' k' pc' h hcl
  simp only [o_cp] at h
  repeat' split at h
  all_goals first | (cases h; done) | (cases h; exact pu_se hcl (trivial) (fun hk => ck_t (ck_t (ck_t (ck_t (ck_t hk))))))
end AEP
section AEM
variable {p : Program} {l : Launch} {e : Env} {R : Room} {s : State} {m : MethodId} {args : Array Value} {below : List Frame} {meth : Method} {c : Code} {Q : State → Prop}
variable {D : va_G} {dA : Nat → ClassId} {ro : Nat → Nat} {A : Nat → Prop} {nL : Nat} {B : Nat × Nat} {ad0 : Nat → Nat} {n0 : Nat}
variable {ra : Nat → Nat × (Nat → Int32)} {own nm : String} {cc : ByteArray} {ret : Option FieldType} {KF SF d : Nat} {pc : Nat} {hd : List (Nat × Nat × Nat × Nat)}
theorem ok_iconst (X : ae_X p l e R s m args below meth c D dA ro A B ra own nm cc nL ret KF SF d hd) {n : Int} {v : Int32} (hv : Int32.ofInt n = v) (hdg : decode cc pc = .ok (.iconst n, 1)) : ae_Ok p l e R s m args below meth c Q D dA ro A nL B ad0 n0 ra KF SF pc (o_push (.int v) (pc + 1)) := by
  obtain ⟨hx, hb, hml, hown, hts, hr, hlk, hnm, hK, hRO, hA, hfr, hlo, hKF, hSF, hxt, hst⟩ := X
  intro σ L k σ' L' k' pc' h hcl hn0 hF G ad H locs cells slots ls hP hD hS hc hs hl had
  simp only [o_push] at h
  cases h
  exact lv_iconst hx hb hdg hv (G ad H locs cells slots ls hP hD hS hc hs hl had)
theorem ok_bipush (X : ae_X p l e R s m args below meth c D dA ro A B ra own nm cc nL ret KF SF d hd) {n : Int} {v : Int32} (hv : (Int8.ofInt n).toInt32 = v) (hdg : decode cc pc = .ok (.bipush n, 2)) : ae_Ok p l e R s m args below meth c Q D dA ro A nL B ad0 n0 ra KF SF pc (o_push (.int v) (pc + 2)) := by
  obtain ⟨hx, hb, hml, hown, hts, hr, hlk, hnm, hK, hRO, hA, hfr, hlo, hKF, hSF, hxt, hst⟩ := X
  intro σ L k σ' L' k' pc' h hcl hn0 hF G ad H locs cells slots ls hP hD hS hc hs hl had
  simp only [o_push] at h
  cases h
  exact lv_bipush hx hb hdg hv (G ad H locs cells slots ls hP hD hS hc hs hl had)
theorem ok_sipush (X : ae_X p l e R s m args below meth c D dA ro A B ra own nm cc nL ret KF SF d hd) {n : Int} {v : Int32} (hv : (Int16.ofInt n).toInt32 = v) (hdg : decode cc pc = .ok (.sipush n, 3)) : ae_Ok p l e R s m args below meth c Q D dA ro A nL B ad0 n0 ra KF SF pc (o_push (.int v) (pc + 3)) := by
  obtain ⟨hx, hb, hml, hown, hts, hr, hlk, hnm, hK, hRO, hA, hfr, hlo, hKF, hSF, hxt, hst⟩ := X
  intro σ L k σ' L' k' pc' h hcl hn0 hF G ad H locs cells slots ls hP hD hS hc hs hl had
  simp only [o_push] at h
  cases h
  exact lv_sipush hx hb hdg hv (G ad H locs cells slots ls hP hD hS hc hs hl had)
theorem ok_ldc (X : ae_X p l e R s m args below meth c D dA ro A B ra own nm cc nL ret KF SF d hd) {index : Nat} {v : Int32} (hw : Jvm.Cond.constant own index v ∈ aw_all) (hdg : decode cc pc = .ok (.ldc index, 2)) : ae_Ok p l e R s m args below meth c Q D dA ro A nL B ad0 n0 ra KF SF pc (o_push (.int v) (pc + 2)) := by
  obtain ⟨hx, hb, hml, hown, hts, hr, hlk, hnm, hK, hRO, hA, hfr, hlo, hKF, hSF, hxt, hst⟩ := X
  intro σ L k σ' L' k' pc' h hcl hn0 hF G ad H locs cells slots ls hP hD hS hc hs hl had
  simp only [o_push] at h
  cases h
  exact lv_ldc hx hb hown (hts _ hw) hdg (G ad H locs cells slots ls hP hD hS hc hs hl had)
theorem ok_null (X : ae_X p l e R s m args below meth c D dA ro A B ra own nm cc nL ret KF SF d hd)  (hdg : decode cc pc = .ok (.aconst_null, 1)) : ae_Ok p l e R s m args below meth c Q D dA ro A nL B ad0 n0 ra KF SF pc (o_push .null (pc + 1)) := by
  obtain ⟨hx, hb, hml, hown, hts, hr, hlk, hnm, hK, hRO, hA, hfr, hlo, hKF, hSF, hxt, hst⟩ := X
  intro σ L k σ' L' k' pc' h hcl hn0 hF G ad H locs cells slots ls hP hD hS hc hs hl had
  simp only [o_push] at h
  cases h
  exact lv_null hx hb hdg (G ad H locs cells slots ls hP hD hS hc hs hl had)
theorem ok_iadd (X : ae_X p l e R s m args below meth c D dA ro A B ra own nm cc nL ret KF SF d hd)  (hdg : decode cc pc = .ok (.iadd, 1)) : ae_Ok p l e R s m args below meth c Q D dA ro A nL B ad0 n0 ra KF SF pc (o_bin (fun x y => x + y) (pc + 1)) := by
  obtain ⟨hx, hb, hml, hown, hts, hr, hlk, hnm, hK, hRO, hA, hfr, hlo, hKF, hSF, hxt, hst⟩ := X
  intro σ L k σ' L' k' pc' h hcl hn0 hF G ad H locs cells slots ls hP hD hS hc hs hl had
  simp only [o_bin] at h
  split at h
  · cases h
    exact lv_iadd hx hb hdg (G ad H locs cells slots ls hP hD hS hc hs hl had)
  · cases h
theorem ok_isub (X : ae_X p l e R s m args below meth c D dA ro A B ra own nm cc nL ret KF SF d hd)  (hdg : decode cc pc = .ok (.isub, 1)) : ae_Ok p l e R s m args below meth c Q D dA ro A nL B ad0 n0 ra KF SF pc (o_bin (fun x y => x - y) (pc + 1)) := by
  obtain ⟨hx, hb, hml, hown, hts, hr, hlk, hnm, hK, hRO, hA, hfr, hlo, hKF, hSF, hxt, hst⟩ := X
  intro σ L k σ' L' k' pc' h hcl hn0 hF G ad H locs cells slots ls hP hD hS hc hs hl had
  simp only [o_bin] at h
  split at h
  · cases h
    exact lv_isub hx hb hdg (G ad H locs cells slots ls hP hD hS hc hs hl had)
  · cases h
theorem ok_imul (X : ae_X p l e R s m args below meth c D dA ro A B ra own nm cc nL ret KF SF d hd)  (hdg : decode cc pc = .ok (.imul, 1)) : ae_Ok p l e R s m args below meth c Q D dA ro A nL B ad0 n0 ra KF SF pc (o_bin (fun x y => x * y) (pc + 1)) := by
  obtain ⟨hx, hb, hml, hown, hts, hr, hlk, hnm, hK, hRO, hA, hfr, hlo, hKF, hSF, hxt, hst⟩ := X
  intro σ L k σ' L' k' pc' h hcl hn0 hF G ad H locs cells slots ls hP hD hS hc hs hl had
  simp only [o_bin] at h
  split at h
  · cases h
    exact lv_imul hx hb hdg (G ad H locs cells slots ls hP hD hS hc hs hl had)
  · cases h
theorem ok_iand (X : ae_X p l e R s m args below meth c D dA ro A B ra own nm cc nL ret KF SF d hd)  (hdg : decode cc pc = .ok (.iand, 1)) : ae_Ok p l e R s m args below meth c Q D dA ro A nL B ad0 n0 ra KF SF pc (o_bin (fun x y => x &&& y) (pc + 1)) := by
  obtain ⟨hx, hb, hml, hown, hts, hr, hlk, hnm, hK, hRO, hA, hfr, hlo, hKF, hSF, hxt, hst⟩ := X
  intro σ L k σ' L' k' pc' h hcl hn0 hF G ad H locs cells slots ls hP hD hS hc hs hl had
  simp only [o_bin] at h
  split at h
  · cases h
    exact lv_iand hx hb hdg (G ad H locs cells slots ls hP hD hS hc hs hl had)
  · cases h
theorem ok_ior (X : ae_X p l e R s m args below meth c D dA ro A B ra own nm cc nL ret KF SF d hd)  (hdg : decode cc pc = .ok (.ior, 1)) : ae_Ok p l e R s m args below meth c Q D dA ro A nL B ad0 n0 ra KF SF pc (o_bin (fun x y => x ||| y) (pc + 1)) := by
  obtain ⟨hx, hb, hml, hown, hts, hr, hlk, hnm, hK, hRO, hA, hfr, hlo, hKF, hSF, hxt, hst⟩ := X
  intro σ L k σ' L' k' pc' h hcl hn0 hF G ad H locs cells slots ls hP hD hS hc hs hl had
  simp only [o_bin] at h
  split at h
  · cases h
    exact lv_ior hx hb hdg (G ad H locs cells slots ls hP hD hS hc hs hl had)
  · cases h
theorem ok_ixor (X : ae_X p l e R s m args below meth c D dA ro A B ra own nm cc nL ret KF SF d hd)  (hdg : decode cc pc = .ok (.ixor, 1)) : ae_Ok p l e R s m args below meth c Q D dA ro A nL B ad0 n0 ra KF SF pc (o_bin (fun x y => x ^^^ y) (pc + 1)) := by
  obtain ⟨hx, hb, hml, hown, hts, hr, hlk, hnm, hK, hRO, hA, hfr, hlo, hKF, hSF, hxt, hst⟩ := X
  intro σ L k σ' L' k' pc' h hcl hn0 hF G ad H locs cells slots ls hP hD hS hc hs hl had
  simp only [o_bin] at h
  split at h
  · cases h
    exact lv_ixor hx hb hdg (G ad H locs cells slots ls hP hD hS hc hs hl had)
  · cases h
theorem ok_ishl (X : ae_X p l e R s m args below meth c D dA ro A B ra own nm cc nL ret KF SF d hd)  (hdg : decode cc pc = .ok (.ishl, 1)) : ae_Ok p l e R s m args below meth c Q D dA ro A nL B ad0 n0 ra KF SF pc (o_bin (fun x y => x <<< (y &&& 31)) (pc + 1)) := by
  obtain ⟨hx, hb, hml, hown, hts, hr, hlk, hnm, hK, hRO, hA, hfr, hlo, hKF, hSF, hxt, hst⟩ := X
  intro σ L k σ' L' k' pc' h hcl hn0 hF G ad H locs cells slots ls hP hD hS hc hs hl had
  simp only [o_bin] at h
  split at h
  · cases h
    exact lv_ishl hx hb hdg (G ad H locs cells slots ls hP hD hS hc hs hl had)
  · cases h
theorem ok_ishr (X : ae_X p l e R s m args below meth c D dA ro A B ra own nm cc nL ret KF SF d hd)  (hdg : decode cc pc = .ok (.ishr, 1)) : ae_Ok p l e R s m args below meth c Q D dA ro A nL B ad0 n0 ra KF SF pc (o_bin (fun x y => x >>> (y &&& 31)) (pc + 1)) := by
  obtain ⟨hx, hb, hml, hown, hts, hr, hlk, hnm, hK, hRO, hA, hfr, hlo, hKF, hSF, hxt, hst⟩ := X
  intro σ L k σ' L' k' pc' h hcl hn0 hF G ad H locs cells slots ls hP hD hS hc hs hl had
  simp only [o_bin] at h
  split at h
  · cases h
    exact lv_ishr hx hb hdg (G ad H locs cells slots ls hP hD hS hc hs hl had)
  · cases h
theorem ok_iushr (X : ae_X p l e R s m args below meth c D dA ro A B ra own nm cc nL ret KF SF d hd)  (hdg : decode cc pc = .ok (.iushr, 1)) : ae_Ok p l e R s m args below meth c Q D dA ro A nL B ad0 n0 ra KF SF pc (o_bin (fun x y => (x.toUInt32 >>> (y.toUInt32 &&& Int32.toUInt32 31)).toInt32) (pc + 1)) := by
  obtain ⟨hx, hb, hml, hown, hts, hr, hlk, hnm, hK, hRO, hA, hfr, hlo, hKF, hSF, hxt, hst⟩ := X
  intro σ L k σ' L' k' pc' h hcl hn0 hF G ad H locs cells slots ls hP hD hS hc hs hl had
  simp only [o_bin] at h
  split at h
  · cases h
    exact lv_iushr hx hb hdg rfl (G ad H locs cells slots ls hP hD hS hc hs hl had)
  · cases h
theorem ok_idiv (X : ae_X p l e R s m args below meth c D dA ro A B ra own nm cc nL ret KF SF d hd)  (hdg : decode cc pc = .ok (.idiv, 1)) : ae_Ok p l e R s m args below meth c Q D dA ro A nL B ad0 n0 ra KF SF pc (o_dv (fun x y => x / y) (pc + 1)) := by
  obtain ⟨hx, hb, hml, hown, hts, hr, hlk, hnm, hK, hRO, hA, hfr, hlo, hKF, hSF, hxt, hst⟩ := X
  intro σ L k σ' L' k' pc' h hcl hn0 hF G ad H locs cells slots ls hP hD hS hc hs hl had
  simp only [o_dv] at h
  split at h
  · split at h
    · cases h
    · cases h
      exact lv_idiv hx hb hdg (by assumption) (G ad H locs cells slots ls hP hD hS hc hs hl had)
  · cases h
theorem ok_irem (X : ae_X p l e R s m args below meth c D dA ro A B ra own nm cc nL ret KF SF d hd)  (hdg : decode cc pc = .ok (.irem, 1)) : ae_Ok p l e R s m args below meth c Q D dA ro A nL B ad0 n0 ra KF SF pc (o_dv (fun x y => x - x / y * y) (pc + 1)) := by
  obtain ⟨hx, hb, hml, hown, hts, hr, hlk, hnm, hK, hRO, hA, hfr, hlo, hKF, hSF, hxt, hst⟩ := X
  intro σ L k σ' L' k' pc' h hcl hn0 hF G ad H locs cells slots ls hP hD hS hc hs hl had
  simp only [o_dv] at h
  split at h
  · split at h
    · cases h
    · cases h
      exact lv_irem hx hb hdg (by assumption) (G ad H locs cells slots ls hP hD hS hc hs hl had)
  · cases h
theorem ok_i2b (X : ae_X p l e R s m args below meth c D dA ro A B ra own nm cc nL ret KF SF d hd)  (hdg : decode cc pc = .ok (.i2b, 1)) : ae_Ok p l e R s m args below meth c Q D dA ro A nL B ad0 n0 ra KF SF pc (o_un (fun x => x.toInt8.toInt32) (pc + 1)) := by
  obtain ⟨hx, hb, hml, hown, hts, hr, hlk, hnm, hK, hRO, hA, hfr, hlo, hKF, hSF, hxt, hst⟩ := X
  intro σ L k σ' L' k' pc' h hcl hn0 hF G ad H locs cells slots ls hP hD hS hc hs hl had
  simp only [o_un] at h
  split at h
  · cases h
    exact lv_i2b hx hb hdg rfl (G ad H locs cells slots ls hP hD hS hc hs hl had)
  · cases h
theorem ok_i2l (X : ae_X p l e R s m args below meth c D dA ro A B ra own nm cc nL ret KF SF d hd)  (hdg : decode cc pc = .ok (.i2l, 1)) : ae_Ok p l e R s m args below meth c Q D dA ro A nL B ad0 n0 ra KF SF pc (o_i2l (pc + 1)) := by
  obtain ⟨hx, hb, hml, hown, hts, hr, hlk, hnm, hK, hRO, hA, hfr, hlo, hKF, hSF, hxt, hst⟩ := X
  intro σ L k σ' L' k' pc' h hcl hn0 hF G ad H locs cells slots ls hP hD hS hc hs hl had
  simp only [o_i2l] at h
  split at h
  · cases h
    exact lv_i2l hx hb hdg rfl (G ad H locs cells slots ls hP hD hS hc hs hl had)
  · cases h
theorem ok_lcmp (X : ae_X p l e R s m args below meth c D dA ro A B ra own nm cc nL ret KF SF d hd)  (hdg : decode cc pc = .ok (.lcmp, 1)) : ae_Ok p l e R s m args below meth c Q D dA ro A nL B ad0 n0 ra KF SF pc (o_lcmp (pc + 1)) := by
  obtain ⟨hx, hb, hml, hown, hts, hr, hlk, hnm, hK, hRO, hA, hfr, hlo, hKF, hSF, hxt, hst⟩ := X
  intro σ L k σ' L' k' pc' h hcl hn0 hF G ad H locs cells slots ls hP hD hS hc hs hl had
  simp only [o_lcmp] at h
  split at h
  · cases h
    exact W.lcmp hx hb hdg (G ad H locs cells slots ls hP hD hS hc hs hl had)
  · cases h
theorem ok_dup (X : ae_X p l e R s m args below meth c D dA ro A B ra own nm cc nL ret KF SF d hd)  (hdg : decode cc pc = .ok (.dup, 1)) : ae_Ok p l e R s m args below meth c Q D dA ro A nL B ad0 n0 ra KF SF pc (o_dup (pc + 1)) := by
  obtain ⟨hx, hb, hml, hown, hts, hr, hlk, hnm, hK, hRO, hA, hfr, hlo, hKF, hSF, hxt, hst⟩ := X
  intro σ L k σ' L' k' pc' h hcl hn0 hF G ad H locs cells slots ls hP hD hS hc hs hl had
  simp only [o_dup] at h
  split at h
  · split at h
    · cases h
      exact lv_dup hx hb hdg (by rw [ae_v_cat]; first | assumption | exact (by assumption : _ ∧ _).1) (G ad H locs cells slots ls hP hD hS hc hs hl had)
    · cases h
  · cases h
theorem ok_pop (X : ae_X p l e R s m args below meth c D dA ro A B ra own nm cc nL ret KF SF d hd)  (hdg : decode cc pc = .ok (.pop, 1)) : ae_Ok p l e R s m args below meth c Q D dA ro A nL B ad0 n0 ra KF SF pc (o_pop (pc + 1)) := by
  obtain ⟨hx, hb, hml, hown, hts, hr, hlk, hnm, hK, hRO, hA, hfr, hlo, hKF, hSF, hxt, hst⟩ := X
  intro σ L k σ' L' k' pc' h hcl hn0 hF G ad H locs cells slots ls hP hD hS hc hs hl had
  simp only [o_pop] at h
  split at h
  · split at h
    · cases h
      exact lv_pop hx hb hdg (by rw [ae_v_cat]; first | assumption | exact (by assumption : _ ∧ _).1) (G ad H locs cells slots ls hP hD hS hc hs hl had)
    · cases h
  · cases h
theorem ok_dup2 (X : ae_X p l e R s m args below meth c D dA ro A B ra own nm cc nL ret KF SF d hd)  (hdg : decode cc pc = .ok (.dup2, 1)) : ae_Ok p l e R s m args below meth c Q D dA ro A nL B ad0 n0 ra KF SF pc (o_dup2 (pc + 1)) := by
  obtain ⟨hx, hb, hml, hown, hts, hr, hlk, hnm, hK, hRO, hA, hfr, hlo, hKF, hSF, hxt, hst⟩ := X
  intro σ L k σ' L' k' pc' h hcl hn0 hF G ad H locs cells slots ls hP hD hS hc hs hl had
  simp only [o_dup2] at h
  split at h
  · split at h
    · cases h
      exact lv_dup2_11 hx hb hdg (by rw [ae_v_cat]; first | assumption | exact (by assumption : _ ∧ _).1) (by rw [ae_v_cat]; exact (by assumption : _ ∧ _).2) (G ad H locs cells slots ls hP hD hS hc hs hl had)
    · cases h
  · cases h
theorem ok_dupx1 (X : ae_X p l e R s m args below meth c D dA ro A B ra own nm cc nL ret KF SF d hd)  (hdg : decode cc pc = .ok (.dup_x1, 1)) : ae_Ok p l e R s m args below meth c Q D dA ro A nL B ad0 n0 ra KF SF pc (o_dupx1 (pc + 1)) := by
  obtain ⟨hx, hb, hml, hown, hts, hr, hlk, hnm, hK, hRO, hA, hfr, hlo, hKF, hSF, hxt, hst⟩ := X
  intro σ L k σ' L' k' pc' h hcl hn0 hF G ad H locs cells slots ls hP hD hS hc hs hl had
  simp only [o_dupx1] at h
  split at h
  · split at h
    · cases h
      exact lv_dup_x1 hx hb hdg (by rw [ae_v_cat]; first | assumption | exact (by assumption : _ ∧ _).1) (by rw [ae_v_cat]; exact (by assumption : _ ∧ _).2) (G ad H locs cells slots ls hP hD hS hc hs hl had)
    · cases h
  · cases h
theorem ok_iload_n (X : ae_X p l e R s m args below meth c D dA ro A B ra own nm cc nL ret KF SF d hd) {k : Fin 4} {i : Nat} (hi : (k : Nat) = i) (hdg : decode cc pc = .ok (.iload_n k, 1)) : ae_Ok p l e R s m args below meth c Q D dA ro A nL B ad0 n0 ra KF SF pc (o_il i (pc + 1)) := by
  obtain ⟨hx, hb, hml, hown, hts, hr, hlk, hnm, hK, hRO, hA, hfr, hlo, hKF, hSF, hxt, hst⟩ := X
  intro σ L k σ' L' k' pc' h hcl hn0 hF G ad H locs cells slots ls hP hD hS hc hs hl had
  simp only [o_il] at h
  split at h
  · cases h
    exact lv_iload_n hx hb hdg hi (hl.2.2.2 _ _ (by assumption)) (G ad H locs cells slots ls hP hD hS hc hs hl had)
  · cases h
theorem ok_iload (X : ae_X p l e R s m args below meth c D dA ro A B ra own nm cc nL ret KF SF d hd) {i : Nat} (hdg : decode cc pc = .ok (.iload i, 2)) : ae_Ok p l e R s m args below meth c Q D dA ro A nL B ad0 n0 ra KF SF pc (o_il i (pc + 2)) := by
  obtain ⟨hx, hb, hml, hown, hts, hr, hlk, hnm, hK, hRO, hA, hfr, hlo, hKF, hSF, hxt, hst⟩ := X
  intro σ L k σ' L' k' pc' h hcl hn0 hF G ad H locs cells slots ls hP hD hS hc hs hl had
  simp only [o_il] at h
  split at h
  · cases h
    exact lv_iload hx hb hdg (hl.2.2.2 _ _ (by assumption)) (G ad H locs cells slots ls hP hD hS hc hs hl had)
  · cases h
theorem ok_aload_n (X : ae_X p l e R s m args below meth c D dA ro A B ra own nm cc nL ret KF SF d hd) {k : Fin 4} {i : Nat} (hi : (k : Nat) = i) (hdg : decode cc pc = .ok (.aload_n k, 1)) : ae_Ok p l e R s m args below meth c Q D dA ro A nL B ad0 n0 ra KF SF pc (o_al i (pc + 1)) := by
  obtain ⟨hx, hb, hml, hown, hts, hr, hlk, hnm, hK, hRO, hA, hfr, hlo, hKF, hSF, hxt, hst⟩ := X
  intro σ L k σ' L' k' pc' h hcl hn0 hF G ad H locs cells slots ls hP hD hS hc hs hl had
  simp only [o_al] at h
  split at h
  · cases h
    exact lv_aload_n hx hb hdg hi (hl.2.2.2 _ _ (by assumption)) (G ad H locs cells slots ls hP hD hS hc hs hl had)
  · cases h
    exact lv_aload_nN hx hb hdg hi (hl.2.2.2 _ _ (by assumption)) (G ad H locs cells slots ls hP hD hS hc hs hl had)
  · cases h
    exact lv_aload_n hx hb hdg hi (hl.2.2.2 _ _ (by assumption)) (G ad H locs cells slots ls hP hD hS hc hs hl had)
  · cases h
theorem ok_aload (X : ae_X p l e R s m args below meth c D dA ro A B ra own nm cc nL ret KF SF d hd) {i : Nat} (hdg : decode cc pc = .ok (.aload i, 2)) : ae_Ok p l e R s m args below meth c Q D dA ro A nL B ad0 n0 ra KF SF pc (o_al i (pc + 2)) := by
  obtain ⟨hx, hb, hml, hown, hts, hr, hlk, hnm, hK, hRO, hA, hfr, hlo, hKF, hSF, hxt, hst⟩ := X
  intro σ L k σ' L' k' pc' h hcl hn0 hF G ad H locs cells slots ls hP hD hS hc hs hl had
  simp only [o_al] at h
  split at h
  · cases h
    exact lv_aload hx hb hdg (hl.2.2.2 _ _ (by assumption)) (G ad H locs cells slots ls hP hD hS hc hs hl had)
  · cases h
    exact lv_aloadN hx hb hdg (hl.2.2.2 _ _ (by assumption)) (G ad H locs cells slots ls hP hD hS hc hs hl had)
  · cases h
    exact lv_aload hx hb hdg (hl.2.2.2 _ _ (by assumption)) (G ad H locs cells slots ls hP hD hS hc hs hl had)
  · cases h
theorem ok_istore_n (X : ae_X p l e R s m args below meth c D dA ro A B ra own nm cc nL ret KF SF d hd) {k : Fin 4} {i : Nat} (hi : (k : Nat) = i) (hdg : decode cc pc = .ok (.istore_n k, 1)) : ae_Ok p l e R s m args below meth c Q D dA ro A nL B ad0 n0 ra KF SF pc (o_is i (pc + 1)) := by
  obtain ⟨hx, hb, hml, hown, hts, hr, hlk, hnm, hK, hRO, hA, hfr, hlo, hKF, hSF, hxt, hst⟩ := X
  intro σ L k σ' L' k' pc' h hcl hn0 hF G ad H locs cells slots ls hP hD hS hc hs hl had
  simp only [o_is] at h
  split at h
  · split at h
    · cases h
      exact lv_istore_n hx hb hdg hi hl.has (by rw [← hl.1]; assumption) rfl (fun ls' h' => G ad H locs cells slots ls' hP hD hS hc hs (hl.put hcl.2.1 h') had)
    · cases h
  · cases h
theorem ok_istore (X : ae_X p l e R s m args below meth c D dA ro A B ra own nm cc nL ret KF SF d hd) {i : Nat} (hdg : decode cc pc = .ok (.istore i, 2)) : ae_Ok p l e R s m args below meth c Q D dA ro A nL B ad0 n0 ra KF SF pc (o_is i (pc + 2)) := by
  obtain ⟨hx, hb, hml, hown, hts, hr, hlk, hnm, hK, hRO, hA, hfr, hlo, hKF, hSF, hxt, hst⟩ := X
  intro σ L k σ' L' k' pc' h hcl hn0 hF G ad H locs cells slots ls hP hD hS hc hs hl had
  simp only [o_is] at h
  split at h
  · split at h
    · cases h
      exact lv_istore hx hb hdg hl.has (by rw [← hl.1]; assumption) rfl (fun ls' h' => G ad H locs cells slots ls' hP hD hS hc hs (hl.put hcl.2.1 h') had)
    · cases h
  · cases h
theorem ok_astore_n (X : ae_X p l e R s m args below meth c D dA ro A B ra own nm cc nL ret KF SF d hd) {k : Fin 4} {i : Nat} (hi : (k : Nat) = i) (hdg : decode cc pc = .ok (.astore_n k, 1)) : ae_Ok p l e R s m args below meth c Q D dA ro A nL B ad0 n0 ra KF SF pc (o_as i (pc + 1)) := by
  obtain ⟨hx, hb, hml, hown, hts, hr, hlk, hnm, hK, hRO, hA, hfr, hlo, hKF, hSF, hxt, hst⟩ := X
  intro σ L k σ' L' k' pc' h hcl hn0 hF G ad H locs cells slots ls hP hD hS hc hs hl had
  simp only [o_as] at h
  split at h
  · split at h
    · cases h
      exact lv_astore_n hx hb hdg hi hl.has (by rw [← hl.1]; assumption) rfl (fun ls' h' => G ad H locs cells slots ls' hP hD hS hc hs (hl.put (v := .ref _) hcl.2.1 h') had)
    · cases h
  · split at h
    · cases h
      exact lv_astore_nN hx hb hdg hi hl.has (by rw [← hl.1]; assumption) rfl (fun ls' h' => G ad H locs cells slots ls' hP hD hS hc hs (hl.put (v := .null) hcl.2.1 h') had)
    · cases h
  · split at h
    · cases h
      exact lv_astore_n hx hb hdg hi hl.has (by rw [← hl.1]; assumption) rfl (fun ls' h' => G ad H locs cells slots ls' hP hD hS hc hs (hl.put (v := .retAddr _) hcl.2.1 h') had)
    · cases h
  · cases h
theorem ok_astore (X : ae_X p l e R s m args below meth c D dA ro A B ra own nm cc nL ret KF SF d hd) {i : Nat} (hdg : decode cc pc = .ok (.astore i, 2)) : ae_Ok p l e R s m args below meth c Q D dA ro A nL B ad0 n0 ra KF SF pc (o_as i (pc + 2)) := by
  obtain ⟨hx, hb, hml, hown, hts, hr, hlk, hnm, hK, hRO, hA, hfr, hlo, hKF, hSF, hxt, hst⟩ := X
  intro σ L k σ' L' k' pc' h hcl hn0 hF G ad H locs cells slots ls hP hD hS hc hs hl had
  simp only [o_as] at h
  split at h
  · split at h
    · cases h
      exact lv_astore hx hb hdg hl.has (by rw [← hl.1]; assumption) rfl (fun ls' h' => G ad H locs cells slots ls' hP hD hS hc hs (hl.put (v := .ref _) hcl.2.1 h') had)
    · cases h
  · split at h
    · cases h
      exact lv_astoreN hx hb hdg hl.has (by rw [← hl.1]; assumption) rfl (fun ls' h' => G ad H locs cells slots ls' hP hD hS hc hs (hl.put (v := .null) hcl.2.1 h') had)
    · cases h
  · split at h
    · cases h
      exact lv_astore hx hb hdg hl.has (by rw [← hl.1]; assumption) rfl (fun ls' h' => G ad H locs cells slots ls' hP hD hS hc hs (hl.put (v := .retAddr _) hcl.2.1 h') had)
    · cases h
  · cases h
theorem ok_iinc (X : ae_X p l e R s m args below meth c D dA ro A B ra own nm cc nL ret KF SF d hd) {i : Nat} {n : Int} {v : Int32} (hv : Int32.ofInt n = v) (hdg : decode cc pc = .ok (.iinc i n, 3)) : ae_Ok p l e R s m args below meth c Q D dA ro A nL B ad0 n0 ra KF SF pc (o_inc i v (pc + 3)) := by
  obtain ⟨hx, hb, hml, hown, hts, hr, hlk, hnm, hK, hRO, hA, hfr, hlo, hKF, hSF, hxt, hst⟩ := X
  intro σ L k σ' L' k' pc' h hcl hn0 hF G ad H locs cells slots ls hP hD hS hc hs hl had
  simp only [o_inc] at h
  subst hv
  split at h
  · rename_i x hLi
    cases h
    have hi : i < nL := by rw [← hl.1]; exact (List.getElem?_eq_some_iff.mp hLi).1
    obtain ⟨kk, hkk⟩ := List.getElem?_of_mem (ae_as_mem (ad := ad) (ro := ro).mpr ⟨_, hLi, rfl⟩)
    exact lv_iinc hx hb hdg hl.has hkk rfl hi rfl (fun ls' h' => G ad H locs cells slots ls' hP hD hS hc hs (hl.put (v := .int _) hcl.2.1 h') had)
  · cases h
theorem ok_if_eq (X : ae_X p l e R s m args below meth c D dA ro A B ra own nm cc nL ret KF SF d hd) {off : Int} {tg : Nat} (ht : (pc : Int) + off = (tg : Int)) (hdg : decode cc pc = .ok (.ifCond .eq off, 3)) : ae_Ok p l e R s m args below meth c Q D dA ro A nL B ad0 n0 ra KF SF pc (o_if (fun x => decide (x = 0)) tg (pc + 3)) := by
  obtain ⟨hx, hb, hml, hown, hts, hr, hlk, hnm, hK, hRO, hA, hfr, hlo, hKF, hSF, hxt, hst⟩ := X
  intro σ L k σ' L' k' pc' h hcl hn0 hF G ad H locs cells slots ls hP hD hS hc hs hl had
  simp only [o_if] at h
  split at h
  · cases h
    exact lv_if_eq hx hb hdg ht (fun z => by have G2 := (G ad H locs cells slots ls hP hD hS hc hs hl had); rw [if_pos (decide_eq_true z)] at G2; exact G2) (fun z => by have G2 := (G ad H locs cells slots ls hP hD hS hc hs hl had); rw [if_neg (by simp only [decide_eq_true_eq]; exact z)] at G2; exact G2)
  · cases h
theorem ok_ic_eq (X : ae_X p l e R s m args below meth c D dA ro A B ra own nm cc nL ret KF SF d hd) {off : Int} {tg : Nat} (ht : (pc : Int) + off = (tg : Int)) (hdg : decode cc pc = .ok (.if_icmp .eq off, 3)) : ae_Ok p l e R s m args below meth c Q D dA ro A nL B ad0 n0 ra KF SF pc (o_ic (fun x y => decide (x = y)) tg (pc + 3)) := by
  obtain ⟨hx, hb, hml, hown, hts, hr, hlk, hnm, hK, hRO, hA, hfr, hlo, hKF, hSF, hxt, hst⟩ := X
  intro σ L k σ' L' k' pc' h hcl hn0 hF G ad H locs cells slots ls hP hD hS hc hs hl had
  simp only [o_ic] at h
  split at h
  · cases h
    exact lv_icmp_eq hx hb hdg ht (fun z => by have G2 := (G ad H locs cells slots ls hP hD hS hc hs hl had); rw [if_pos (decide_eq_true z)] at G2; exact G2) (fun z => by have G2 := (G ad H locs cells slots ls hP hD hS hc hs hl had); rw [if_neg (by simp only [decide_eq_true_eq]; exact z)] at G2; exact G2)
  · cases h
theorem ok_if_ne (X : ae_X p l e R s m args below meth c D dA ro A B ra own nm cc nL ret KF SF d hd) {off : Int} {tg : Nat} (ht : (pc : Int) + off = (tg : Int)) (hdg : decode cc pc = .ok (.ifCond .ne off, 3)) : ae_Ok p l e R s m args below meth c Q D dA ro A nL B ad0 n0 ra KF SF pc (o_if (fun x => decide (¬ x = 0)) tg (pc + 3)) := by
  obtain ⟨hx, hb, hml, hown, hts, hr, hlk, hnm, hK, hRO, hA, hfr, hlo, hKF, hSF, hxt, hst⟩ := X
  intro σ L k σ' L' k' pc' h hcl hn0 hF G ad H locs cells slots ls hP hD hS hc hs hl had
  simp only [o_if] at h
  split at h
  · cases h
    exact lv_if_ne hx hb hdg ht (fun z => by have G2 := (G ad H locs cells slots ls hP hD hS hc hs hl had); rw [if_pos (decide_eq_true z)] at G2; exact G2) (fun z => by have G2 := (G ad H locs cells slots ls hP hD hS hc hs hl had); rw [if_neg (by simp only [decide_eq_true_eq]; exact fun q => q z)] at G2; exact G2)
  · cases h
theorem ok_ic_ne (X : ae_X p l e R s m args below meth c D dA ro A B ra own nm cc nL ret KF SF d hd) {off : Int} {tg : Nat} (ht : (pc : Int) + off = (tg : Int)) (hdg : decode cc pc = .ok (.if_icmp .ne off, 3)) : ae_Ok p l e R s m args below meth c Q D dA ro A nL B ad0 n0 ra KF SF pc (o_ic (fun x y => decide (¬ x = y)) tg (pc + 3)) := by
  obtain ⟨hx, hb, hml, hown, hts, hr, hlk, hnm, hK, hRO, hA, hfr, hlo, hKF, hSF, hxt, hst⟩ := X
  intro σ L k σ' L' k' pc' h hcl hn0 hF G ad H locs cells slots ls hP hD hS hc hs hl had
  simp only [o_ic] at h
  split at h
  · cases h
    exact lv_icmp_ne hx hb hdg ht (fun z => by have G2 := (G ad H locs cells slots ls hP hD hS hc hs hl had); rw [if_pos (decide_eq_true z)] at G2; exact G2) (fun z => by have G2 := (G ad H locs cells slots ls hP hD hS hc hs hl had); rw [if_neg (by simp only [decide_eq_true_eq]; exact fun q => q z)] at G2; exact G2)
  · cases h
theorem ok_if_lt (X : ae_X p l e R s m args below meth c D dA ro A B ra own nm cc nL ret KF SF d hd) {off : Int} {tg : Nat} (ht : (pc : Int) + off = (tg : Int)) (hdg : decode cc pc = .ok (.ifCond .lt off, 3)) : ae_Ok p l e R s m args below meth c Q D dA ro A nL B ad0 n0 ra KF SF pc (o_if (fun x => decide (x < 0)) tg (pc + 3)) := by
  obtain ⟨hx, hb, hml, hown, hts, hr, hlk, hnm, hK, hRO, hA, hfr, hlo, hKF, hSF, hxt, hst⟩ := X
  intro σ L k σ' L' k' pc' h hcl hn0 hF G ad H locs cells slots ls hP hD hS hc hs hl had
  simp only [o_if] at h
  split at h
  · cases h
    exact lv_if_lt hx hb hdg ht (fun z => by have G2 := (G ad H locs cells slots ls hP hD hS hc hs hl had); rw [if_pos (decide_eq_true z)] at G2; exact G2) (fun z => by have G2 := (G ad H locs cells slots ls hP hD hS hc hs hl had); rw [if_neg (by simp only [decide_eq_true_eq]; exact z)] at G2; exact G2)
  · cases h
theorem ok_ic_lt (X : ae_X p l e R s m args below meth c D dA ro A B ra own nm cc nL ret KF SF d hd) {off : Int} {tg : Nat} (ht : (pc : Int) + off = (tg : Int)) (hdg : decode cc pc = .ok (.if_icmp .lt off, 3)) : ae_Ok p l e R s m args below meth c Q D dA ro A nL B ad0 n0 ra KF SF pc (o_ic (fun x y => decide (x < y)) tg (pc + 3)) := by
  obtain ⟨hx, hb, hml, hown, hts, hr, hlk, hnm, hK, hRO, hA, hfr, hlo, hKF, hSF, hxt, hst⟩ := X
  intro σ L k σ' L' k' pc' h hcl hn0 hF G ad H locs cells slots ls hP hD hS hc hs hl had
  simp only [o_ic] at h
  split at h
  · cases h
    exact lv_icmp_lt hx hb hdg ht (fun z => by have G2 := (G ad H locs cells slots ls hP hD hS hc hs hl had); rw [if_pos (decide_eq_true z)] at G2; exact G2) (fun z => by have G2 := (G ad H locs cells slots ls hP hD hS hc hs hl had); rw [if_neg (by simp only [decide_eq_true_eq]; exact z)] at G2; exact G2)
  · cases h
theorem ok_if_ge (X : ae_X p l e R s m args below meth c D dA ro A B ra own nm cc nL ret KF SF d hd) {off : Int} {tg : Nat} (ht : (pc : Int) + off = (tg : Int)) (hdg : decode cc pc = .ok (.ifCond .ge off, 3)) : ae_Ok p l e R s m args below meth c Q D dA ro A nL B ad0 n0 ra KF SF pc (o_if (fun x => decide (0 ≤ x)) tg (pc + 3)) := by
  obtain ⟨hx, hb, hml, hown, hts, hr, hlk, hnm, hK, hRO, hA, hfr, hlo, hKF, hSF, hxt, hst⟩ := X
  intro σ L k σ' L' k' pc' h hcl hn0 hF G ad H locs cells slots ls hP hD hS hc hs hl had
  simp only [o_if] at h
  split at h
  · cases h
    exact lv_if_ge hx hb hdg ht (fun z => by have G2 := (G ad H locs cells slots ls hP hD hS hc hs hl had); rw [if_pos (decide_eq_true z)] at G2; exact G2) (fun z => by have G2 := (G ad H locs cells slots ls hP hD hS hc hs hl had); rw [if_neg (by simp only [decide_eq_true_eq]; exact z)] at G2; exact G2)
  · cases h
theorem ok_ic_ge (X : ae_X p l e R s m args below meth c D dA ro A B ra own nm cc nL ret KF SF d hd) {off : Int} {tg : Nat} (ht : (pc : Int) + off = (tg : Int)) (hdg : decode cc pc = .ok (.if_icmp .ge off, 3)) : ae_Ok p l e R s m args below meth c Q D dA ro A nL B ad0 n0 ra KF SF pc (o_ic (fun x y => decide (y ≤ x)) tg (pc + 3)) := by
  obtain ⟨hx, hb, hml, hown, hts, hr, hlk, hnm, hK, hRO, hA, hfr, hlo, hKF, hSF, hxt, hst⟩ := X
  intro σ L k σ' L' k' pc' h hcl hn0 hF G ad H locs cells slots ls hP hD hS hc hs hl had
  simp only [o_ic] at h
  split at h
  · cases h
    exact lv_icmp_ge hx hb hdg ht (fun z => by have G2 := (G ad H locs cells slots ls hP hD hS hc hs hl had); rw [if_pos (decide_eq_true z)] at G2; exact G2) (fun z => by have G2 := (G ad H locs cells slots ls hP hD hS hc hs hl had); rw [if_neg (by simp only [decide_eq_true_eq]; exact z)] at G2; exact G2)
  · cases h
theorem ok_if_gt (X : ae_X p l e R s m args below meth c D dA ro A B ra own nm cc nL ret KF SF d hd) {off : Int} {tg : Nat} (ht : (pc : Int) + off = (tg : Int)) (hdg : decode cc pc = .ok (.ifCond .gt off, 3)) : ae_Ok p l e R s m args below meth c Q D dA ro A nL B ad0 n0 ra KF SF pc (o_if (fun x => decide (0 < x)) tg (pc + 3)) := by
  obtain ⟨hx, hb, hml, hown, hts, hr, hlk, hnm, hK, hRO, hA, hfr, hlo, hKF, hSF, hxt, hst⟩ := X
  intro σ L k σ' L' k' pc' h hcl hn0 hF G ad H locs cells slots ls hP hD hS hc hs hl had
  simp only [o_if] at h
  split at h
  · cases h
    exact lv_if_gt hx hb hdg ht (fun z => by have G2 := (G ad H locs cells slots ls hP hD hS hc hs hl had); rw [if_pos (decide_eq_true z)] at G2; exact G2) (fun z => by have G2 := (G ad H locs cells slots ls hP hD hS hc hs hl had); rw [if_neg (by simp only [decide_eq_true_eq]; exact z)] at G2; exact G2)
  · cases h
theorem ok_ic_gt (X : ae_X p l e R s m args below meth c D dA ro A B ra own nm cc nL ret KF SF d hd) {off : Int} {tg : Nat} (ht : (pc : Int) + off = (tg : Int)) (hdg : decode cc pc = .ok (.if_icmp .gt off, 3)) : ae_Ok p l e R s m args below meth c Q D dA ro A nL B ad0 n0 ra KF SF pc (o_ic (fun x y => decide (y < x)) tg (pc + 3)) := by
  obtain ⟨hx, hb, hml, hown, hts, hr, hlk, hnm, hK, hRO, hA, hfr, hlo, hKF, hSF, hxt, hst⟩ := X
  intro σ L k σ' L' k' pc' h hcl hn0 hF G ad H locs cells slots ls hP hD hS hc hs hl had
  simp only [o_ic] at h
  split at h
  · cases h
    exact lv_icmp_gt hx hb hdg ht (fun z => by have G2 := (G ad H locs cells slots ls hP hD hS hc hs hl had); rw [if_pos (decide_eq_true z)] at G2; exact G2) (fun z => by have G2 := (G ad H locs cells slots ls hP hD hS hc hs hl had); rw [if_neg (by simp only [decide_eq_true_eq]; exact z)] at G2; exact G2)
  · cases h
theorem ok_if_le (X : ae_X p l e R s m args below meth c D dA ro A B ra own nm cc nL ret KF SF d hd) {off : Int} {tg : Nat} (ht : (pc : Int) + off = (tg : Int)) (hdg : decode cc pc = .ok (.ifCond .le off, 3)) : ae_Ok p l e R s m args below meth c Q D dA ro A nL B ad0 n0 ra KF SF pc (o_if (fun x => decide (x ≤ 0)) tg (pc + 3)) := by
  obtain ⟨hx, hb, hml, hown, hts, hr, hlk, hnm, hK, hRO, hA, hfr, hlo, hKF, hSF, hxt, hst⟩ := X
  intro σ L k σ' L' k' pc' h hcl hn0 hF G ad H locs cells slots ls hP hD hS hc hs hl had
  simp only [o_if] at h
  split at h
  · cases h
    exact lv_if_le hx hb hdg ht (fun z => by have G2 := (G ad H locs cells slots ls hP hD hS hc hs hl had); rw [if_pos (decide_eq_true z)] at G2; exact G2) (fun z => by have G2 := (G ad H locs cells slots ls hP hD hS hc hs hl had); rw [if_neg (by simp only [decide_eq_true_eq]; exact z)] at G2; exact G2)
  · cases h
theorem ok_ic_le (X : ae_X p l e R s m args below meth c D dA ro A B ra own nm cc nL ret KF SF d hd) {off : Int} {tg : Nat} (ht : (pc : Int) + off = (tg : Int)) (hdg : decode cc pc = .ok (.if_icmp .le off, 3)) : ae_Ok p l e R s m args below meth c Q D dA ro A nL B ad0 n0 ra KF SF pc (o_ic (fun x y => decide (x ≤ y)) tg (pc + 3)) := by
  obtain ⟨hx, hb, hml, hown, hts, hr, hlk, hnm, hK, hRO, hA, hfr, hlo, hKF, hSF, hxt, hst⟩ := X
  intro σ L k σ' L' k' pc' h hcl hn0 hF G ad H locs cells slots ls hP hD hS hc hs hl had
  simp only [o_ic] at h
  split at h
  · cases h
    exact lv_icmp_le hx hb hdg ht (fun z => by have G2 := (G ad H locs cells slots ls hP hD hS hc hs hl had); rw [if_pos (decide_eq_true z)] at G2; exact G2) (fun z => by have G2 := (G ad H locs cells slots ls hP hD hS hc hs hl had); rw [if_neg (by simp only [decide_eq_true_eq]; exact z)] at G2; exact G2)
  · cases h
theorem ok_ifnull (X : ae_X p l e R s m args below meth c D dA ro A B ra own nm cc nL ret KF SF d hd) {off : Int} {tg : Nat} (ht : (pc : Int) + off = (tg : Int)) (hdg : decode cc pc = .ok (.ifnull off, 3)) : ae_Ok p l e R s m args below meth c Q D dA ro A nL B ad0 n0 ra KF SF pc (o_nul tg (pc + 3)) := by
  obtain ⟨hx, hb, hml, hown, hts, hr, hlk, hnm, hK, hRO, hA, hfr, hlo, hKF, hSF, hxt, hst⟩ := X
  intro σ L k σ' L' k' pc' h hcl hn0 hF G ad H locs cells slots ls hP hD hS hc hs hl had
  simp only [o_nul] at h
  split at h
  · cases h
    exact lv_ifnullN hx hb hdg ht (G ad H locs cells slots ls hP hD hS hc hs hl had)
  · cases h
    exact lv_ifnull hx hb hdg (G ad H locs cells slots ls hP hD hS hc hs hl had)
  · cases h
theorem ok_ifnonnull (X : ae_X p l e R s m args below meth c D dA ro A B ra own nm cc nL ret KF SF d hd) {off : Int} {tg : Nat} (ht : (pc : Int) + off = (tg : Int)) (hdg : decode cc pc = .ok (.ifnonnull off, 3)) : ae_Ok p l e R s m args below meth c Q D dA ro A nL B ad0 n0 ra KF SF pc (o_nul (pc + 3) tg) := by
  obtain ⟨hx, hb, hml, hown, hts, hr, hlk, hnm, hK, hRO, hA, hfr, hlo, hKF, hSF, hxt, hst⟩ := X
  intro σ L k σ' L' k' pc' h hcl hn0 hF G ad H locs cells slots ls hP hD hS hc hs hl had
  simp only [o_nul] at h
  split at h
  · cases h
    exact lv_ifnonnullN hx hb hdg (G ad H locs cells slots ls hP hD hS hc hs hl had)
  · cases h
    exact lv_ifnonnull hx hb hdg ht (G ad H locs cells slots ls hP hD hS hc hs hl had)
  · cases h
theorem ok_goto (X : ae_X p l e R s m args below meth c D dA ro A B ra own nm cc nL ret KF SF d hd) {off : Int} {tg : Nat} (ht : (pc : Int) + off = (tg : Int)) (hdg : decode cc pc = .ok (.goto off, 3)) : ae_Ok p l e R s m args below meth c Q D dA ro A nL B ad0 n0 ra KF SF pc (o_goto tg) := by
  obtain ⟨hx, hb, hml, hown, hts, hr, hlk, hnm, hK, hRO, hA, hfr, hlo, hKF, hSF, hxt, hst⟩ := X
  intro σ L k σ' L' k' pc' h hcl hn0 hF G ad H locs cells slots ls hP hD hS hc hs hl had
  simp only [o_goto] at h
  cases h
  exact lv_goto hx hb hdg ht (G ad H locs cells slots ls hP hD hS hc hs hl had)
theorem ok_sw (X : ae_X p l e R s m args below meth c D dA ro A B ra own nm cc nL ret KF SF d hd) {dflt lo hi : Int} {offs : Array Int} {len : Nat} {tgs : List Nat} {df : Nat} (hd : (pc : Int) + dflt = (df : Int)) (ho : ∀ j : Nat, j < (hi - lo + 1).toNat → ∃ off, offs[j]? = some off ∧ (pc : Int) + off = ((tgs.getD j 0 : Nat) : Int)) (hdg : decode cc pc = .ok (.tableswitch dflt lo hi offs, len)) : ae_Ok p l e R s m args below meth c Q D dA ro A nL B ad0 n0 ra KF SF pc (o_sw lo hi tgs df) := by
  obtain ⟨hx, hb, hml, hown, hts, hr, hlk, hnm, hK, hRO, hA, hfr, hlo, hKF, hSF, hxt, hst⟩ := X
  intro σ L k σ' L' k' pc' h hcl hn0 hF G ad H locs cells slots ls hP hD hS hc hs hl had
  simp only [o_sw] at h
  split at h
  · rename_i x r
    cases h
    by_cases hq : x.toInt < lo ∨ hi < x.toInt
    · have G2 := (G ad H locs cells slots ls hP hD hS hc hs hl had)
      rw [if_pos hq] at G2
      exact lv_tableOut hx hb hdg hq hd G2
    · have G2 := (G ad H locs cells slots ls hP hD hS hc hs hl had)
      rw [if_neg hq] at G2
      obtain ⟨off, e1, e2⟩ := ho (x.toInt - lo).toNat (by omega)
      exact lv_tableIn hx hb hdg (fun z => hq (Or.inl z)) (fun z => hq (Or.inr z)) e1 e2 G2
  · cases h
end AEM
section AEH
variable {p : Program} {l : Launch} {e : Env} {R : Room} {s : State} {m : MethodId} {args : Array Value} {below : List Frame} {meth : Method} {c : Code} {Q : State → Prop}
variable {D : va_G} {dA : Nat → ClassId} {ro : Nat → Nat} {A : Nat → Prop} {nL : Nat} {B : Nat × Nat} {ad0 : Nat → Nat} {n0 : Nat}
variable {ra : Nat → Nat × (Nat → Int32)} {own nm : String} {cc : ByteArray} {ret : Option FieldType} {KF SF d : Nat} {pc : Nat} {hd : List (Nat × Nat × Nat × Nat)}
theorem ae_cat_map (ad ro : Nat → Nat) (k : List Value) : ((k.map (ae_v ad ro)).map fun v => v.category).sum = ae_cat k := by
  unfold ae_cat
  rw [List.map_map]
  congr 1
  exact List.map_congr_left fun v _ => ae_v_cat ad ro v
theorem ae_rf (ad ro : Nat → Nat) (o : Option Nat) : ae_v ad ro (va_rf o) = va_rf (o.map ad) := by cases o <;> rfl
theorem ae_uq {U : State} {cA cB : ClassId} {ty : FieldType} (h1 : va_RA U cA ty) (h2 : va_RA U cB ty) : cA = cB := by
  cases ty with
  | object C =>
    obtain ⟨_, _, _, _, _, a⟩ := h1
    obtain ⟨_, _, _, _, _, b⟩ := h2
    exact Option.some.inj (a.symm.trans b)
  | _ =>
    have a : U.vm.findClass _ = some cA := h1
    have b : U.vm.findClass _ = some cB := h2
    exact Option.some.inj (a.symm.trans b)
theorem ae_upm (ad : Nat → Nat) (f : Nat → Option Nat) (j : Nat) (o : Option Nat) : (fun i => (va_up f j o i).map ad) = va_up (fun i => (f i).map ad) j (o.map ad) := by
  funext i
  unfold va_up
  split <;> rfl

theorem ok_get (X : ae_X p l e R s m args below meth c D dA ro A B ra own nm cc nL ret KF SF d hd) {C : String} {T : u_T} {N ci kk index : Nat} (hci : classes[ci]? = some (C, T, N)) (hin : ∀ w ∈ u_ws C T N, w ∈ aw_all) (hkN : kk < N) (hw : Jvm.Cond.fieldLink own index (T kk).1 (T kk).2.1 (T kk).2.2.1 ∈ aw_all) (hdg : decode cc pc = .ok (.getfield index, 3)) : ae_Ok p l e R s m args below meth c Q D dA ro A nL B ad0 n0 ra KF SF pc (o_get ci kk (pc + 3)) := by
  obtain ⟨hx, hb, hml, hown, hts, hr, hlk, hnm, hK, hRO, hA, hfr, hlo, hKF, hSF, hxt, hst⟩ := X
  intro σ L k σ' L' k' pc' h hcl hn0 hF G ad H locs cells slots ls hP hD hS hc hs hl had
  simp only [o_get] at h
  split at h
  · rename_i p r
    split at h
    · rename_i cj fs he0
      split at h
      · rename_i hcj
        subst hcj
        split at h
        · rename_i v hv
          cases h
          exact va_get (D := D) (v := ae_v ad ro v) hx hb hts hin hown hK hP p (ae_w_get he0) hci kk hkN (hts _ hw) (fun _ z => z) (by rw [List.getElem?_map, hv]; rfl) hdg (G ad H locs cells slots ls hP hD hS hc hs hl had)
        · cases h
      · cases h
    · cases h
  · cases h
theorem ok_getN (X : ae_X p l e R s m args below meth c D dA ro A B ra own nm cc nL ret KF SF d hd) {C : String} {T : u_T} {N ci kk index : Nat} (hci : classes[ci]? = some (C, T, N)) (hin : ∀ w ∈ u_ws C T N, w ∈ aw_all) (hkN : kk < N) {host : String} (hw : Jvm.Cond.fieldLinkNest own index (T kk).1 (T kk).2.1 (T kk).2.2.1 host ∈ aw_all) (hdg : decode cc pc = .ok (.getfield index, 3)) : ae_Ok p l e R s m args below meth c Q D dA ro A nL B ad0 n0 ra KF SF pc (o_get ci kk (pc + 3)) := by
  obtain ⟨hx, hb, hml, hown, hts, hr, hlk, hnm, hK, hRO, hA, hfr, hlo, hKF, hSF, hxt, hst⟩ := X
  intro σ L k σ' L' k' pc' h hcl hn0 hF G ad H locs cells slots ls hP hD hS hc hs hl had
  simp only [o_get] at h
  split at h
  · rename_i p r
    split at h
    · rename_i cj fs he0
      split at h
      · rename_i hcj
        subst hcj
        split at h
        · rename_i v hv
          cases h
          exact va_getN (D := D) (v := ae_v ad ro v) hx hb hts hin hown hK hP p (ae_w_get he0) hci kk hkN (hts _ hw) (fun _ z => z) (by rw [List.getElem?_map, hv]; rfl) hdg (G ad H locs cells slots ls hP hD hS hc hs hl had)
        · cases h
      · cases h
    · cases h
  · cases h
theorem ok_put (X : ae_X p l e R s m args below meth c D dA ro A B ra own nm cc nL ret KF SF d hd) {C : String} {T : u_T} {N ci kk index : Nat} (hci : classes[ci]? = some (C, T, N)) (hin : ∀ w ∈ u_ws C T N, w ∈ aw_all) (hkN : kk < N) (hw : Jvm.Cond.fieldLink own index (T kk).1 (T kk).2.1 (T kk).2.2.1 ∈ aw_all) (ty0 : Nat → FieldType) (hty : ∀ k, k < N → parseFieldDescriptor (T k).2.2.1 = some (ty0 k)) (hnm0 : ∀ a, a < N → ∀ b, b < N → a ≠ b → (T a).2.1 ≠ (T b).2.1) {ok : Value → Bool} {ty : FieldType} (hd : parseFieldDescriptor (T kk).2.2.1 = some ty) (hok : ∀ (v : Value) (ad ro : Nat → Nat), ok v = true → narrow ty (ae_v ad ro v) = ae_v ad ro v ∧ fits ty (ae_v ad ro v) = true) (hfin : (T kk).2.2.2 = false) (hdg : decode cc pc = .ok (.putfield index, 3)) : ae_Ok p l e R s m args below meth c Q D dA ro A nL B ad0 n0 ra KF SF pc (o_put ci kk ok (pc + 3)) := by
  obtain ⟨hx, hb, hml, hown, hts, hr, hlk, hnm, hK, hRO, hA, hfr, hlo, hKF, hSF, hxt, hst⟩ := X
  intro σ L k σ' L' k' pc' h hcl hn0 hF G ad H locs cells slots ls hP hD hS hc hs hl had
  simp only [o_put] at h
  split at h
  · rename_i v p r
    split at h
    · rename_i cj fs he0
      split at h
      · rename_i hcj
        obtain ⟨hcj, hov, hlen⟩ := hcj
        subst hcj
        cases h
        have e0 : (ae_w ad ro dA σ.2).set p (ad p, .inr (cj, (fs.map (ae_v ad ro)).set kk (ae_v ad ro v))) = ae_w ad ro dA (σ.2.set p (.inr (cj, fs.set kk v))) := by
          rw [← ae_w_set]
          simp [ae_c, List.map_set]
        exact va_put (D := D) (v := ae_v ad ro v) hx hb hts hin ty0 hty hnm0 hown hK hP hD hS p (ae_w_get he0) hci kk hkN (hts _ hw) (fun _ z => z) hfin hd (hok v ad ro hov).1 (hok v ad ro hov).2 (by simpa using hlen) hdg (fun H1 locs1 hP1 hD1 hS1 => G ad H1 locs1 cells slots ls (e0 ▸ hP1) (e0 ▸ hD1) hS1 hc hs hl had)
      · cases h
    · cases h
  · cases h
theorem ok_putN (X : ae_X p l e R s m args below meth c D dA ro A B ra own nm cc nL ret KF SF d hd) {C : String} {T : u_T} {N ci kk index : Nat} (hci : classes[ci]? = some (C, T, N)) (hin : ∀ w ∈ u_ws C T N, w ∈ aw_all) (hkN : kk < N) {host : String} (hw : Jvm.Cond.fieldLinkNest own index (T kk).1 (T kk).2.1 (T kk).2.2.1 host ∈ aw_all) (ty0 : Nat → FieldType) (hty : ∀ k, k < N → parseFieldDescriptor (T k).2.2.1 = some (ty0 k)) (hnm0 : ∀ a, a < N → ∀ b, b < N → a ≠ b → (T a).2.1 ≠ (T b).2.1) {ok : Value → Bool} {ty : FieldType} (hd : parseFieldDescriptor (T kk).2.2.1 = some ty) (hok : ∀ (v : Value) (ad ro : Nat → Nat), ok v = true → narrow ty (ae_v ad ro v) = ae_v ad ro v ∧ fits ty (ae_v ad ro v) = true) (hfin : (T kk).2.2.2 = false) (hdg : decode cc pc = .ok (.putfield index, 3)) : ae_Ok p l e R s m args below meth c Q D dA ro A nL B ad0 n0 ra KF SF pc (o_put ci kk ok (pc + 3)) := by
  obtain ⟨hx, hb, hml, hown, hts, hr, hlk, hnm, hK, hRO, hA, hfr, hlo, hKF, hSF, hxt, hst⟩ := X
  intro σ L k σ' L' k' pc' h hcl hn0 hF G ad H locs cells slots ls hP hD hS hc hs hl had
  simp only [o_put] at h
  split at h
  · rename_i v p r
    split at h
    · rename_i cj fs he0
      split at h
      · rename_i hcj
        obtain ⟨hcj, hov, hlen⟩ := hcj
        subst hcj
        cases h
        have e0 : (ae_w ad ro dA σ.2).set p (ad p, .inr (cj, (fs.map (ae_v ad ro)).set kk (ae_v ad ro v))) = ae_w ad ro dA (σ.2.set p (.inr (cj, fs.set kk v))) := by
          rw [← ae_w_set]
          simp [ae_c, List.map_set]
        exact va_putN (D := D) (v := ae_v ad ro v) hx hb hts hin ty0 hty hnm0 hown hK hP hD hS p (ae_w_get he0) hci kk hkN (hts _ hw) (fun _ z => z) hfin hd (hok v ad ro hov).1 (hok v ad ro hov).2 (by simpa using hlen) hdg (fun H1 locs1 hP1 hD1 hS1 => G ad H1 locs1 cells slots ls (e0 ▸ hP1) (e0 ▸ hD1) hS1 hc hs hl had)
      · cases h
    · cases h
  · cases h
theorem ok_putF (X : ae_X p l e R s m args below meth c D dA ro A B ra own nm cc nL ret KF SF d hd) {C : String} {T : u_T} {N ci kk index : Nat} (hci : classes[ci]? = some (C, T, N)) (hin : ∀ w ∈ u_ws C T N, w ∈ aw_all) (hkN : kk < N) (hw : Jvm.Cond.fieldLink own index (T kk).1 (T kk).2.1 (T kk).2.2.1 ∈ aw_all) (ty0 : Nat → FieldType) (hty : ∀ k, k < N → parseFieldDescriptor (T k).2.2.1 = some (ty0 k)) (hnm0 : ∀ a, a < N → ∀ b, b < N → a ≠ b → (T a).2.1 ≠ (T b).2.1) {ok : Value → Bool} {ty : FieldType} (hd : parseFieldDescriptor (T kk).2.2.1 = some ty) (hok : ∀ (v : Value) (ad ro : Nat → Nat), ok v = true → narrow ty (ae_v ad ro v) = ae_v ad ro v ∧ fits ty (ae_v ad ro v) = true) (hfin : (T kk).2.2.2 = true) (hini0 : nm = "<init>") (hdec : (T kk).1 = own) (hdg : decode cc pc = .ok (.putfield index, 3)) : ae_Ok p l e R s m args below meth c Q D dA ro A nL B ad0 n0 ra KF SF pc (o_put ci kk ok (pc + 3)) := by
  obtain ⟨hx, hb, hml, hown, hts, hr, hlk, hnm, hK, hRO, hA, hfr, hlo, hKF, hSF, hxt, hst⟩ := X
  intro σ L k σ' L' k' pc' h hcl hn0 hF G ad H locs cells slots ls hP hD hS hc hs hl had
  simp only [o_put] at h
  split at h
  · rename_i v p r
    split at h
    · rename_i cj fs he0
      split at h
      · rename_i hcj
        obtain ⟨hcj, hov, hlen⟩ := hcj
        subst hcj
        cases h
        have e0 : (ae_w ad ro dA σ.2).set p (ad p, .inr (cj, (fs.map (ae_v ad ro)).set kk (ae_v ad ro v))) = ae_w ad ro dA (σ.2.set p (.inr (cj, fs.set kk v))) := by
          rw [← ae_w_set]
          simp [ae_c, List.map_set]
        exact va_putF (D := D) (v := ae_v ad ro v) hx hb hts hin ty0 hty hnm0 hown hK hP hD hS p (ae_w_get he0) hci kk hkN (hts _ hw) (fun _ z => z) hfin (hnm.trans hini0) hdec hd (hok v ad ro hov).1 (hok v ad ro hov).2 (by simpa using hlen) hdg (fun H1 locs1 hP1 hD1 hS1 => G ad H1 locs1 cells slots ls (e0 ▸ hP1) (e0 ▸ hD1) hS1 hc hs hl had)
      · cases h
    · cases h
  · cases h
theorem ok_ia (X : ae_X p l e R s m args below meth c D dA ro A B ra own nm cc nL ret KF SF d hd)  (hdg : decode cc pc = .ok (.iaload, 1)) : ae_Ok p l e R s m args below meth c Q D dA ro A nL B ad0 n0 ra KF SF pc (o_ia (pc + 1)) := by
  obtain ⟨hx, hb, hml, hown, hts, hr, hlk, hnm, hK, hRO, hA, hfr, hlo, hKF, hSF, hxt, hst⟩ := X
  intro σ L k σ' L' k' pc' h hcl hn0 hF G ad H locs cells slots ls hP hD hS hc hs hl had
  simp only [o_ia] at h
  split at h
  · rename_i i p r
    split at h
    · rename_i t n f he0
      split at h
      · rename_i hq
        obtain ⟨hq0, hq⟩ := hq
        subst hq0
        cases h
        exact va_iald hx hb hK hP p 0 (ae_w_get he0) rfl hq hdg (G ad H locs cells slots ls hP hD hS hc hs hl had)
      · cases h
    · cases h
  · rename_i i q r
    split at h
    · rename_i hq
      cases h
      exact va_ti hx hb (hRO.1 q hq.1) hS hq.2 rfl hdg (G ad H locs cells slots ls hP hD hS hc hs hl had)
    · cases h
  · cases h
theorem ok_la (X : ae_X p l e R s m args below meth c D dA ro A B ra own nm cc nL ret KF SF d hd)  (hdg : decode cc pc = .ok (.laload, 1)) : ae_Ok p l e R s m args below meth c Q D dA ro A nL B ad0 n0 ra KF SF pc (o_la (pc + 1)) := by
  obtain ⟨hx, hb, hml, hown, hts, hr, hlk, hnm, hK, hRO, hA, hfr, hlo, hKF, hSF, hxt, hst⟩ := X
  intro σ L k σ' L' k' pc' h hcl hn0 hF G ad H locs cells slots ls hP hD hS hc hs hl had
  simp only [o_la] at h
  split at h
  · rename_i i p r
    split at h
    · rename_i t n f he0
      split at h
      · rename_i hq
        obtain ⟨hq0, hq⟩ := hq
        subst hq0
        cases h
        exact va_lald hx hb hK hP p 3 (ae_w_get he0) rfl hq hdg (G ad H locs cells slots ls hP hD hS hc hs hl had)
      · cases h
    · cases h
  · cases h
theorem ok_ba (X : ae_X p l e R s m args below meth c D dA ro A B ra own nm cc nL ret KF SF d hd)  (hdg : decode cc pc = .ok (.baload, 1)) : ae_Ok p l e R s m args below meth c Q D dA ro A nL B ad0 n0 ra KF SF pc (o_ba (pc + 1)) := by
  obtain ⟨hx, hb, hml, hown, hts, hr, hlk, hnm, hK, hRO, hA, hfr, hlo, hKF, hSF, hxt, hst⟩ := X
  intro σ L k σ' L' k' pc' h hcl hn0 hF G ad H locs cells slots ls hP hD hS hc hs hl had
  simp only [o_ba] at h
  split at h
  · rename_i i p r
    split at h
    · rename_i t n f he0
      split at h
      · rename_i hq
        obtain ⟨hq0, hq⟩ := hq
        cases h
        rcases hq0 with hq0 | hq0
        · subst hq0
          exact va_bald hx hb hK hP p 1 (ae_w_get he0) rfl hq hdg (G ad H locs cells slots ls hP hD hS hc hs hl had)
        · subst hq0
          exact va_zald hx hb hK hP p 2 (ae_w_get he0) rfl hq hdg (G ad H locs cells slots ls hP hD hS hc hs hl had)
      · cases h
    · cases h
  · cases h
theorem ae_ty_o (dA : Nat → ClassId) {t : Nat} (h : 4 ≤ t ∧ t < 10) : ∃ r : vw_C, classes[ae_ec t]? = some r ∧ (ae_ty dA)[t]? = some (dA t, .object r.1) := by
  have h1 : t = 4 ∨ t = 5 ∨ t = 6 ∨ t = 7 ∨ t = 8 ∨ t = 9 := by omega
  rcases h1 with h1 | h1 | h1 | h1 | h1 | h1 <;> subst h1 <;> exact ⟨_, rfl, rfl⟩
theorem ae_ty_a (dA : Nat → ClassId) {t : Nat} (h : t < 10) : ∃ ty, (ae_ty dA)[t]? = some (dA t, ty) := by
  have h1 : t = 0 ∨ t = 1 ∨ t = 2 ∨ t = 3 ∨ t = 4 ∨ t = 5 ∨ t = 6 ∨ t = 7 ∨ t = 8 ∨ t = 9 := by omega
  rcases h1 with h1 | h1 | h1 | h1 | h1 | h1 | h1 | h1 | h1 | h1 <;> subst h1 <;> exact ⟨_, rfl⟩

theorem ok_aa (X : ae_X p l e R s m args below meth c D dA ro A B ra own nm cc nL ret KF SF d hd)  (hdg : decode cc pc = .ok (.aaload, 1)) : ae_Ok p l e R s m args below meth c Q D dA ro A nL B ad0 n0 ra KF SF pc (o_aa (pc + 1)) := by
  obtain ⟨hx, hb, hml, hown, hts, hr, hlk, hnm, hK, hRO, hA, hfr, hlo, hKF, hSF, hxt, hst⟩ := X
  intro σ L k σ' L' k' pc' h hcl hn0 hF G ad H locs cells slots ls hP hD hS hc hs hl had
  simp only [o_aa] at h
  split at h
  · rename_i i p r
    split at h
    · rename_i t n f he0
      split at h
      · rename_i hq
        cases h
        obtain ⟨r0, -, ht0⟩ := ae_ty_o dA hq.1
        have G2 := (G ad H locs cells slots ls hP hD hS hc hs hl had)
        simp only [List.map_cons, ae_rf] at G2
        exact va_aldq hx hb hK hP p t (ae_w_get he0) ht0 hq.2 hdg G2
      · cases h
    · cases h
  · cases h
theorem ok_ias (X : ae_X p l e R s m args below meth c D dA ro A B ra own nm cc nL ret KF SF d hd)  (hdg : decode cc pc = .ok (.iastore, 1)) : ae_Ok p l e R s m args below meth c Q D dA ro A nL B ad0 n0 ra KF SF pc (o_ias (pc + 1)) := by
  obtain ⟨hx, hb, hml, hown, hts, hr, hlk, hnm, hK, hRO, hA, hfr, hlo, hKF, hSF, hxt, hst⟩ := X
  intro σ L k σ' L' k' pc' h hcl hn0 hF G ad H locs cells slots ls hP hD hS hc hs hl had
  simp only [o_ias] at h
  split at h
  · rename_i x i p r
    split at h
    · rename_i t n f he0
      split at h
      · rename_i hq
        obtain ⟨hq0, hq⟩ := hq
        subst hq0
        cases h
        have e0 := ae_w_set ad ro dA σ.2 p (.inl (0, n, .inl (upd f i.toNatClampNeg x)))
        exact va_iast hx hb hK hP hD hS p 0 (ae_w_get he0) rfl hq hdg (fun H1 locs1 hP1 hD1 hS1 => G ad H1 locs1 cells slots ls (e0 ▸ hP1) (e0 ▸ hD1) hS1 hc hs hl had)
      · cases h
    · cases h
  · cases h
theorem ok_las (X : ae_X p l e R s m args below meth c D dA ro A B ra own nm cc nL ret KF SF d hd)  (hdg : decode cc pc = .ok (.lastore, 1)) : ae_Ok p l e R s m args below meth c Q D dA ro A nL B ad0 n0 ra KF SF pc (o_las (pc + 1)) := by
  obtain ⟨hx, hb, hml, hown, hts, hr, hlk, hnm, hK, hRO, hA, hfr, hlo, hKF, hSF, hxt, hst⟩ := X
  intro σ L k σ' L' k' pc' h hcl hn0 hF G ad H locs cells slots ls hP hD hS hc hs hl had
  simp only [o_las] at h
  split at h
  · rename_i x i p r
    split at h
    · rename_i t n f he0
      split at h
      · rename_i hq
        obtain ⟨hq0, hq⟩ := hq
        subst hq0
        cases h
        have e0 := ae_w_set ad ro dA σ.2 p (.inl (3, n, .inr (.inl (vp_updL f i.toNatClampNeg x))))
        exact va_last hx hb hK hP hD hS p 3 (ae_w_get he0) rfl hq hdg (fun H1 locs1 hP1 hD1 hS1 => G ad H1 locs1 cells slots ls (e0 ▸ hP1) (e0 ▸ hD1) hS1 hc hs hl had)
      · cases h
    · cases h
  · cases h
theorem ok_bas (X : ae_X p l e R s m args below meth c D dA ro A B ra own nm cc nL ret KF SF d hd)  (hdg : decode cc pc = .ok (.bastore, 1)) : ae_Ok p l e R s m args below meth c Q D dA ro A nL B ad0 n0 ra KF SF pc (o_bas (pc + 1)) := by
  obtain ⟨hx, hb, hml, hown, hts, hr, hlk, hnm, hK, hRO, hA, hfr, hlo, hKF, hSF, hxt, hst⟩ := X
  intro σ L k σ' L' k' pc' h hcl hn0 hF G ad H locs cells slots ls hP hD hS hc hs hl had
  simp only [o_bas] at h
  split at h
  · rename_i x i p r
    split at h
    · rename_i t n f he0
      split at h
      · rename_i hq
        split at h
        · rename_i hq0
          subst hq0
          cases h
          have e0 := ae_w_set ad ro dA σ.2 p (.inl (1, n, .inl (upd f i.toNatClampNeg (vp_nar .byte x))))
          exact va_bast hx hb hK hP hD hS p 1 (ae_w_get he0) rfl hq hdg (fun H1 locs1 hP1 hD1 hS1 => G ad H1 locs1 cells slots ls (e0 ▸ hP1) (e0 ▸ hD1) hS1 hc hs hl had)
        · split at h
          · rename_i hq0
            subst hq0
            cases h
            have e0 := ae_w_set ad ro dA σ.2 p (.inl (2, n, .inl (upd f i.toNatClampNeg (vp_nar .boolean x))))
            exact va_zast hx hb hK hP hD hS p 2 (ae_w_get he0) rfl hq hdg (fun H1 locs1 hP1 hD1 hS1 => G ad H1 locs1 cells slots ls (e0 ▸ hP1) (e0 ▸ hD1) hS1 hc hs hl had)
          · cases h
      · cases h
    · cases h
  · cases h
theorem ok_aas (X : ae_X p l e R s m args below meth c D dA ro A B ra own nm cc nL ret KF SF d hd)  (hdg : decode cc pc = .ok (.aastore, 1)) : ae_Ok p l e R s m args below meth c Q D dA ro A nL B ad0 n0 ra KF SF pc (o_aas (pc + 1)) := by
  obtain ⟨hx, hb, hml, hown, hts, hr, hlk, hnm, hK, hRO, hA, hfr, hlo, hKF, hSF, hxt, hst⟩ := X
  intro σ L k σ' L' k' pc' h hcl hn0 hF G ad H locs cells slots ls hP hD hS hc hs hl had
  simp only [o_aas] at h
  split at h
  · rename_i q i p r
    split at h
    · rename_i t n f ci vs he0 he1
      split at h
      · rename_i hq
        obtain ⟨⟨hq1, hq2, hq3⟩, hq⟩ := hq
        cases h
        obtain ⟨r0, hr0, ht0⟩ := ae_ty_o dA ⟨hq1, hq2⟩
        have e0 := ae_w_set ad ro dA σ.2 p (.inl (t, n, .inr (.inr (.inr (.inr (va_up f i.toNatClampNeg (some q)))))))
        simp only [ae_c, ae_a, ae_upm, Option.map_some] at e0
        exact va_astq hx hb hK hP hD hS p t q ci (ae_w_get he0) ht0 (ae_w_get he1) (hq3 ▸ hr0) hq hdg (fun H1 locs1 hP1 hD1 hS1 => G ad H1 locs1 cells slots ls (e0 ▸ hP1) (e0 ▸ hD1) hS1 hc hs hl had)
      · cases h
    · cases h
  · rename_i i p r
    split at h
    · rename_i t n f he0
      split at h
      · rename_i hq
        cases h
        obtain ⟨r0, hr0, ht0⟩ := ae_ty_o dA hq.1
        have e0 := ae_w_set ad ro dA σ.2 p (.inl (t, n, .inr (.inr (.inr (.inr (va_up f i.toNatClampNeg none))))))
        simp only [ae_c, ae_a, ae_upm, Option.map_none] at e0
        exact va_astqN hx hb hK hP hD hS p t (ae_w_get he0) ht0 hq.2 hdg (fun H1 locs1 hP1 hD1 hS1 => G ad H1 locs1 cells slots ls (e0 ▸ hP1) (e0 ▸ hD1) hS1 hc hs hl had)
      · cases h
    · cases h
  · cases h
theorem ok_len (X : ae_X p l e R s m args below meth c D dA ro A B ra own nm cc nL ret KF SF d hd)  (hdg : decode cc pc = .ok (.arraylength, 1)) : ae_Ok p l e R s m args below meth c Q D dA ro A nL B ad0 n0 ra KF SF pc (o_len (pc + 1)) := by
  obtain ⟨hx, hb, hml, hown, hts, hr, hlk, hnm, hK, hRO, hA, hfr, hlo, hKF, hSF, hxt, hst⟩ := X
  intro σ L k σ' L' k' pc' h hcl hn0 hF G ad H locs cells slots ls hP hD hS hc hs hl had
  simp only [o_len] at h
  split at h
  · rename_i p r
    split at h
    · rename_i t n x he0
      split at h
      · rename_i hq
        cases h
        obtain ⟨ty, ht0⟩ := ae_ty_a dA hq
        exact va_alen hx hb hK hP p t (ae_w_get he0) ht0 rfl hdg (G ad H locs cells slots ls hP hD hS hc hs hl had)
      · cases h
    · cases h
  · rename_i q r
    split at h
    · rename_i hq
      cases h
      exact va_tlen hx hb (hRO.1 q hq) hS rfl hdg (G ad H locs cells slots ls hP hD hS hc hs hl had)
    · cases h
  · cases h
theorem ok_new (X : ae_X p l e R s m args below meth c D dA ro A B ra own nm cc nL ret KF SF d hd) {C : String} {T : u_T} {N ci index : Nat} {fs : List Value} (hci : classes[ci]? = some (C, T, N)) (hin : ∀ w ∈ u_ws C T N, w ∈ aw_all) (ty0 : Nat → FieldType) (hty : ∀ k, k < N → parseFieldDescriptor (T k).2.2.1 = some (ty0 k)) (hw1 : Jvm.Cond.classLink own index C ∈ aw_all) (hw2 : Jvm.Cond.instantiable C N ∈ aw_all) (hw3 : Jvm.Cond.initialized C ∈ aw_all) (hfs : ∀ j, j < N → defaultValue (ty0 j) = vp_V fs j) (hfc : ∀ ad ro : Nat → Nat, fs.map (ae_v ad ro) = fs) (hfl : ∀ n, ∀ v ∈ fs, ae_cv n v) (hdg : decode cc pc = .ok (.new index, 3)) : ae_Ok p l e R s m args below meth c Q D dA ro A nL B ad0 n0 ra KF SF pc (o_new ci N fs (pc + 3)) := by
  obtain ⟨hx, hb, hml, hown, hts, hr, hlk, hnm, hK, hRO, hA, hfr, hlo, hKF, hSF, hxt, hst⟩ := X
  intro σ L k σ' L' k' pc' h hcl hn0 hF G ad H locs cells slots ls hP hD hS hc hs hl had
  simp only [o_new] at h
  cases h
  have hF1 : σ.1.1 + 1 ≤ KF := hF.1
  have hF2 : σ.1.2 + N ≤ SF := hF.2
  refine va_new (D := D) (c0 := c) hx hb hts hin ty0 hty hown (hts _ hw1) (hts _ hw2) (hts _ hw3) hK hP hD hS hA hci (fs := fs) hfs (by omega) (by omega) hdg (fun q H1 hP1 hD1 hS1 => ?_)
  have e0 := ae_w_push (ad := ad) (ro := ro) (dA := dA) q (.inr (ci, fs)) hcl.1 (hfl _)
  simp only [ae_c, hfc] at e0
  have e3 : (Value.ref σ.2.length :: k).map (ae_v (ae_up ad σ.2.length q) ro) = .ref q :: k.map (ae_v ad ro) := by
    rw [List.map_cons, ae_k_eq ae_up_lt hcl.2.2]
    simp [ae_v, ae_up_self]
  have G2 := G (ae_up ad σ.2.length q) H1 locs (cells + 1) (slots + N) ls (by rw [e0]; exact hP1) (by rw [e0]; exact hD1) hS1 (by show B.1 + (cells + 1) = σ.1.1 + 1; omega) (by show B.2 + (slots + N) = σ.1.2 + N; omega) (ae_L_up ae_up_lt hcl.2.1 hl) (fun z hz => by rw [ae_up_lt z (by omega)]; exact had z hz)
  rw [e3] at G2
  exact G2
theorem ok_na (X : ae_X p l e R s m args below meth c D dA ro A B ra own nm cc nL ret KF SF d hd) {atype : ArrayType} {t : Nat} {ty : FieldType} (hat : newarray.typeOf atype = ty) (htt : ∀ dA : Nat → ClassId, (ae_ty dA)[t]? = some (dA t, ty)) (hw : Jvm.Cond.arrayClass (newarray.typeOf atype) ∈ aw_all) (hz : ∀ (cA : ClassId) (n : Nat), vp_cell cA (ae_zero t n) = arrV cA n (fun _ => defaultValue ty)) (hcb : componentBytes ty ≤ 8) (hza : ∀ (ad : Nat → Nat) (n : Nat), ae_a ad (ae_zero t n) = ae_zero t n) (hdg : decode cc pc = .ok (.newarray atype, 2)) : ae_Ok p l e R s m args below meth c Q D dA ro A nL B ad0 n0 ra KF SF pc (o_na t (pc + 2)) := by
  obtain ⟨hx, hb, hml, hown, hts, hr, hlk, hnm, hK, hRO, hA, hfr, hlo, hKF, hSF, hxt, hst⟩ := X
  intro σ L k σ' L' k' pc' h hcl hn0 hF G ad H locs cells slots ls hP hD hS hc hs hl had
  simp only [o_na] at h
  split at h
  case h_2 => cases h
  rename_i i r
  split at h
  case isFalse => cases h
  rename_i hq
  cases h
  have hF1 : σ.1.1 + 1 ≤ KF := hF.1
  have hF2 : σ.1.2 + i.toNatClampNeg ≤ SF := hF.2
  refine va_newa (D := D) hx hb (hts _ hw) hat hK hP hD hS hA (a0 := ae_zero t i.toNatClampNeg) (fun cA => hz cA _) hq.1 rfl (Nat.le_trans (Nat.mul_le_mul_left _ hcb) hq.2) (by omega) (by omega) hdg (fun q cA H1 hK1 hP1 hD1 hS1 => ?_)
  have hcA : cA = dA t := ae_uq (hK1.2 (ae_ty dA).length (cA, ty) (by simp)).2 (hK.2 t _ (htt dA)).2
  subst hcA
  have e0 := ae_w_push (ad := ad) (ro := ro) (dA := dA) q (.inl (t, ae_zero t i.toNatClampNeg)) hcl.1 (cc_zero _ _ _)
  simp only [ae_c, hza] at e0
  have e3 : (Value.ref σ.2.length :: r).map (ae_v (ae_up ad σ.2.length q) ro) = .ref q :: r.map (ae_v ad ro) := by
    rw [List.map_cons, ae_k_eq ae_up_lt (ck_t hcl.2.2)]
    simp [ae_v, ae_up_self]
  have G2 := G (ae_up ad σ.2.length q) H1 locs (cells + 1) (slots + i.toNatClampNeg) ls (by rw [e0]; exact hP1) (by rw [e0]; exact hD1) hS1 (by show B.1 + (cells + 1) = σ.1.1 + 1; omega) (by show B.2 + (slots + i.toNatClampNeg) = σ.1.2 + i.toNatClampNeg; omega) (ae_L_up ae_up_lt hcl.2.1 hl) (fun z hz => by rw [ae_up_lt z (by omega)]; exact had z hz)
  rw [e3] at G2
  exact G2
theorem ok_nq (X : ae_X p l e R s m args below meth c D dA ro A B ra own nm cc nL ret KF SF d hd) {t index : Nat} {C : String} (htt : ∀ dA : Nat → ClassId, (ae_ty dA)[t]? = some (dA t, .object C)) (hw1 : Jvm.Cond.classLink own index C ∈ aw_all) (hw2 : Jvm.Cond.arrayOver (.object C) ∈ aw_all) (hdg : decode cc pc = .ok (.anewarray index, 3)) : ae_Ok p l e R s m args below meth c Q D dA ro A nL B ad0 n0 ra KF SF pc (o_nq t (pc + 3)) := by
  obtain ⟨hx, hb, hml, hown, hts, hr, hlk, hnm, hK, hRO, hA, hfr, hlo, hKF, hSF, hxt, hst⟩ := X
  intro σ L k σ' L' k' pc' h hcl hn0 hF G ad H locs cells slots ls hP hD hS hc hs hl had
  simp only [o_nq] at h
  split at h
  case h_2 => cases h
  rename_i i r
  split at h
  case isFalse => cases h
  rename_i hq
  cases h
  have hF1 : σ.1.1 + 1 ≤ KF := hF.1
  have hF2 : σ.1.2 + i.toNatClampNeg ≤ SF := hF.2
  refine va_newq (D := D) hx hb hown (hts _ hw1) (va_AO.of (hts _ hw2)) hK hP hD hS hA hq.1 rfl (by omega) (by omega) (by omega) hdg (fun q cA H1 hK1 hP1 hD1 hS1 => ?_)
  have hcA : cA = dA t := ae_uq (hK1.2 (ae_ty dA).length (cA, .object C) (by simp)).2 (hK.2 t _ (htt dA)).2
  subst hcA
  have e0 := ae_w_push (ad := ad) (ro := ro) (dA := dA) q (.inl (t, i.toNatClampNeg, .inr (.inr (.inr (.inr (fun _ => none)))))) hcl.1 (fun i p hp => by cases hp)
  simp only [ae_c, ae_a, Option.map_none] at e0
  have e3 : (Value.ref σ.2.length :: r).map (ae_v (ae_up ad σ.2.length q) ro) = .ref q :: r.map (ae_v ad ro) := by
    rw [List.map_cons, ae_k_eq ae_up_lt (ck_t hcl.2.2)]
    simp [ae_v, ae_up_self]
  have G2 := G (ae_up ad σ.2.length q) H1 locs (cells + 1) (slots + i.toNatClampNeg) ls (by rw [e0]; exact hP1) (by rw [e0]; exact hD1) hS1 (by show B.1 + (cells + 1) = σ.1.1 + 1; omega) (by show B.2 + (slots + i.toNatClampNeg) = σ.1.2 + i.toNatClampNeg; omega) (ae_L_up ae_up_lt hcl.2.1 hl) (fun z hz => by rw [ae_up_lt z (by omega)]; exact had z hz)
  rw [e3] at G2
  exact G2
theorem ok_oi (X : ae_X p l e R s m args below meth c D dA ro A B ra own nm cc nL ret KF SF d hd) {index : Nat} (hw1 : Jvm.Cond.methodLink own index Lib.objectInit ∈ aw_all) (hw2 : Jvm.Cond.instanceMethod Lib.objectInit ∈ aw_all) (hw3 : Jvm.Cond.code Lib.objectInit ⟨#[0xb1]⟩ 1 none ∈ aw_all) (hdg : decode cc pc = .ok (.invokespecial index, 3)) : ae_Ok p l e R s m args below meth c Q D dA ro A nL B ad0 n0 ra KF SF pc (o_oi (pc + 3)) := by
  obtain ⟨hx, hb, hml, hown, hts, hr, hlk, hnm, hK, hRO, hA, hfr, hlo, hKF, hSF, hxt, hst⟩ := X
  intro σ L k σ' L' k' pc' h hcl hn0 hF G ad H locs cells slots ls hP hD hS hc hs hl had
  simp only [o_oi] at h
  split at h
  · rename_i p r
    split at h
    · rename_i hq
      cases h
      have hq2 : ((k'.map (ae_v ad ro)).map fun v => v.category).sum ≤ 8 := by rw [ae_cat_map]; exact hq
      have hq3 := lv_room (m := m) (pc := pc) (ls := ls) (rest := (Value.ref p :: k').map (ae_v ad ro)) hq2
      exact W.objInit hx hb hown (hts _ hw1) (hts _ hw2) (hts _ hw3) rfl (hl.2.1.trans hml.symm) (a := ad p) (rest := k'.map (ae_v ad ro)) rfl hdg (by omega) (by omega) (G ad H locs cells slots ls hP hD hS hc hs hl had)
    · cases h
  · cases h
theorem ok_mn (X : ae_X p l e R s m args below meth c D dA ro A B ra own nm cc nL ret KF SF d hd) {index : Nat} (hw1 : Jvm.Cond.methodLink own index Lib.Math.min.name ∈ aw_all) (hw2 : Jvm.Cond.static Lib.Math.min.name ∈ aw_all) (hw3 : Jvm.Cond.initialized "java/lang/Math" ∈ aw_all) (hw4 : Jvm.Cond.code Lib.Math.min.name Lib.Math.min.code 2 (some .int) ∈ aw_all) (hdg : decode cc pc = .ok (.invokestatic index, 3)) : ae_Ok p l e R s m args below meth c Q D dA ro A nL B ad0 n0 ra KF SF pc (o_mn (pc + 3)) := by
  obtain ⟨hx, hb, hml, hown, hts, hr, hlk, hnm, hK, hRO, hA, hfr, hlo, hKF, hSF, hxt, hst⟩ := X
  intro σ L k σ' L' k' pc' h hcl hn0 hF G ad H locs cells slots ls hP hD hS hc hs hl had
  simp only [o_mn] at h
  split at h
  · rename_i y x r
    split at h
    · rename_i hq
      cases h
      have hq2 : ((r.map (ae_v ad ro)).map fun v => v.category).sum ≤ 8 := by rw [ae_cat_map]; exact hq
      have hF1 : σ.1.1 ≤ KF := hF.1
      have hF2 : σ.1.2 ≤ SF := hF.2
      exact va_mmin hx hb (hml.trans hl.2.1.symm) hown (hts _ hw1) (hts _ hw2) (hts _ hw3) (hts _ hw4) (by omega) (by omega) (by omega) (by omega) hdg (G ad H locs cells slots ls hP hD hS hc hs hl had)
    · cases h
  · cases h
theorem ok_mx (X : ae_X p l e R s m args below meth c D dA ro A B ra own nm cc nL ret KF SF d hd) {index : Nat} (hw1 : Jvm.Cond.methodLink own index Lib.Math.max.name ∈ aw_all) (hw2 : Jvm.Cond.static Lib.Math.max.name ∈ aw_all) (hw3 : Jvm.Cond.initialized "java/lang/Math" ∈ aw_all) (hw4 : Jvm.Cond.code Lib.Math.max.name Lib.Math.max.code 2 (some .int) ∈ aw_all) (hdg : decode cc pc = .ok (.invokestatic index, 3)) : ae_Ok p l e R s m args below meth c Q D dA ro A nL B ad0 n0 ra KF SF pc (o_mx (pc + 3)) := by
  obtain ⟨hx, hb, hml, hown, hts, hr, hlk, hnm, hK, hRO, hA, hfr, hlo, hKF, hSF, hxt, hst⟩ := X
  intro σ L k σ' L' k' pc' h hcl hn0 hF G ad H locs cells slots ls hP hD hS hc hs hl had
  simp only [o_mx] at h
  split at h
  · rename_i y x r
    split at h
    · rename_i hq
      cases h
      have hq2 : ((r.map (ae_v ad ro)).map fun v => v.category).sum ≤ 8 := by rw [ae_cat_map]; exact hq
      have hF1 : σ.1.1 ≤ KF := hF.1
      have hF2 : σ.1.2 ≤ SF := hF.2
      exact va_mmax hx hb (hml.trans hl.2.1.symm) hown (hts _ hw1) (hts _ hw2) (hts _ hw3) (hts _ hw4) (by omega) (by omega) (by omega) (by omega) hdg (G ad H locs cells slots ls hP hD hS hc hs hl had)
    · cases h
  · cases h
theorem ok_cp (X : ae_X p l e R s m args below meth c D dA ro A B ra own nm cc nL ret KF SF d hd) {index : Nat} (hw1 : Jvm.Cond.methodLink own index arraycopyName ∈ aw_all) (hw2 : Jvm.Cond.native arraycopyName ∈ aw_all) (hw3 : Jvm.Cond.static arraycopyName ∈ aw_all) (hw4 : Jvm.Cond.initialized "java/lang/System" ∈ aw_all) (hnf : nativeFrameWords "java/lang/System" "arraycopy" 5 ≤ 21) (hdg : decode cc pc = .ok (.invokestatic index, 3)) : ae_Ok p l e R s m args below meth c Q D dA ro A nL B ad0 n0 ra KF SF pc (o_cp (pc + 3)) := by
  obtain ⟨hx, hb, hml, hown, hts, hr, hlk, hnm, hK, hRO, hA, hfr, hlo, hKF, hSF, hxt, hst⟩ := X
  intro σ L k σ' L' k' pc' h hcl hn0 hF G ad H locs cells slots ls hP hD hS hc hs hl had
  simp only [o_cp] at h
  split at h
  · rename_i n dp p sp q r
    split at h
    · rename_i t0 na f t1 nb g he0 he1
      split at h
      · rename_i hq
        obtain ⟨⟨hq0, hq1, hqc⟩, ⟨hs1, hs2, hs3⟩, hs4, hs5, hs6⟩ := hq
        subst hq0
        subst hq1
        cases h
        have hq2 : ((k'.map (ae_v ad ro)).map fun v => v.category).sum ≤ 8 := by rw [ae_cat_map]; exact hqc
        have e0 := ae_w_set ad ro dA σ.2 p (.inl (1, nb, .inl (va_cpy f g sp.toNatClampNeg dp.toNatClampNeg n.toNatClampNeg)))
        exact va_copyi hx hb (hml.trans hl.2.1.symm) hown (hts _ hw1) (hts _ hw2) (hts _ hw3) (hts _ hw4) hK hP hD hS q p 1 1 (ae_w_get he0) (ae_w_get he1) rfl rfl rfl hs1 hs2 hs3 hs4 hs5 hs6 (by omega) (by omega) hdg (fun H1 locs1 hP1 hD1 hS1 => G ad H1 locs1 cells slots ls (e0 ▸ hP1) (e0 ▸ hD1) hS1 hc hs hl had)
      · cases h
    · cases h
  · cases h
theorem ok_gst (X : ae_X p l e R s m args below meth c D dA ro A B ra own nm cc nL ret KF SF d hd) {q : Nat} {C n dd : String} {index : Nat} (hz : va_Z C n dd (.ref (ro q)) A s s.heap) (hw : Jvm.Cond.fieldLink own index C n dd ∈ aw_all) (hdg : decode cc pc = .ok (.getstatic index, 3)) : ae_Ok p l e R s m args below meth c Q D dA ro A nL B ad0 n0 ra KF SF pc (o_push (.retAddr q) (pc + 3)) := by
  obtain ⟨hx, hb, hml, hown, hts, hr, hlk, hnm, hK, hRO, hA, hfr, hlo, hKF, hSF, hxt, hst⟩ := X
  intro σ L k σ' L' k' pc' h hcl hn0 hF G ad H locs cells slots ls hP hD hS hc hs hl had
  simp only [o_push] at h
  cases h
  exact va_gets hx hb hz hS hown (hts _ hw) (fun _ z => z) hdg (G ad H locs cells slots ls hP hD hS hc hs hl had)
end AEH