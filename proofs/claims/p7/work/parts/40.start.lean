/-! THE CLAIM OUT OF ONE WALK OF THE LAW'S BODY. Your part is whole_start (and what it stands on); all else here is the same for every law, but numbers. -/
def R_law : String := "TwinNetworkLaw"
def lw_P (b : Addr) (xs : List Int32) (args : Array Value) (s : State) : Prop := args = #[.ref b] ∧ s.IntsAt b xs ∧ xs.length ≤ 3584 ∧ (Jvm.Cond.and given_1 narrow_1).before args s = true
def lw_Q (_ : Array Value) (s : State) (o : Outcome) (t : State) : Prop := o = .returned (some (.int 1)) ∧ Framed s o t [] 601024 7293034
def lw_Z (below : List Frame) (a : Array Value) (s : State) : State → Prop := fun t => ∃ o, t.status = .running ∧ Ended t below o ∧ lw_Q a s o t
/-- the law's own end, with 1 on the stack, nothing written that was there before, its room as the claim has it -/
theorem lw_ret {p : Program} {l : Launch} {e : Env} {s : State} {m : MethodId} {below : List Frame} {meth : Method} {c : Code} {b : Nat} (hx : p.tables.exec = Jvm.exec) (hb : c.code = code) (hr : meth.sig.returnType = ret) (hlocks : meth.locks = false) {pc : Nat} {H : Heap} {ls : Array Slot} (hdg : decode code pc = .ok (.ireturn, 1)) : W p l e room_1 s m #[Value.ref b] below meth c H [] 601024 7293034 (lw_Z below #[Value.ref b] s) (F0 m pc ls [.int 1]) := by
  intro T hT X
  obtain ⟨fs, hret, hrun, hended, hW, hframe⟩ := X.leave (v := some (.int 1)) (hlocks := hlocks) (fun h => by rw [hr] at h; cases h)
  have hmeth' : T.vm.method? m = some meth := X.method'
  refine ⟨T.setFrames fs, ?_, .returned (some (.int 1)), hrun, hended, rfl, ⟨_, rfl⟩, hW, hframe⟩
  jvm_step X.here [X.here.top, hx, hb, hdg, hmeth', hr, ret, narrow_b1]
  (try refine ⟨rfl, ?_⟩); (try refine ⟨rfl, ?_⟩)
  first | (intro acts; rw [hret _ acts rfl rfl rfl]) | rw [hret _ _ rfl rfl rfl]
  exact Steps.refl _
/-- what holds at the law's entry: the machine, the code, the tables' words (any of lw_tbl by 'hts w (by decide +kernel)'), the script of L ints xs at the cell b, what the Statement gives of the start (any of its parts by flat_of_before) -/
def lw_At (p : Program) (s : State) (m : MethodId) (meth : Method) (c : Code) (b L : Nat) (xs : Nat → Int32) : Prop :=
  p.tables.exec = Jvm.exec ∧ c.code = code ∧ meth.sig.returnType = ret ∧ c.maxLocals = 7 ∧ s.vm.findClass R_law = some m.cls ∧ (∀ w ∈ lw_tbl, w.before #[Value.ref b] s = true) ∧ va_X b L xs s s.heap ∧ b < s.heap.size ∧ meth.locks = false ∧ (Jvm.Cond.and given_1 narrow_1).before #[Value.ref b] s = true ∧ c.exceptionTable.isEmpty = true ∧ meth.name = "law"

-- the tables
def atl : List (List (Nat × ae_I)) := [tb_0, tb_1, tb_2, tb_3, tb_4, tb_5, tb_6, tb_7, tb_8, tb_9, tb_10, tb_11, tb_12, tb_13, tb_14, tb_15, tb_16, tb_17, tb_18, tb_19, tb_20, tb_21, tb_22, tb_23, tb_24, tb_25, tb_26, tb_27, tb_28, tb_29, tb_30, tb_31, tb_32, tb_33, tb_34, tb_35, tb_36, tb_37, tb_38, tb_39, tb_40, tb_41, tb_42, tb_43, tb_44, tb_45, tb_46, tb_47, tb_48, tb_49, tb_50, tb_51, tb_52, tb_53, tb_54, tb_55, tb_56, tb_57, tb_58, tb_59, tb_60, tb_61, tb_62, tb_63, tb_64, tb_65, tb_66, tb_67, tb_68, tb_69, tb_70, tb_71, tb_72, tb_73, tb_74, tb_75, tb_76, tb_77, tb_78, tb_79, tb_80, tb_81, tb_82, tb_83, tb_84, tb_85, tb_86, tb_87, tb_88, tb_89, tb_90, tb_91, tb_92, tb_93, tb_94, tb_95, tb_96, tb_97, tb_98, tb_99, tb_100, tb_101, tb_102, tb_103, tb_104, tb_105, tb_106, tb_107, tb_108, tb_109, tb_110, tb_111, tb_112, tb_113, tb_114, tb_115, tb_116, tb_117, tb_118, tb_119, tb_120, tb_121, tb_122, tb_123, tb_124, tb_125, tb_126, tb_127, tb_128, tb_129, tb_130, tb_131, tb_132, tb_133, tb_134, tb_135, tb_136, tb_137, tb_138, tb_139, tb_140, tb_141]
def at0 : ae_At := fun i => atl.getD i []
set_option maxRecDepth 100000 in
theorem at_ok : ae_TB am at0
  | 0 => fun _ => ⟨by decide +kernel, te_0⟩
  | 1 => fun _ => ⟨by decide +kernel, te_1⟩
  | 2 => fun _ => ⟨by decide +kernel, te_2⟩
  | 3 => fun _ => ⟨by decide +kernel, te_3⟩
  | 4 => fun _ => ⟨by decide +kernel, te_4⟩
  | 5 => fun _ => ⟨by decide +kernel, te_5⟩
  | 6 => fun _ => ⟨by decide +kernel, te_6⟩
  | 7 => fun _ => ⟨by decide +kernel, te_7⟩
  | 8 => fun _ => ⟨by decide +kernel, te_8⟩
  | 9 => fun _ => ⟨by decide +kernel, te_9⟩
  | 10 => fun _ => ⟨by decide +kernel, te_10⟩
  | 11 => fun _ => ⟨by decide +kernel, te_11⟩
  | 12 => fun _ => ⟨by decide +kernel, te_12⟩
  | 13 => fun _ => ⟨by decide +kernel, te_13⟩
  | 14 => fun _ => ⟨by decide +kernel, te_14⟩
  | 15 => fun _ => ⟨by decide +kernel, te_15⟩
  | 16 => fun _ => ⟨by decide +kernel, te_16⟩
  | 17 => fun _ => ⟨by decide +kernel, te_17⟩
  | 18 => fun _ => ⟨by decide +kernel, te_18⟩
  | 19 => fun _ => ⟨by decide +kernel, te_19⟩
  | 20 => fun _ => ⟨by decide +kernel, te_20⟩
  | 21 => fun _ => ⟨by decide +kernel, te_21⟩
  | 22 => fun _ => ⟨by decide +kernel, te_22⟩
  | 23 => fun _ => ⟨by decide +kernel, te_23⟩
  | 24 => fun _ => ⟨by decide +kernel, te_24⟩
  | 25 => fun _ => ⟨by decide +kernel, te_25⟩
  | 26 => fun _ => ⟨by decide +kernel, te_26⟩
  | 27 => fun _ => ⟨by decide +kernel, te_27⟩
  | 28 => fun _ => ⟨by decide +kernel, te_28⟩
  | 29 => fun _ => ⟨by decide +kernel, te_29⟩
  | 30 => fun _ => ⟨by decide +kernel, te_30⟩
  | 31 => fun _ => ⟨by decide +kernel, te_31⟩
  | 32 => fun _ => ⟨by decide +kernel, te_32⟩
  | 33 => fun _ => ⟨by decide +kernel, te_33⟩
  | 34 => fun _ => ⟨by decide +kernel, te_34⟩
  | 35 => fun _ => ⟨by decide +kernel, te_35⟩
  | 36 => fun _ => ⟨by decide +kernel, te_36⟩
  | 37 => fun _ => ⟨by decide +kernel, te_37⟩
  | 38 => fun _ => ⟨by decide +kernel, te_38⟩
  | 39 => fun _ => ⟨by decide +kernel, te_39⟩
  | 40 => fun _ => ⟨by decide +kernel, te_40⟩
  | 41 => fun _ => ⟨by decide +kernel, te_41⟩
  | 42 => fun _ => ⟨by decide +kernel, te_42⟩
  | 43 => fun _ => ⟨by decide +kernel, te_43⟩
  | 44 => fun _ => ⟨by decide +kernel, te_44⟩
  | 45 => fun _ => ⟨by decide +kernel, te_45⟩
  | 46 => fun _ => ⟨by decide +kernel, te_46⟩
  | 47 => fun _ => ⟨by decide +kernel, te_47⟩
  | 48 => fun _ => ⟨by decide +kernel, te_48⟩
  | 49 => fun _ => ⟨by decide +kernel, te_49⟩
  | 50 => fun _ => ⟨by decide +kernel, te_50⟩
  | 51 => fun _ => ⟨by decide +kernel, te_51⟩
  | 52 => fun _ => ⟨by decide +kernel, te_52⟩
  | 53 => fun _ => ⟨by decide +kernel, te_53⟩
  | 54 => fun _ => ⟨by decide +kernel, te_54⟩
  | 55 => fun _ => ⟨by decide +kernel, te_55⟩
  | 56 => fun _ => ⟨by decide +kernel, te_56⟩
  | 57 => fun _ => ⟨by decide +kernel, te_57⟩
  | 58 => fun _ => ⟨by decide +kernel, te_58⟩
  | 59 => fun _ => ⟨by decide +kernel, te_59⟩
  | 60 => fun _ => ⟨by decide +kernel, te_60⟩
  | 61 => fun _ => ⟨by decide +kernel, te_61⟩
  | 62 => fun _ => ⟨by decide +kernel, te_62⟩
  | 63 => fun _ => ⟨by decide +kernel, te_63⟩
  | 64 => fun _ => ⟨by decide +kernel, te_64⟩
  | 65 => fun _ => ⟨by decide +kernel, te_65⟩
  | 66 => fun _ => ⟨by decide +kernel, te_66⟩
  | 67 => fun _ => ⟨by decide +kernel, te_67⟩
  | 68 => fun _ => ⟨by decide +kernel, te_68⟩
  | 69 => fun _ => ⟨by decide +kernel, te_69⟩
  | 70 => fun _ => ⟨by decide +kernel, te_70⟩
  | 71 => fun _ => ⟨by decide +kernel, te_71⟩
  | 72 => fun _ => ⟨by decide +kernel, te_72⟩
  | 73 => fun _ => ⟨by decide +kernel, te_73⟩
  | 74 => fun _ => ⟨by decide +kernel, te_74⟩
  | 75 => fun _ => ⟨by decide +kernel, te_75⟩
  | 76 => fun _ => ⟨by decide +kernel, te_76⟩
  | 77 => fun _ => ⟨by decide +kernel, te_77⟩
  | 78 => fun _ => ⟨by decide +kernel, te_78⟩
  | 79 => fun _ => ⟨by decide +kernel, te_79⟩
  | 80 => fun _ => ⟨by decide +kernel, te_80⟩
  | 81 => fun _ => ⟨by decide +kernel, te_81⟩
  | 82 => fun _ => ⟨by decide +kernel, te_82⟩
  | 83 => fun _ => ⟨by decide +kernel, te_83⟩
  | 84 => fun _ => ⟨by decide +kernel, te_84⟩
  | 85 => fun _ => ⟨by decide +kernel, te_85⟩
  | 86 => fun _ => ⟨by decide +kernel, te_86⟩
  | 87 => fun _ => ⟨by decide +kernel, te_87⟩
  | 88 => fun _ => ⟨by decide +kernel, te_88⟩
  | 89 => fun _ => ⟨by decide +kernel, te_89⟩
  | 90 => fun _ => ⟨by decide +kernel, te_90⟩
  | 91 => fun _ => ⟨by decide +kernel, te_91⟩
  | 92 => fun _ => ⟨by decide +kernel, te_92⟩
  | 93 => fun _ => ⟨by decide +kernel, te_93⟩
  | 94 => fun _ => ⟨by decide +kernel, te_94⟩
  | 95 => fun _ => ⟨by decide +kernel, te_95⟩
  | 96 => fun _ => ⟨by decide +kernel, te_96⟩
  | 97 => fun _ => ⟨by decide +kernel, te_97⟩
  | 98 => fun _ => ⟨by decide +kernel, te_98⟩
  | 99 => fun _ => ⟨by decide +kernel, te_99⟩
  | 100 => fun _ => ⟨by decide +kernel, te_100⟩
  | 101 => fun _ => ⟨by decide +kernel, te_101⟩
  | 102 => fun _ => ⟨by decide +kernel, te_102⟩
  | 103 => fun _ => ⟨by decide +kernel, te_103⟩
  | 104 => fun _ => ⟨by decide +kernel, te_104⟩
  | 105 => fun _ => ⟨by decide +kernel, te_105⟩
  | 106 => fun _ => ⟨by decide +kernel, te_106⟩
  | 107 => fun _ => ⟨by decide +kernel, te_107⟩
  | 108 => fun _ => ⟨by decide +kernel, te_108⟩
  | 109 => fun _ => ⟨by decide +kernel, te_109⟩
  | 110 => fun _ => ⟨by decide +kernel, te_110⟩
  | 111 => fun _ => ⟨by decide +kernel, te_111⟩
  | 112 => fun _ => ⟨by decide +kernel, te_112⟩
  | 113 => fun _ => ⟨by decide +kernel, te_113⟩
  | 114 => fun _ => ⟨by decide +kernel, te_114⟩
  | 115 => fun _ => ⟨by decide +kernel, te_115⟩
  | 116 => fun _ => ⟨by decide +kernel, te_116⟩
  | 117 => fun _ => ⟨by decide +kernel, te_117⟩
  | 118 => fun _ => ⟨by decide +kernel, te_118⟩
  | 119 => fun _ => ⟨by decide +kernel, te_119⟩
  | 120 => fun _ => ⟨by decide +kernel, te_120⟩
  | 121 => fun _ => ⟨by decide +kernel, te_121⟩
  | 122 => fun _ => ⟨by decide +kernel, te_122⟩
  | 123 => fun _ => ⟨by decide +kernel, te_123⟩
  | 124 => fun _ => ⟨by decide +kernel, te_124⟩
  | 125 => fun _ => ⟨by decide +kernel, te_125⟩
  | 126 => fun _ => ⟨by decide +kernel, te_126⟩
  | 127 => fun _ => ⟨by decide +kernel, te_127⟩
  | 128 => fun _ => ⟨by decide +kernel, te_128⟩
  | 129 => fun _ => ⟨by decide +kernel, te_129⟩
  | 130 => fun _ => ⟨by decide +kernel, te_130⟩
  | 131 => fun _ => ⟨by decide +kernel, te_131⟩
  | 132 => fun _ => ⟨by decide +kernel, te_132⟩
  | 133 => fun _ => ⟨by decide +kernel, te_133⟩
  | 134 => fun _ => ⟨by decide +kernel, te_134⟩
  | 135 => fun _ => ⟨by decide +kernel, te_135⟩
  | 136 => fun _ => ⟨by decide +kernel, te_136⟩
  | 137 => fun _ => ⟨by decide +kernel, te_137⟩
  | 138 => fun _ => ⟨by decide +kernel, te_138⟩
  | 139 => fun _ => ⟨by decide +kernel, te_139⟩
  | 140 => fun _ => ⟨by decide +kernel, te_140⟩
  | 141 => fun _ => ⟨by decide +kernel, te_141⟩
  | k + 142 => fun h => absurd (show at0 (k + 142) = [] from rfl) h
def rv_1 : List Int32 := [(-1), (-1), (-1), (-1), 0, 1, 2, 0, 0, 1, 1, 2]
def rv_2 : List Int32 := [0, 1, 2, 0, (-1), (-1), (-1), (-1), 1, 2, 0, 1]
def rv_3 : List Int32 := [0, 498536548, 997073096, 651767980, 1994146192, 1802195444, 1303535960, 1342533948, (-306674912), (-267414716), (-690576408), (-882789492), (-1687895376), (-2032938284), (-1609899400), (-1111625188)]
def ra0 (L : Nat) (xs : Nat → Int32) : ae_R := fun k => match k with
  | 0 => (L, xs)
  | 1 => (12, fun j => rv_1.getD j 0)
  | 2 => (12, fun j => rv_2.getD j 0)
  | _ => (16, fun j => rv_3.getD j 0)
def nr_el (tm : Jvm.Term) (vs : List Int32) : Bool := (List.range vs.length).all (fun j => decide (Jvm.Cond.eq (.elem tm (.int (Int32.ofNat j))) (.int (vs.getD j 0)) ∈ flatC (Jvm.Cond.and given_1 narrow_1)))
theorem nr_el_ok {tm : Jvm.Term} {vs : List Int32} (h : nr_el tm vs = true) {args : Array Value} {s : State} (hs : ∀ c ∈ flatC (Jvm.Cond.and given_1 narrow_1), c.before args s = true) : ∀ j : Nat, j < vs.length → (Term.elem tm (.int (Int32.ofNat j))).eval args s none [] s = some (.int (vs.getD j 0)) := fun j hj =>
  va_eqt (hs _ (of_decide_eq_true (List.all_eq_true.mp h j (List.mem_range.mpr hj))))
theorem nr_arr {nm : String} {vs : List Int32} (hv : vs.length < 2 ^ 31) (hel : nr_el (.static "TwinNetwork" nm "[I") vs = true) (h1 : Jvm.Cond.arrayOf (.static "TwinNetwork" nm "[I") .int ∈ flatC (Jvm.Cond.and given_1 narrow_1)) (h2 : Jvm.Cond.eq (.length (.static "TwinNetwork" nm "[I")) (.int (Int32.ofNat vs.length)) ∈ flatC (Jvm.Cond.and given_1 narrow_1)) (h3 : Jvm.Cond.laysStatic "TwinNetwork" nm "[I" ∈ lw_tbl)
    {args : Array Value} {s : State} {A : Nat → Prop} (hA : ∀ a : Nat, a < s.heap.size → ¬ A a) (hs : ∀ c ∈ flatC (Jvm.Cond.and given_1 narrow_1), c.before args s = true) (hts : ∀ w ∈ lw_tbl, w.before args s = true) (hini : (Cond.initialized "TwinNetwork").before args s = true) :
    ∃ t : Nat, va_T .int t vs.length (fun j => .int (vs.getD j 0)) A s s.heap ∧ va_Z "TwinNetwork" nm "[I" (.ref t) A s s.heap := by
  obtain ⟨t, ht, hT⟩ := va_Tof (f := fun j => .int (vs.getD j 0)) hv (hs _ h1) (va_eqt (hs _ h2)) (nr_el_ok hel hs) hA
  exact ⟨t, hT, va_Zref (hts _ h3) hini ht hA⟩
theorem k_cls {args : Array Value} {s : State} (hts : ∀ w ∈ aw_all, w.before args s = true) : ∀ c : Nat, ∃ (cC : ClassId) (iS : Nat → Nat), ∀ q, classes[c]? = some q → u_Kn s q.1 q.2.1 q.2.2 cC iS
  | 0 => by
    obtain ⟨cC, iS, h⟩ := u_known hts aw_c_Datagram (hts _ (show Jvm.Cond.instantiable cn_Datagram 2 ∈ aw_all from aw_i 92 (by decide +kernel) (by decide +kernel)))
    exact ⟨cC, iS, fun q hq => by cases hq; exact h⟩
  | 1 => by
    obtain ⟨cC, iS, h⟩ := u_known hts aw_c_Fragment (hts _ (show Jvm.Cond.instantiable cn_Fragment 6 ∈ aw_all from aw_i 643 (by decide +kernel) (by decide +kernel)))
    exact ⟨cC, iS, fun q hq => by cases hq; exact h⟩
  | 2 => by
    obtain ⟨cC, iS, h⟩ := u_known hts aw_c_Frame (hts _ (show Jvm.Cond.instantiable cn_Frame 2 ∈ aw_all from aw_i 75 (by decide +kernel) (by decide +kernel)))
    exact ⟨cC, iS, fun q hq => by cases hq; exact h⟩
  | 3 => by
    obtain ⟨cC, iS, h⟩ := u_known hts aw_c_Line (hts _ (show Jvm.Cond.instantiable cn_Line 9 ∈ aw_all from aw_i 106 (by decide +kernel) (by decide +kernel)))
    exact ⟨cC, iS, fun q hq => by cases hq; exact h⟩
  | 4 => by
    obtain ⟨cC, iS, h⟩ := u_known hts aw_c_Link (hts _ (show Jvm.Cond.instantiable cn_Link 15 ∈ aw_all from aw_i 591 (by decide +kernel) (by decide +kernel)))
    exact ⟨cC, iS, fun q hq => by cases hq; exact h⟩
  | 5 => by
    obtain ⟨cC, iS, h⟩ := u_known hts aw_c_Port (hts _ (show Jvm.Cond.instantiable cn_Port 12 ∈ aw_all from aw_i 359 (by decide +kernel) (by decide +kernel)))
    exact ⟨cC, iS, fun q hq => by cases hq; exact h⟩
  | 6 => by
    obtain ⟨cC, iS, h⟩ := u_known hts aw_c_Row (hts _ (show Jvm.Cond.instantiable cn_Row 3 ∈ aw_all from aw_i 114 (by decide +kernel) (by decide +kernel)))
    exact ⟨cC, iS, fun q hq => by cases hq; exact h⟩
  | 7 => by
    obtain ⟨cC, iS, h⟩ := u_known hts aw_c_Net (hts _ (show Jvm.Cond.instantiable cn_Net 6 ∈ aw_all from aw_i 63 (by decide +kernel) (by decide +kernel)))
    exact ⟨cC, iS, fun q hq => by cases hq; exact h⟩
  | 8 => by
    obtain ⟨cC, iS, h⟩ := u_known hts aw_c_Model (hts _ (show Jvm.Cond.instantiable cn_Model 41 ∈ aw_all from aw_i 769 (by decide +kernel) (by decide +kernel)))
    exact ⟨cC, iS, fun q hq => by cases hq; exact h⟩
  | k + 9 => ⟨0, fun _ => 0, fun q hq => by simp [classes] at hq⟩
theorem k_pr {args : Array Value} {s : State} {ty : FieldType} (hp : ∀ cA, s.vm.findClass ("[" ++ ty.toString) = some cA → va_RA s cA ty) (h : (Cond.arrayClass ty).before args s = true) : ∃ cA : ClassId, ArrOfT s cA ty ∧ va_RA s cA ty := by
  obtain ⟨c, k, comp, h1, h2, h3⟩ := Cond.arrayClass_spec h
  exact ⟨c, fun n z => ⟨(fun k h => by cases h), k, h2, comp, h3⟩, hp c h1⟩
theorem k_ob {args : Array Value} {s : State} {C : String} (h : (Cond.arrayOver (.object C)).before args s = true) : ∃ cA : ClassId, ArrOfT s cA (.object C) ∧ va_RA s cA (.object C) := by
  obtain ⟨comp, c, k, h1, h2, h3, h4, h5⟩ := Cond.arrayOver_spec h
  exact ⟨c, fun n z => ⟨(fun k h => by cases h), k, h3, comp, h4⟩, k, comp, h3, h4, h1, h5⟩
theorem k_arr {args : Array Value} {s : State} (hts : ∀ w ∈ aw_all, w.before args s = true) : ∀ t : Nat, ∃ cA : ClassId, ∀ q, (ae_ty (fun _ => cA))[t]? = some q → ArrOfT s q.1 q.2 ∧ va_RA s q.1 q.2
  | 0 => by
    obtain ⟨cA, h⟩ := k_pr (ty := .int) (fun _ h => h) (hts _ (show Jvm.Cond.arrayClass .int ∈ aw_all from aw_i 89 (by decide +kernel) (by decide +kernel)))
    exact ⟨cA, fun q hq => by cases hq; exact h⟩
  | 1 => by
    obtain ⟨cA, h⟩ := k_pr (ty := .byte) (fun _ h => h) (hts _ (show Jvm.Cond.arrayClass .byte ∈ aw_all from aw_i 90 (by decide +kernel) (by decide +kernel)))
    exact ⟨cA, fun q hq => by cases hq; exact h⟩
  | 2 => by
    obtain ⟨cA, h⟩ := k_pr (ty := .boolean) (fun _ h => h) (hts _ (show Jvm.Cond.arrayClass .boolean ∈ aw_all from aw_i 900 (by decide +kernel) (by decide +kernel)))
    exact ⟨cA, fun q hq => by cases hq; exact h⟩
  | 3 => by
    obtain ⟨cA, h⟩ := k_pr (ty := .long) (fun _ h => h) (hts _ (show Jvm.Cond.arrayClass .long ∈ aw_all from aw_i 1079 (by decide +kernel) (by decide +kernel)))
    exact ⟨cA, fun q hq => by cases hq; exact h⟩
  | 4 => by
    obtain ⟨cA, h⟩ := k_ob (C := "TwinNetwork$Link") (hts _ (show Jvm.Cond.arrayOver (.object "TwinNetwork$Link") ∈ aw_all from aw_i 71 (by decide +kernel) (by decide +kernel)))
    exact ⟨cA, fun q hq => by cases hq; exact h⟩
  | 5 => by
    obtain ⟨cA, h⟩ := k_ob (C := "TwinNetwork$Line") (hts _ (show Jvm.Cond.arrayOver (.object "TwinNetwork$Line") ∈ aw_all from aw_i 73 (by decide +kernel) (by decide +kernel)))
    exact ⟨cA, fun q hq => by cases hq; exact h⟩
  | 6 => by
    obtain ⟨cA, h⟩ := k_ob (C := "TwinNetwork$Frame") (hts _ (show Jvm.Cond.arrayOver (.object "TwinNetwork$Frame") ∈ aw_all from aw_i 120 (by decide +kernel) (by decide +kernel)))
    exact ⟨cA, fun q hq => by cases hq; exact h⟩
  | 7 => by
    obtain ⟨cA, h⟩ := k_ob (C := "TwinNetwork$Port") (hts _ (show Jvm.Cond.arrayOver (.object "TwinNetwork$Port") ∈ aw_all from aw_i 597 (by decide +kernel) (by decide +kernel)))
    exact ⟨cA, fun q hq => by cases hq; exact h⟩
  | 8 => by
    obtain ⟨cA, h⟩ := k_ob (C := "TwinNetwork$Fragment") (hts _ (show Jvm.Cond.arrayOver (.object "TwinNetwork$Fragment") ∈ aw_all from aw_i 599 (by decide +kernel) (by decide +kernel)))
    exact ⟨cA, fun q hq => by cases hq; exact h⟩
  | 9 => by
    obtain ⟨cA, h⟩ := k_ob (C := "TwinNetwork$Datagram") (hts _ (show Jvm.Cond.arrayOver (.object "TwinNetwork$Datagram") ∈ aw_all from aw_i 605 (by decide +kernel) (by decide +kernel)))
    exact ⟨cA, fun q hq => by cases hq; exact h⟩
  | k + 10 => ⟨0, fun q hq => by simp [ae_ty] at hq⟩
theorem k_all {args : Array Value} {s : State} (hts : ∀ w ∈ aw_all, w.before args s = true) : ∃ (D : va_G) (dA : Nat → ClassId), va_K D classes (ae_ty dA) s := by
  refine ⟨(fun c => Classical.choose (k_cls hts c), fun c => Classical.choose (Classical.choose_spec (k_cls hts c))), fun t => Classical.choose (k_arr hts t), fun c q hq => Classical.choose_spec (Classical.choose_spec (k_cls hts c)) q hq, fun k q hk => ?_⟩
  have h := Classical.choose_spec (k_arr hts k)
  have hkl : k < 10 := (List.getElem?_eq_some_iff.mp hk).1
  have h1 : k = 0 ∨ k = 1 ∨ k = 2 ∨ k = 3 ∨ k = 4 ∨ k = 5 ∨ k = 6 ∨ k = 7 ∨ k = 8 ∨ k = 9 := by omega
  rcases h1 with h1 | h1 | h1 | h1 | h1 | h1 | h1 | h1 | h1 | h1 <;> subst h1 <;> cases hk <;> exact h _ rfl
/-- THE PURE RUN: what is left -/
def pure_run (L : Nat) (xs : Nat → Int32) : Prop := ∃ (n : Nat) (σF : ae_S), ae_run (ra0 L xs) tb_0 (ae_ev am at0 (ra0 L xs) 7 n) (decide (5 ≤ 7)) n ((0, 0), []) (ae_ent [.retAddr 0] 7) [] 0 = some (σF, .inl (some (.int 1))) ∧ σF.1.1 ≤ 601024 ∧ σF.1.2 ≤ 7293034
theorem start_of {p : Program} {e : Env} {s : State} {m : MethodId} {below : List Frame} {meth : Method} {c : Code} (l : Launch) (hst : l.stackTraces = false) {b L : Nat} {xs : Nat → Int32} (hL : L ≤ 3584) (C0 : lw_At p s m meth c b L xs) (hpr : pure_run L xs) : W p l e room_1 s m #[Value.ref b] below meth c s.heap [] 0 0 (lw_Z below #[Value.ref b] s) (entryFrame m ([Value.ref b] : List Value).toArray 7) := by
  obtain ⟨hx, hb, hr, hml, hown, hts0, hX, hbl, hlocks, hgv, hxt0, hnm⟩ := C0
  obtain ⟨n, σF, hrun, hk1, hk2⟩ := hpr
  have hs := flat_of_before _ hgv
  have hts : ∀ w ∈ aw_all, w.before #[Value.ref b] s = true := fun w hw => hts0 w (List.mem_filter.mp hw).1
  have hA' : ∀ a : Nat, a < s.heap.size → ¬ (fun q : Nat => s.heap.size ≤ q) a := fun a h1 h2 => absurd h2 (Nat.not_le.mpr h1)
  have hini : (Cond.initialized "TwinNetwork").before #[Value.ref b] s = true := hts0 _ (List.mem_of_getElem? (i := 46) (by decide +kernel))
  obtain ⟨D, dA, hK⟩ := k_all hts
  obtain ⟨t1, hT1, hZ1⟩ := nr_arr (nm := "LEAVES_SWITCH") (vs := rv_1) (by decide) (by decide +kernel) (by decide +kernel) (by decide +kernel) (List.mem_of_getElem? (i := 410) (by decide +kernel)) hA' hs hts0 hini
  obtain ⟨t2, hT2, hZ2⟩ := nr_arr (nm := "ENDS_AT_SWITCH") (vs := rv_2) (by decide) (by decide +kernel) (by decide +kernel) (by decide +kernel) (List.mem_of_getElem? (i := 305) (by decide +kernel)) hA' hs hts0 hini
  obtain ⟨t3, hT3, hZ3⟩ := nr_arr (nm := "CHECK_STEPS") (vs := rv_3) (by decide) (by decide +kernel) (by decide +kernel) (by decide +kernel) (List.mem_of_getElem? (i := 268) (by decide +kernel)) hA' hs hts0 hini
  have hT0 : va_T .int b L (fun j => .int (xs j)) (fun q : Nat => s.heap.size ≤ q) s s.heap := by
    obtain ⟨scr, q1, q2, q3, q4, q5⟩ := hX
    exact ⟨scr, q1, q2, q3, by omega, (by rw [q4]), q5, hA' b hbl⟩
  have hRO : ae_RO (ra0 L xs) (fun k => match k with | 0 => b | 1 => t1 | 2 => t2 | _ => t3) (fun q : Nat => s.heap.size ≤ q) s s.heap := by
    refine ⟨fun k hk => ?_, fun k hk => ?_, hZ1, hZ2, hZ3, ?_, ?_, ?_⟩
    · have h1 : k = 0 ∨ k = 1 ∨ k = 2 ∨ k = 3 := by omega
      rcases h1 with h1 | h1 | h1 | h1 <;> subst h1
      · exact hT0
      · exact hT1
      · exact hT2
      · exact hT3
    · have h1 : k = 0 ∨ k = 1 ∨ k = 2 ∨ k = 3 := by omega
      rcases h1 with h1 | h1 | h1 | h1 <;> subst h1
      · show L < 2 ^ 31
        omega
      · show 12 < 2 ^ 31
        omega
      · show 12 < 2 ^ 31
        omega
      · show 16 < 2 ^ 31
        omega
    · exact ae_LS.of (hts0 _ (List.mem_of_getElem? (i := 541) (by decide +kernel))) (hs _ (by decide +kernel)) hA'
    · exact ae_LS.of (hts0 _ (List.mem_of_getElem? (i := 543) (by decide +kernel))) (hs _ (by decide +kernel)) hA'
    · exact va_Nc.of (hs _ (by decide +kernel))
  have X : ae_X p l e room_1 s m #[Value.ref b] below meth c D dA (fun k => match k with | 0 => b | 1 => t1 | 2 => t2 | _ => t3) (fun q : Nat => s.heap.size ≤ q) (0, 0) (ra0 L xs) "TwinNetworkLaw" "law" code 7 ret σF.1.1 σF.1.2 7 [] :=
    ⟨hx, hb, hml, hown, hts, hr, hlocks, hnm, hK, hRO, fun _ h => h, by decide, by decide, by show σF.1.1 ≤ 0 + 601024; omega, by show σF.1.2 ≤ 0 + 7293034; omega, by rw [Array.isEmpty_iff.mp hxt0]; rfl, hst⟩
  have hE := ae_sound l hst (ra0 L xs) at_ok 7 n
  have hcl : ae_cl ((0, 0), []) (ae_ent [.retAddr 0] 7) [] := ⟨(fun x hx => by cases hx), ae_entL (fun v hv => by rw [List.mem_singleton.mp hv]; trivial) (fun v hv => by rw [List.mem_singleton.mp hv]; rfl), (fun v hv => by cases hv)⟩
  have GG := ae_runGo (Q := lw_Z below #[Value.ref b] s) (ad0 := fun _ => 0) (n0 := 0) (th := decide (5 ≤ 7)) te_0 hE (σF := σF) (oF := .inl (some (.int 1))) X ⟨Nat.le_refl _, Nat.le_refl _⟩ (by
    intro r hr0 pc o L k ho hk
    cases hr0
    rcases hk with ⟨-, -, h3⟩ | ⟨ok, v, h1, h2, h3, h4⟩
    · cases h3
    · cases h4
      subst h1
      subst h2
      have hd : decode code pc = .ok (.ireturn, 1) := by
        rcases ho with ⟨-, o2, -⟩ | ⟨-, o2, -⟩ | ⟨-, -, o3⟩
        · exact o2
        · exact o2
        · rcases o3 _ h3 with z | ⟨q, z⟩ <;> cases z
      intro ad H locs cells slots ls hP hD hS hc hs hl had
      refine va_forget (fun q hq => hS.2.2 q hq) ?_
      refine W.widen (k := 601024) (n := 7293034) (by omega) (by omega) ?_
      exact lw_ret hx hb hr hlocks hd) (fun x hx hth => by cases hx) n ((0, 0), []) _ [] 0 hrun hcl (Nat.zero_le _)
  have hl := lv_entry ([.ref b]) (n := 7) (Nat.le_of_ble_eq_true rfl)
  rw [lg_entry_eq]
  refine GG (fun _ => 0) s.heap [] 0 0 _ (fun k q h => by simp [ae_w] at h) ⟨(fun i j x y h => by simp [ae_w] at h), (fun k q h => by simp [ae_w] at h)⟩ va_S.rf rfl rfl ⟨rfl, hl.1, hl.2.1, ?_⟩ (fun _ _ => rfl)
  intro i v hv
  have hi : i = 0 ∧ v = .retAddr 0 := by
    match i, hv with
    | 0, hv => exact ⟨rfl, by cases hv; rfl⟩
    | i + 1, hv =>
      exfalso
      have hm : some v ∈ List.replicate 6 (none : Option Value) := List.mem_of_getElem? (show (List.replicate 6 (none : Option Value))[i]? = some (some v) from hv)
      have := List.eq_of_mem_replicate hm
      cases this
  obtain ⟨rfl, rfl⟩ := hi
  exact hl.2.2 (0, .ref b) (by simp [lv_args])

