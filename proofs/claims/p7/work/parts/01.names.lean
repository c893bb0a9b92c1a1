-- ===== PART A: goes FIRST, ahead of the names: the tables' words, and 'selects' of the private methods out of them =====
/-- a private method of a class that the tables say can be made, by its rows of tables_1 -/
def lw_okq (q : MethodName × Nat) : Prop := (q.1.cls ≠ "java/lang/invoke/MethodHandle" ∧ q.1.cls ≠ "java/lang/invoke/VarHandle") ∧ Cond.instantiable q.1.cls q.2 ∈ tables_1 ∧ Cond.privateMethod q.1 ∈ tables_1 ∧ Cond.instanceMethod q.1 ∈ tables_1
theorem lw_p0 : lw_okq (⟨"TwinNetwork", "isQuiet", "()Z"⟩, 6) := ⟨⟨by decide +kernel, by decide +kernel⟩, List.mem_of_getElem? (i := 18) (by decide +kernel), List.mem_of_getElem? (i := 143) (by decide +kernel), List.mem_of_getElem? (i := 144) (by decide +kernel)⟩
theorem lw_p1 : lw_okq (⟨"TwinNetwork", "passTime", "(I)V"⟩, 6) := ⟨⟨by decide +kernel, by decide +kernel⟩, List.mem_of_getElem? (i := 18) (by decide +kernel), List.mem_of_getElem? (i := 151) (by decide +kernel), List.mem_of_getElem? (i := 152) (by decide +kernel)⟩
theorem lw_p2 : lw_okq (⟨"TwinNetwork", "sendFragments", "()V"⟩, 6) := ⟨⟨by decide +kernel, by decide +kernel⟩, List.mem_of_getElem? (i := 18) (by decide +kernel), List.mem_of_getElem? (i := 162) (by decide +kernel), List.mem_of_getElem? (i := 163) (by decide +kernel)⟩
theorem lw_p3 : lw_okq (⟨"TwinNetwork", "sendFragment", "(LTwinNetwork$Link;)V"⟩, 6) := ⟨⟨by decide +kernel, by decide +kernel⟩, List.mem_of_getElem? (i := 18) (by decide +kernel), List.mem_of_getElem? (i := 166) (by decide +kernel), List.mem_of_getElem? (i := 167) (by decide +kernel)⟩
theorem lw_p4 : lw_okq (⟨"TwinNetwork$Frame", "sum", "()I"⟩, 2) := ⟨⟨by decide +kernel, by decide +kernel⟩, List.mem_of_getElem? (i := 30) (by decide +kernel), List.mem_of_getElem? (i := 210) (by decide +kernel), List.mem_of_getElem? (i := 211) (by decide +kernel)⟩
theorem lw_p5 : lw_okq (⟨"TwinNetwork$Frame", "check", "()I"⟩, 2) := ⟨⟨by decide +kernel, by decide +kernel⟩, List.mem_of_getElem? (i := 30) (by decide +kernel), List.mem_of_getElem? (i := 219) (by decide +kernel), List.mem_of_getElem? (i := 220) (by decide +kernel)⟩
theorem lw_p6 : lw_okq (⟨"TwinNetwork", "enqueue", "(IIZLTwinNetwork$Frame;)Z"⟩, 6) := ⟨⟨by decide +kernel, by decide +kernel⟩, List.mem_of_getElem? (i := 18) (by decide +kernel), List.mem_of_getElem? (i := 225) (by decide +kernel), List.mem_of_getElem? (i := 226) (by decide +kernel)⟩
theorem lw_p7 : lw_okq (⟨"TwinNetwork", "lineAt", "(II)LTwinNetwork$Line;"⟩, 6) := ⟨⟨by decide +kernel, by decide +kernel⟩, List.mem_of_getElem? (i := 18) (by decide +kernel), List.mem_of_getElem? (i := 229) (by decide +kernel), List.mem_of_getElem? (i := 230) (by decide +kernel)⟩
theorem lw_p8 : lw_okq (⟨"TwinNetwork", "moveFrames", "()V"⟩, 6) := ⟨⟨by decide +kernel, by decide +kernel⟩, List.mem_of_getElem? (i := 18) (by decide +kernel), List.mem_of_getElem? (i := 252) (by decide +kernel), List.mem_of_getElem? (i := 253) (by decide +kernel)⟩
theorem lw_p9 : lw_okq (⟨"TwinNetwork", "enterSystem", "(IILTwinNetwork$Frame;)I"⟩, 6) := ⟨⟨by decide +kernel, by decide +kernel⟩, List.mem_of_getElem? (i := 18) (by decide +kernel), List.mem_of_getElem? (i := 262) (by decide +kernel), List.mem_of_getElem? (i := 263) (by decide +kernel)⟩
theorem lw_p10 : lw_okq (⟨"TwinNetwork", "linkAt", "(I)LTwinNetwork$Link;"⟩, 6) := ⟨⟨by decide +kernel, by decide +kernel⟩, List.mem_of_getElem? (i := 18) (by decide +kernel), List.mem_of_getElem? (i := 278) (by decide +kernel), List.mem_of_getElem? (i := 279) (by decide +kernel)⟩
theorem lw_p11 : lw_okq (⟨"TwinNetwork$Port", "isToBeTaken", "(II)Z"⟩, 12) := ⟨⟨by decide +kernel, by decide +kernel⟩, List.mem_of_getElem? (i := 314) (by decide +kernel), List.mem_of_getElem? (i := 312) (by decide +kernel), List.mem_of_getElem? (i := 313) (by decide +kernel)⟩
theorem lw_p12 : lw_okq (⟨"TwinNetwork$Port", "keepBegun", "(I)I"⟩, 12) := ⟨⟨by decide +kernel, by decide +kernel⟩, List.mem_of_getElem? (i := 314) (by decide +kernel), List.mem_of_getElem? (i := 347) (by decide +kernel), List.mem_of_getElem? (i := 348) (by decide +kernel)⟩
theorem lw_p13 : lw_okq (⟨"TwinNetwork", "passSwitch", "(IILTwinNetwork$Frame;)I"⟩, 6) := ⟨⟨by decide +kernel, by decide +kernel⟩, List.mem_of_getElem? (i := 18) (by decide +kernel), List.mem_of_getElem? (i := 353) (by decide +kernel), List.mem_of_getElem? (i := 354) (by decide +kernel)⟩
theorem lw_p14 : lw_okq (⟨"TwinNetwork", "takeFrames", "()V"⟩, 6) := ⟨⟨by decide +kernel, by decide +kernel⟩, List.mem_of_getElem? (i := 18) (by decide +kernel), List.mem_of_getElem? (i := 367) (by decide +kernel), List.mem_of_getElem? (i := 368) (by decide +kernel)⟩
theorem lw_p15 : lw_okq (⟨"TwinNetwork$Line", "takeFirst", "()V"⟩, 9) := ⟨⟨by decide +kernel, by decide +kernel⟩, List.mem_of_getElem? (i := 61) (by decide +kernel), List.mem_of_getElem? (i := 375) (by decide +kernel), List.mem_of_getElem? (i := 376) (by decide +kernel)⟩
def lw_privs_1 : List (MethodName × Nat) := [(⟨"TwinNetwork", "isQuiet", "()Z"⟩, 6), (⟨"TwinNetwork", "passTime", "(I)V"⟩, 6), (⟨"TwinNetwork", "sendFragments", "()V"⟩, 6), (⟨"TwinNetwork", "sendFragment", "(LTwinNetwork$Link;)V"⟩, 6), (⟨"TwinNetwork$Frame", "sum", "()I"⟩, 2), (⟨"TwinNetwork$Frame", "check", "()I"⟩, 2), (⟨"TwinNetwork", "enqueue", "(IIZLTwinNetwork$Frame;)Z"⟩, 6), (⟨"TwinNetwork", "lineAt", "(II)LTwinNetwork$Line;"⟩, 6), (⟨"TwinNetwork", "moveFrames", "()V"⟩, 6), (⟨"TwinNetwork", "enterSystem", "(IILTwinNetwork$Frame;)I"⟩, 6), (⟨"TwinNetwork", "linkAt", "(I)LTwinNetwork$Link;"⟩, 6), (⟨"TwinNetwork$Port", "isToBeTaken", "(II)Z"⟩, 12), (⟨"TwinNetwork$Port", "keepBegun", "(I)I"⟩, 12), (⟨"TwinNetwork", "passSwitch", "(IILTwinNetwork$Frame;)I"⟩, 6), (⟨"TwinNetwork", "takeFrames", "()V"⟩, 6), (⟨"TwinNetwork$Line", "takeFirst", "()V"⟩, 9)]
theorem lw_r1 : ∀ q ∈ lw_privs_1, lw_okq q := List.forall_mem_cons.mpr ⟨lw_p0, List.forall_mem_cons.mpr ⟨lw_p1, List.forall_mem_cons.mpr ⟨lw_p2, List.forall_mem_cons.mpr ⟨lw_p3, List.forall_mem_cons.mpr ⟨lw_p4, List.forall_mem_cons.mpr ⟨lw_p5, List.forall_mem_cons.mpr ⟨lw_p6, List.forall_mem_cons.mpr ⟨lw_p7, List.forall_mem_cons.mpr ⟨lw_p8, List.forall_mem_cons.mpr ⟨lw_p9, List.forall_mem_cons.mpr ⟨lw_p10, List.forall_mem_cons.mpr ⟨lw_p11, List.forall_mem_cons.mpr ⟨lw_p12, List.forall_mem_cons.mpr ⟨lw_p13, List.forall_mem_cons.mpr ⟨lw_p14, List.forall_mem_cons.mpr ⟨lw_p15, fun _ h => absurd h List.not_mem_nil⟩⟩⟩⟩⟩⟩⟩⟩⟩⟩⟩⟩⟩⟩⟩⟩
theorem lw_p16 : lw_okq (⟨"TwinNetwork", "portAt", "(II)LTwinNetwork$Port;"⟩, 6) := ⟨⟨by decide +kernel, by decide +kernel⟩, List.mem_of_getElem? (i := 18) (by decide +kernel), List.mem_of_getElem? (i := 397) (by decide +kernel), List.mem_of_getElem? (i := 398) (by decide +kernel)⟩
theorem lw_p17 : lw_okq (⟨"TwinNetwork", "ticksOfAllLinks", "(I)I"⟩, 6) := ⟨⟨by decide +kernel, by decide +kernel⟩, List.mem_of_getElem? (i := 18) (by decide +kernel), List.mem_of_getElem? (i := 451) (by decide +kernel), List.mem_of_getElem? (i := 452) (by decide +kernel)⟩
theorem lw_p18 : lw_okq (⟨"java/lang/Throwable", "fillInStackTrace", "(I)Ljava/lang/Throwable;"⟩, 6) := ⟨⟨by decide +kernel, by decide +kernel⟩, List.mem_of_getElem? (i := 507) (by decide +kernel), List.mem_of_getElem? (i := 505) (by decide +kernel), List.mem_of_getElem? (i := 506) (by decide +kernel)⟩
theorem lw_p19 : lw_okq (⟨"TwinNetwork$Link", "fragmentRoom", "()I"⟩, 15) := ⟨⟨by decide +kernel, by decide +kernel⟩, List.mem_of_getElem? (i := 546) (by decide +kernel), List.mem_of_getElem? (i := 698) (by decide +kernel), List.mem_of_getElem? (i := 699) (by decide +kernel)⟩
theorem lw_p20 : lw_okq (⟨"TwinNetworkModel", "isLink", "(I)Z"⟩, 41) := ⟨⟨by decide +kernel, by decide +kernel⟩, List.mem_of_getElem? (i := 724) (by decide +kernel), List.mem_of_getElem? (i := 865) (by decide +kernel), List.mem_of_getElem? (i := 866) (by decide +kernel)⟩
theorem lw_p21 : lw_okq (⟨"TwinNetworkModel", "piece", "(I)I"⟩, 41) := ⟨⟨by decide +kernel, by decide +kernel⟩, List.mem_of_getElem? (i := 724) (by decide +kernel), List.mem_of_getElem? (i := 869) (by decide +kernel), List.mem_of_getElem? (i := 870) (by decide +kernel)⟩
theorem lw_p22 : lw_okq (⟨"TwinNetworkModel", "shape", "(I)V"⟩, 41) := ⟨⟨by decide +kernel, by decide +kernel⟩, List.mem_of_getElem? (i := 724) (by decide +kernel), List.mem_of_getElem? (i := 878) (by decide +kernel), List.mem_of_getElem? (i := 879) (by decide +kernel)⟩
theorem lw_p23 : lw_okq (⟨"TwinNetworkModel", "frame", "(IIIIIIZ)I"⟩, 41) := ⟨⟨by decide +kernel, by decide +kernel⟩, List.mem_of_getElem? (i := 724) (by decide +kernel), List.mem_of_getElem? (i := 882) (by decide +kernel), List.mem_of_getElem? (i := 883) (by decide +kernel)⟩
theorem lw_p24 : lw_okq (⟨"TwinNetworkModel", "take", "()I"⟩, 41) := ⟨⟨by decide +kernel, by decide +kernel⟩, List.mem_of_getElem? (i := 724) (by decide +kernel), List.mem_of_getElem? (i := 886) (by decide +kernel), List.mem_of_getElem? (i := 887) (by decide +kernel)⟩
theorem lw_p25 : lw_okq (⟨"TwinNetworkModel", "put", "(III)V"⟩, 41) := ⟨⟨by decide +kernel, by decide +kernel⟩, List.mem_of_getElem? (i := 724) (by decide +kernel), List.mem_of_getElem? (i := 890) (by decide +kernel), List.mem_of_getElem? (i := 891) (by decide +kernel)⟩
theorem lw_p26 : lw_okq (⟨"TwinNetworkModel", "sum", "(I)I"⟩, 41) := ⟨⟨by decide +kernel, by decide +kernel⟩, List.mem_of_getElem? (i := 724) (by decide +kernel), List.mem_of_getElem? (i := 894) (by decide +kernel), List.mem_of_getElem? (i := 895) (by decide +kernel)⟩
theorem lw_p27 : lw_okq (⟨"TwinNetworkModel", "two", "(II)I"⟩, 41) := ⟨⟨by decide +kernel, by decide +kernel⟩, List.mem_of_getElem? (i := 724) (by decide +kernel), List.mem_of_getElem? (i := 898) (by decide +kernel), List.mem_of_getElem? (i := 899) (by decide +kernel)⟩
theorem lw_p28 : lw_okq (⟨"TwinNetworkModel", "cell", "(II)I"⟩, 41) := ⟨⟨by decide +kernel, by decide +kernel⟩, List.mem_of_getElem? (i := 724) (by decide +kernel), List.mem_of_getElem? (i := 902) (by decide +kernel), List.mem_of_getElem? (i := 903) (by decide +kernel)⟩
theorem lw_p29 : lw_okq (⟨"TwinNetworkModel", "close", "(II)V"⟩, 41) := ⟨⟨by decide +kernel, by decide +kernel⟩, List.mem_of_getElem? (i := 724) (by decide +kernel), List.mem_of_getElem? (i := 910) (by decide +kernel), List.mem_of_getElem? (i := 911) (by decide +kernel)⟩
theorem lw_p30 : lw_okq (⟨"TwinNetworkModel", "check", "(I)I"⟩, 41) := ⟨⟨by decide +kernel, by decide +kernel⟩, List.mem_of_getElem? (i := 724) (by decide +kernel), List.mem_of_getElem? (i := 914) (by decide +kernel), List.mem_of_getElem? (i := 915) (by decide +kernel)⟩
theorem lw_p31 : lw_okq (⟨"TwinNetworkModel", "enter", "(IIZ)V"⟩, 41) := ⟨⟨by decide +kernel, by decide +kernel⟩, List.mem_of_getElem? (i := 724) (by decide +kernel), List.mem_of_getElem? (i := 919) (by decide +kernel), List.mem_of_getElem? (i := 920) (by decide +kernel)⟩
def lw_privs_2 : List (MethodName × Nat) := [(⟨"TwinNetwork", "portAt", "(II)LTwinNetwork$Port;"⟩, 6), (⟨"TwinNetwork", "ticksOfAllLinks", "(I)I"⟩, 6), (⟨"java/lang/Throwable", "fillInStackTrace", "(I)Ljava/lang/Throwable;"⟩, 6), (⟨"TwinNetwork$Link", "fragmentRoom", "()I"⟩, 15), (⟨"TwinNetworkModel", "isLink", "(I)Z"⟩, 41), (⟨"TwinNetworkModel", "piece", "(I)I"⟩, 41), (⟨"TwinNetworkModel", "shape", "(I)V"⟩, 41), (⟨"TwinNetworkModel", "frame", "(IIIIIIZ)I"⟩, 41), (⟨"TwinNetworkModel", "take", "()I"⟩, 41), (⟨"TwinNetworkModel", "put", "(III)V"⟩, 41), (⟨"TwinNetworkModel", "sum", "(I)I"⟩, 41), (⟨"TwinNetworkModel", "two", "(II)I"⟩, 41), (⟨"TwinNetworkModel", "cell", "(II)I"⟩, 41), (⟨"TwinNetworkModel", "close", "(II)V"⟩, 41), (⟨"TwinNetworkModel", "check", "(I)I"⟩, 41), (⟨"TwinNetworkModel", "enter", "(IIZ)V"⟩, 41)]
theorem lw_r2 : ∀ q ∈ lw_privs_2, lw_okq q := List.forall_mem_cons.mpr ⟨lw_p16, List.forall_mem_cons.mpr ⟨lw_p17, List.forall_mem_cons.mpr ⟨lw_p18, List.forall_mem_cons.mpr ⟨lw_p19, List.forall_mem_cons.mpr ⟨lw_p20, List.forall_mem_cons.mpr ⟨lw_p21, List.forall_mem_cons.mpr ⟨lw_p22, List.forall_mem_cons.mpr ⟨lw_p23, List.forall_mem_cons.mpr ⟨lw_p24, List.forall_mem_cons.mpr ⟨lw_p25, List.forall_mem_cons.mpr ⟨lw_p26, List.forall_mem_cons.mpr ⟨lw_p27, List.forall_mem_cons.mpr ⟨lw_p28, List.forall_mem_cons.mpr ⟨lw_p29, List.forall_mem_cons.mpr ⟨lw_p30, List.forall_mem_cons.mpr ⟨lw_p31, fun _ h => absurd h List.not_mem_nil⟩⟩⟩⟩⟩⟩⟩⟩⟩⟩⟩⟩⟩⟩⟩⟩
theorem lw_p32 : lw_okq (⟨"TwinNetworkModel", "drop", "(II)V"⟩, 41) := ⟨⟨by decide +kernel, by decide +kernel⟩, List.mem_of_getElem? (i := 724) (by decide +kernel), List.mem_of_getElem? (i := 923) (by decide +kernel), List.mem_of_getElem? (i := 924) (by decide +kernel)⟩
theorem lw_p33 : lw_okq (⟨"TwinNetworkModel", "move", "(I)V"⟩, 41) := ⟨⟨by decide +kernel, by decide +kernel⟩, List.mem_of_getElem? (i := 724) (by decide +kernel), List.mem_of_getElem? (i := 927) (by decide +kernel), List.mem_of_getElem? (i := 928) (by decide +kernel)⟩
theorem lw_p34 : lw_okq (⟨"TwinNetworkModel", "atEnd", "(III)V"⟩, 41) := ⟨⟨by decide +kernel, by decide +kernel⟩, List.mem_of_getElem? (i := 724) (by decide +kernel), List.mem_of_getElem? (i := 934) (by decide +kernel), List.mem_of_getElem? (i := 935) (by decide +kernel)⟩
theorem lw_p35 : lw_okq (⟨"TwinNetworkModel", "linkOf", "(I)I"⟩, 41) := ⟨⟨by decide +kernel, by decide +kernel⟩, List.mem_of_getElem? (i := 724) (by decide +kernel), List.mem_of_getElem? (i := 938) (by decide +kernel), List.mem_of_getElem? (i := 939) (by decide +kernel)⟩
theorem lw_p36 : lw_okq (⟨"TwinNetworkModel", "isSound", "(I)Z"⟩, 41) := ⟨⟨by decide +kernel, by decide +kernel⟩, List.mem_of_getElem? (i := 724) (by decide +kernel), List.mem_of_getElem? (i := 942) (by decide +kernel), List.mem_of_getElem? (i := 943) (by decide +kernel)⟩
theorem lw_p37 : lw_okq (⟨"TwinNetworkModel", "isTarget", "(II)Z"⟩, 41) := ⟨⟨by decide +kernel, by decide +kernel⟩, List.mem_of_getElem? (i := 724) (by decide +kernel), List.mem_of_getElem? (i := 946) (by decide +kernel), List.mem_of_getElem? (i := 947) (by decide +kernel)⟩
theorem lw_p38 : lw_okq (⟨"TwinNetworkModel", "hasHead", "(I)Z"⟩, 41) := ⟨⟨by decide +kernel, by decide +kernel⟩, List.mem_of_getElem? (i := 724) (by decide +kernel), List.mem_of_getElem? (i := 950) (by decide +kernel), List.mem_of_getElem? (i := 951) (by decide +kernel)⟩
theorem lw_p39 : lw_okq (⟨"TwinNetworkModel", "arrive", "(IIII)I"⟩, 41) := ⟨⟨by decide +kernel, by decide +kernel⟩, List.mem_of_getElem? (i := 724) (by decide +kernel), List.mem_of_getElem? (i := 954) (by decide +kernel), List.mem_of_getElem? (i := 955) (by decide +kernel)⟩
theorem lw_p40 : lw_okq (⟨"TwinNetworkModel", "join", "(II)I"⟩, 41) := ⟨⟨by decide +kernel, by decide +kernel⟩, List.mem_of_getElem? (i := 724) (by decide +kernel), List.mem_of_getElem? (i := 961) (by decide +kernel), List.mem_of_getElem? (i := 962) (by decide +kernel)⟩
theorem lw_p41 : lw_okq (⟨"TwinNetworkModel", "atSwitch", "(III)V"⟩, 41) := ⟨⟨by decide +kernel, by decide +kernel⟩, List.mem_of_getElem? (i := 724) (by decide +kernel), List.mem_of_getElem? (i := 965) (by decide +kernel), List.mem_of_getElem? (i := 966) (by decide +kernel)⟩
theorem lw_p42 : lw_okq (⟨"TwinNetworkModel", "isOnPath", "(II)Z"⟩, 41) := ⟨⟨by decide +kernel, by decide +kernel⟩, List.mem_of_getElem? (i := 724) (by decide +kernel), List.mem_of_getElem? (i := 969) (by decide +kernel), List.mem_of_getElem? (i := 970) (by decide +kernel)⟩
theorem lw_p43 : lw_okq (⟨"TwinNetworkModel", "load", "(I)V"⟩, 41) := ⟨⟨by decide +kernel, by decide +kernel⟩, List.mem_of_getElem? (i := 724) (by decide +kernel), List.mem_of_getElem? (i := 979) (by decide +kernel), List.mem_of_getElem? (i := 980) (by decide +kernel)⟩
theorem lw_p44 : lw_okq (⟨"TwinNetworkModel", "pull", "(I)I"⟩, 41) := ⟨⟨by decide +kernel, by decide +kernel⟩, List.mem_of_getElem? (i := 724) (by decide +kernel), List.mem_of_getElem? (i := 983) (by decide +kernel), List.mem_of_getElem? (i := 984) (by decide +kernel)⟩
def lw_privs_3 : List (MethodName × Nat) := [(⟨"TwinNetworkModel", "drop", "(II)V"⟩, 41), (⟨"TwinNetworkModel", "move", "(I)V"⟩, 41), (⟨"TwinNetworkModel", "atEnd", "(III)V"⟩, 41), (⟨"TwinNetworkModel", "linkOf", "(I)I"⟩, 41), (⟨"TwinNetworkModel", "isSound", "(I)Z"⟩, 41), (⟨"TwinNetworkModel", "isTarget", "(II)Z"⟩, 41), (⟨"TwinNetworkModel", "hasHead", "(I)Z"⟩, 41), (⟨"TwinNetworkModel", "arrive", "(IIII)I"⟩, 41), (⟨"TwinNetworkModel", "join", "(II)I"⟩, 41), (⟨"TwinNetworkModel", "atSwitch", "(III)V"⟩, 41), (⟨"TwinNetworkModel", "isOnPath", "(II)Z"⟩, 41), (⟨"TwinNetworkModel", "load", "(I)V"⟩, 41), (⟨"TwinNetworkModel", "pull", "(I)I"⟩, 41)]
theorem lw_r3 : ∀ q ∈ lw_privs_3, lw_okq q := List.forall_mem_cons.mpr ⟨lw_p32, List.forall_mem_cons.mpr ⟨lw_p33, List.forall_mem_cons.mpr ⟨lw_p34, List.forall_mem_cons.mpr ⟨lw_p35, List.forall_mem_cons.mpr ⟨lw_p36, List.forall_mem_cons.mpr ⟨lw_p37, List.forall_mem_cons.mpr ⟨lw_p38, List.forall_mem_cons.mpr ⟨lw_p39, List.forall_mem_cons.mpr ⟨lw_p40, List.forall_mem_cons.mpr ⟨lw_p41, List.forall_mem_cons.mpr ⟨lw_p42, List.forall_mem_cons.mpr ⟨lw_p43, List.forall_mem_cons.mpr ⟨lw_p44, fun _ h => absurd h List.not_mem_nil⟩⟩⟩⟩⟩⟩⟩⟩⟩⟩⟩⟩⟩
def lw_privs : List (MethodName × Nat) := lw_privs_1 ++ (lw_privs_2 ++ (lw_privs_3))
def lw_tbl : List Cond := k2_sels lw_privs ++ tables_1
theorem lw_privs_ok : ∀ q ∈ lw_privs, lw_okq q := by
  show ∀ q ∈ lw_privs_1 ++ (lw_privs_2 ++ (lw_privs_3)), lw_okq q
  exact List.forall_mem_append.mpr ⟨lw_r1, List.forall_mem_append.mpr ⟨lw_r2, lw_r3⟩⟩

/-! classes, their fields -/
def cn_Datagram : String := "TwinNetwork$Datagram"
def cT_Datagram : u_T := fun k => match k with
  | 0 => ("TwinNetwork$Datagram", "bytes", "[B", true)
  | _ => ("TwinNetwork$Datagram", "length", "I", false)
def cy_Datagram : Nat → FieldType := fun k => match k with
  | 0 => .array .byte
  | _ => .int
theorem cn_Datagram_nm : ∀ a, a < 2 → ∀ b, b < 2 → a ≠ b → (cT_Datagram a).2.1 ≠ (cT_Datagram b).2.1 := by decide +kernel
theorem cn_Datagram_ty : ∀ k, k < 2 → parseFieldDescriptor (cT_Datagram k).2.2.1 = some (cy_Datagram k) := by decide +kernel
def cn_Fragment : String := "TwinNetwork$Fragment"
def cT_Fragment : u_T := fun k => match k with
  | 0 => ("TwinNetwork$Fragment", "messageNumber", "I", false)
  | 1 => ("TwinNetwork$Fragment", "messageSize", "I", false)
  | 2 => ("TwinNetwork$Fragment", "seed", "I", false)
  | 3 => ("TwinNetwork$Fragment", "place", "I", false)
  | 4 => ("TwinNetwork$Fragment", "length", "I", false)
  | _ => ("TwinNetwork$Fragment", "moreFollow", "Z", false)
def cy_Fragment : Nat → FieldType := fun k => match k with
  | 0 => .int
  | 1 => .int
  | 2 => .int
  | 3 => .int
  | 4 => .int
  | _ => .boolean
theorem cn_Fragment_nm : ∀ a, a < 6 → ∀ b, b < 6 → a ≠ b → (cT_Fragment a).2.1 ≠ (cT_Fragment b).2.1 := by decide +kernel
theorem cn_Fragment_ty : ∀ k, k < 6 → parseFieldDescriptor (cT_Fragment k).2.2.1 = some (cy_Fragment k) := by decide +kernel
def cn_Frame : String := "TwinNetwork$Frame"
def cT_Frame : u_T := fun k => match k with
  | 0 => ("TwinNetwork$Frame", "bytes", "[B", true)
  | _ => ("TwinNetwork$Frame", "size", "I", false)
def cy_Frame : Nat → FieldType := fun k => match k with
  | 0 => .array .byte
  | _ => .int
theorem cn_Frame_nm : ∀ a, a < 2 → ∀ b, b < 2 → a ≠ b → (cT_Frame a).2.1 ≠ (cT_Frame b).2.1 := by decide +kernel
theorem cn_Frame_ty : ∀ k, k < 2 → parseFieldDescriptor (cT_Frame k).2.2.1 = some (cy_Frame k) := by decide +kernel
def cn_Line : String := "TwinNetwork$Line"
def cT_Line : u_T := fun k => match k with
  | 0 => ("TwinNetwork$Line", "plainRow", "LTwinNetwork$Row;", true)
  | 1 => ("TwinNetwork$Line", "highRow", "LTwinNetwork$Row;", true)
  | 2 => ("TwinNetwork$Line", "hasOneRow", "Z", true)
  | 3 => ("TwinNetwork$Line", "frame", "LTwinNetwork$Frame;", false)
  | 4 => ("TwinNetwork$Line", "isBusy", "Z", false)
  | 5 => ("TwinNetwork$Line", "gone", "I", false)
  | 6 => ("TwinNetwork$Line", "expectsHarm", "Z", false)
  | 7 => ("TwinNetwork$Line", "harmPlace", "I", false)
  | _ => ("TwinNetwork$Line", "harmMask", "I", false)
def cy_Line : Nat → FieldType := fun k => match k with
  | 0 => .object "TwinNetwork$Row"
  | 1 => .object "TwinNetwork$Row"
  | 2 => .boolean
  | 3 => .object "TwinNetwork$Frame"
  | 4 => .boolean
  | 5 => .int
  | 6 => .boolean
  | 7 => .int
  | _ => .int
theorem cn_Line_nm : ∀ a, a < 9 → ∀ b, b < 9 → a ≠ b → (cT_Line a).2.1 ≠ (cT_Line b).2.1 := by decide +kernel
theorem cn_Line_ty : ∀ k, k < 9 → parseFieldDescriptor (cT_Line k).2.2.1 = some (cy_Line k) := by decide +kernel
def cn_Link : String := "TwinNetwork$Link"
def cT_Link : u_T := fun k => match k with
  | 0 => ("TwinNetwork$Link", "number", "I", true)
  | 1 => ("TwinNetwork$Link", "source", "I", true)
  | 2 => ("TwinNetwork$Link", "gap", "I", true)
  | 3 => ("TwinNetwork$Link", "most", "I", true)
  | 4 => ("TwinNetwork$Link", "isHigh", "Z", true)
  | 5 => ("TwinNetwork$Link", "isQueuing", "Z", true)
  | 6 => ("TwinNetwork$Link", "paths", "I", true)
  | 7 => ("TwinNetwork$Link", "ports", "[LTwinNetwork$Port;", true)
  | 8 => ("TwinNetwork$Link", "accounts", "[I", true)
  | 9 => ("TwinNetwork$Link", "waitingOnes", "[LTwinNetwork$Fragment;", true)
  | 10 => ("TwinNetwork$Link", "firstFragment", "I", false)
  | 11 => ("TwinNetwork$Link", "fragmentCount", "I", false)
  | 12 => ("TwinNetwork$Link", "messageCount", "I", false)
  | 13 => ("TwinNetwork$Link", "sequence", "I", false)
  | _ => ("TwinNetwork$Link", "openAt", "I", false)
def cy_Link : Nat → FieldType := fun k => match k with
  | 0 => .int
  | 1 => .int
  | 2 => .int
  | 3 => .int
  | 4 => .boolean
  | 5 => .boolean
  | 6 => .int
  | 7 => .array (.object "TwinNetwork$Port")
  | 8 => .array .int
  | 9 => .array (.object "TwinNetwork$Fragment")
  | 10 => .int
  | 11 => .int
  | 12 => .int
  | 13 => .int
  | _ => .int
theorem cn_Link_nm : ∀ a, a < 15 → ∀ b, b < 15 → a ≠ b → (cT_Link a).2.1 ≠ (cT_Link b).2.1 := by decide +kernel
theorem cn_Link_ty : ∀ k, k < 15 → parseFieldDescriptor (cT_Link k).2.2.1 = some (cy_Link k) := by decide +kernel
def cn_Port : String := "TwinNetwork$Port"
def cT_Port : u_T := fun k => match k with
  | 0 => ("TwinNetwork$Port", "isQueuing", "Z", true)
  | 1 => ("TwinNetwork$Port", "skew", "I", true)
  | 2 => ("TwinNetwork$Port", "lastSequences", "[I", true)
  | 3 => ("TwinNetwork$Port", "takenSequence", "I", false)
  | 4 => ("TwinNetwork$Port", "takenAt", "I", false)
  | 5 => ("TwinNetwork$Port", "isBegun", "Z", false)
  | 6 => ("TwinNetwork$Port", "begunNumber", "I", false)
  | 7 => ("TwinNetwork$Port", "begun", "LTwinNetwork$Datagram;", false)
  | 8 => ("TwinNetwork$Port", "kept", "[LTwinNetwork$Datagram;", true)
  | 9 => ("TwinNetwork$Port", "firstKept", "I", false)
  | 10 => ("TwinNetwork$Port", "keptCount", "I", false)
  | _ => ("TwinNetwork$Port", "cameAt", "I", false)
def cy_Port : Nat → FieldType := fun k => match k with
  | 0 => .boolean
  | 1 => .int
  | 2 => .array .int
  | 3 => .int
  | 4 => .int
  | 5 => .boolean
  | 6 => .int
  | 7 => .object "TwinNetwork$Datagram"
  | 8 => .array (.object "TwinNetwork$Datagram")
  | 9 => .int
  | 10 => .int
  | _ => .int
theorem cn_Port_nm : ∀ a, a < 12 → ∀ b, b < 12 → a ≠ b → (cT_Port a).2.1 ≠ (cT_Port b).2.1 := by decide +kernel
theorem cn_Port_ty : ∀ k, k < 12 → parseFieldDescriptor (cT_Port k).2.2.1 = some (cy_Port k) := by decide +kernel
def cn_Row : String := "TwinNetwork$Row"
def cT_Row : u_T := fun k => match k with
  | 0 => ("TwinNetwork$Row", "slots", "[LTwinNetwork$Frame;", true)
  | 1 => ("TwinNetwork$Row", "first", "I", false)
  | _ => ("TwinNetwork$Row", "count", "I", false)
def cy_Row : Nat → FieldType := fun k => match k with
  | 0 => .array (.object "TwinNetwork$Frame")
  | 1 => .int
  | _ => .int
theorem cn_Row_nm : ∀ a, a < 3 → ∀ b, b < 3 → a ≠ b → (cT_Row a).2.1 ≠ (cT_Row b).2.1 := by decide +kernel
theorem cn_Row_ty : ∀ k, k < 3 → parseFieldDescriptor (cT_Row k).2.2.1 = some (cy_Row k) := by decide +kernel
def cn_Net : String := "TwinNetwork"
def cT_Net : u_T := fun k => match k with
  | 0 => ("TwinNetwork", "links", "[LTwinNetwork$Link;", true)
  | 1 => ("TwinNetwork", "lines", "[LTwinNetwork$Line;", true)
  | 2 => ("TwinNetwork", "dropCounts", "[I", true)
  | 3 => ("TwinNetwork", "draft", "LTwinNetwork$Frame;", true)
  | 4 => ("TwinNetwork", "lastRead", "LTwinNetwork$Datagram;", true)
  | _ => ("TwinNetwork", "time", "I", false)
def cy_Net : Nat → FieldType := fun k => match k with
  | 0 => .array (.object "TwinNetwork$Link")
  | 1 => .array (.object "TwinNetwork$Line")
  | 2 => .array .int
  | 3 => .object "TwinNetwork$Frame"
  | 4 => .object "TwinNetwork$Datagram"
  | _ => .int
theorem cn_Net_nm : ∀ a, a < 6 → ∀ b, b < 6 → a ≠ b → (cT_Net a).2.1 ≠ (cT_Net b).2.1 := by decide +kernel
theorem cn_Net_ty : ∀ k, k < 6 → parseFieldDescriptor (cT_Net k).2.2.1 = some (cy_Net k) := by decide +kernel
def cn_Model : String := "TwinNetworkModel"
def cT_Model : u_T := fun k => match k with
  | 0 => ("TwinNetworkModel", "code", "I", false)
  | 1 => ("TwinNetworkModel", "time", "I", false)
  | 2 => ("TwinNetworkModel", "is", "[Z", true)
  | 3 => ("TwinNetworkModel", "high", "[Z", true)
  | 4 => ("TwinNetworkModel", "queuing", "[Z", true)
  | 5 => ("TwinNetworkModel", "source", "[I", true)
  | 6 => ("TwinNetworkModel", "gap", "[I", true)
  | 7 => ("TwinNetworkModel", "most", "[I", true)
  | 8 => ("TwinNetworkModel", "targets", "[I", true)
  | 9 => ("TwinNetworkModel", "skew", "[I", true)
  | 10 => ("TwinNetworkModel", "open", "[I", true)
  | 11 => ("TwinNetworkModel", "number", "[I", true)
  | 12 => ("TwinNetworkModel", "sequence", "[I", true)
  | 13 => ("TwinNetworkModel", "account", "[I", true)
  | 14 => ("TwinNetworkModel", "waits", "[I", true)
  | 15 => ("TwinNetworkModel", "waitSize", "[I", true)
  | 16 => ("TwinNetworkModel", "waitSeed", "[I", true)
  | 17 => ("TwinNetworkModel", "waitNumber", "[I", true)
  | 18 => ("TwinNetworkModel", "waitPlace", "[I", true)
  | 19 => ("TwinNetworkModel", "bytes", "[I", true)
  | 20 => ("TwinNetworkModel", "sizes", "[I", true)
  | 21 => ("TwinNetworkModel", "used", "[Z", true)
  | 22 => ("TwinNetworkModel", "row", "[I", true)
  | 23 => ("TwinNetworkModel", "rowSize", "[I", true)
  | 24 => ("TwinNetworkModel", "on", "[I", true)
  | 25 => ("TwinNetworkModel", "gone", "[I", true)
  | 26 => ("TwinNetworkModel", "harmPlace", "[I", true)
  | 27 => ("TwinNetworkModel", "harmMask", "[I", true)
  | 28 => ("TwinNetworkModel", "last", "[I", true)
  | 29 => ("TwinNetworkModel", "taken", "[I", true)
  | 30 => ("TwinNetworkModel", "takenAt", "[I", true)
  | 31 => ("TwinNetworkModel", "begunNumber", "[I", true)
  | 32 => ("TwinNetworkModel", "begunSize", "[I", true)
  | 33 => ("TwinNetworkModel", "begun", "[I", true)
  | 34 => ("TwinNetworkModel", "messages", "[I", true)
  | 35 => ("TwinNetworkModel", "messageSize", "[I", true)
  | 36 => ("TwinNetworkModel", "message", "[I", true)
  | 37 => ("TwinNetworkModel", "cameAt", "[I", true)
  | 38 => ("TwinNetworkModel", "dropped", "[I", true)
  | 39 => ("TwinNetworkModel", "given", "[I", true)
  | _ => ("TwinNetworkModel", "givenSize", "I", false)
def cy_Model : Nat → FieldType := fun k => match k with
  | 0 => .int
  | 1 => .int
  | 2 => .array .boolean
  | 3 => .array .boolean
  | 4 => .array .boolean
  | 5 => .array .int
  | 6 => .array .int
  | 7 => .array .int
  | 8 => .array .int
  | 9 => .array .int
  | 10 => .array .int
  | 11 => .array .int
  | 12 => .array .int
  | 13 => .array .int
  | 14 => .array .int
  | 15 => .array .int
  | 16 => .array .int
  | 17 => .array .int
  | 18 => .array .int
  | 19 => .array .int
  | 20 => .array .int
  | 21 => .array .boolean
  | 22 => .array .int
  | 23 => .array .int
  | 24 => .array .int
  | 25 => .array .int
  | 26 => .array .int
  | 27 => .array .int
  | 28 => .array .int
  | 29 => .array .int
  | 30 => .array .int
  | 31 => .array .int
  | 32 => .array .int
  | 33 => .array .int
  | 34 => .array .int
  | 35 => .array .int
  | 36 => .array .int
  | 37 => .array .int
  | 38 => .array .int
  | 39 => .array .int
  | _ => .int
theorem cn_Model_nm : ∀ a, a < 41 → ∀ b, b < 41 → a ≠ b → (cT_Model a).2.1 ≠ (cT_Model b).2.1 := by decide +kernel
theorem cn_Model_ty : ∀ k, k < 41 → parseFieldDescriptor (cT_Model k).2.2.1 = some (cy_Model k) := by decide +kernel
abbrev classes : List vw_C := [(cn_Datagram, cT_Datagram, 2), (cn_Fragment, cT_Fragment, 6), (cn_Frame, cT_Frame, 2), (cn_Line, cT_Line, 9), (cn_Link, cT_Link, 15), (cn_Port, cT_Port, 12), (cn_Row, cT_Row, 3), (cn_Net, cT_Net, 6), (cn_Model, cT_Model, 41)]
def ae_ty (dA : Nat → ClassId) : List (ClassId × FieldType) := [(dA 0, .int), (dA 1, .byte), (dA 2, .boolean), (dA 3, .long), (dA 4, .object "TwinNetwork$Link"), (dA 5, .object "TwinNetwork$Line"), (dA 6, .object "TwinNetwork$Frame"), (dA 7, .object "TwinNetwork$Port"), (dA 8, .object "TwinNetwork$Fragment"), (dA 9, .object "TwinNetwork$Datagram")]
def aw_ec : List Nat := [4, 3, 2, 5, 1, 0]
/-- the words that go from a state to the next by themselves -/
def aw_ok : Cond → Bool
  | .arrayClass _ => true
  | .fieldLinkNest _ _ _ _ _ _ => true
  | .methodLinkNest _ _ _ _ => true
  | .arrayOver (.object _) => true
  | .castable _ _ => true
  | .declares _ => true
  | w => w.onTables && w.keeps
def aw_all : List Cond := lw_tbl.filter aw_ok
theorem aw_i (i : Nat) {w : Cond} (h : lw_tbl[i]? = some w) (ho : aw_ok w = true) : w ∈ aw_all := List.mem_filter.mpr ⟨List.mem_of_getElem? h, ho⟩
theorem aw_warm {a a' : Array Value} {s U : State} (hW : s.WarmedH U.vm) {w : Cond} (ho : aw_ok w = true) (h : w.before a s = true) : w.before a' U = true := by
  by_cases hg : goodWord w = true
  · exact word_at hW (good_of_word hg) h
  · cases w with
    | fieldLinkNest x1 x2 x3 x4 x5 x6 => exact va_Nw.use rfl (va_Nw.warmF hW (va_Nw.of rfl h))
    | methodLinkNest x1 x2 x3 x4 => exact va_Nw.use rfl (va_Nw.warmM hW (va_Nw.of rfl h))
    | castable x1 x2 => exact va_Nw.use rfl (va_Nw.warmC hW (va_Nw.of rfl h))
    | declares x1 => exact va_Nw.use rfl (va_Nw.warmD hW (va_Nw.of rfl h))
    | arrayOver t =>
      cases t with
      | object C => exact va_AO.use ((va_AO.of h).moved hW.alike)
      | _ => exact absurd ho hg
    | _ => exact absurd ho hg
theorem aw_warmAll {a a' : Array Value} {s U : State} (hW : s.WarmedH U.vm) (h : ∀ w ∈ aw_all, w.before a s = true) : ∀ w ∈ aw_all, w.before a' U = true := fun w hw => aw_warm hW (List.mem_filter.mp hw).2 (h w hw)
