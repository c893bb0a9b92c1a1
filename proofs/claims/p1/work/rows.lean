section
-- ===== PART A: goes FIRST, ahead of the names: the tables' words, and 'selects' of the private methods out of them =====
/-- a private method of a class that the tables say can be made, by its rows of tables_1 -/
def lw_okq (q : MethodName × Nat) : Prop := (q.1.cls ≠ "java/lang/invoke/MethodHandle" ∧ q.1.cls ≠ "java/lang/invoke/VarHandle") ∧ Cond.instantiable q.1.cls q.2 ∈ tables_1 ∧ Cond.privateMethod q.1 ∈ tables_1 ∧ Cond.instanceMethod q.1 ∈ tables_1
theorem lw_p0 : lw_okq (⟨"TwinNetwork", "isQuiet", "()Z"⟩, 6) := ⟨⟨by decide +kernel, by decide +kernel⟩, List.mem_of_getElem? (i := 18) (by decide +kernel), List.mem_of_getElem? (i := 143) (by decide +kernel), List.mem_of_getElem? (i := 144) (by decide +kernel)⟩
theorem lw_p1 : lw_okq (⟨"TwinNetwork", "passTime", "(I)V"⟩, 6) := ⟨⟨by decide +kernel, by decide +kernel⟩, List.mem_of_getElem? (i := 18) (by decide +kernel), List.mem_of_getElem? (i := 151) (by decide +kernel), List.mem_of_getElem? (i := 152) (by decide +kernel)⟩
theorem lw_p2 : lw_okq (⟨"TwinNetwork", "sendFragments", "()V"⟩, 6) := ⟨⟨by decide +kernel, by decide +kernel⟩, List.mem_of_getElem? (i := 18) (by decide +kernel), List.mem_of_getElem? (i := 162) (by decide +kernel), List.mem_of_getElem? (i := 163) (by decide +kernel)⟩
theorem lw_p3 : lw_okq (⟨"TwinNetwork", "sendFragment", "(LTwinNetwork$Link;)V"⟩, 6) := ⟨⟨by decide +kernel, by decide +kernel⟩, List.mem_of_getElem? (i := 18) (by decide +kernel), List.mem_of_getElem? (i := 166) (by decide +kernel), List.mem_of_getElem? (i := 167) (by decide +kernel)⟩
theorem lw_p4 : lw_okq (⟨"TwinNetwork$Frame", "sum", "()I"⟩, 2) := ⟨⟨by decide +kernel, by decide +kernel⟩, List.mem_of_getElem? (i := 30) (by decide +kernel), List.mem_of_getElem? (i := 210) (by decide +kernel), List.mem_of_getElem? (i := 211) (by decide +kernel)⟩
theorem lw_p5 : lw_okq (⟨"TwinNetwork$Frame", "check", "()I"⟩, 2) := ⟨⟨by decide +kernel, by decide +kernel⟩, List.mem_of_getElem? (i := 30) (by decide +kernel), List.mem_of_getElem? (i := 219) (by decide +kernel), List.mem_of_getElem? (i := 220) (by decide +kernel)⟩
theorem lw_p6 : lw_okq (⟨"TwinNetwork", "enqueue", "(IIZLTwinNetwork$Frame;)Z"⟩, 6) := ⟨⟨by decide +kernel, by decide +kernel⟩, List.mem_of_getElem? (i := 18) (by decide +kernel), List.mem_of_getElem? (i := 225) (by decide +kernel), List.mem_of_getElem? (i := 226) (by decide +kernel)⟩
theorem lw_p7 : lw_okq (⟨"TwinNetwork", "lineAt", "(II)LTwinNetwork$Line;"⟩, 6) := ⟨⟨by decide +kernel, by decide +kernel⟩, List.mem_of_getElem? (i := 18) (by decide +kernel), List.mem_of_getElem? (i := 229) (by decide +kernel), List.mem_of_getElem? (i := 230) (by decide +kernel)⟩
theorem lw_p8 : lw_okq (⟨"TwinNetwork", "moveFrames", "()V"⟩, 6) := ⟨⟨by decide +kernel, by decide +kernel⟩, List.mem_of_getElem? (i := 18) (by decide +kernel), List.mem_of_getElem? (i := 252) (by decide +kernel), List.mem_of_getElem? (i := 253) (by decide +kernel)⟩
theorem lw_p9 : lw_okq (⟨"TwinNetwork", "enterSystem", "(IILTwinNetwork$Frame;)I"⟩, 6) := ⟨⟨by decide +kernel, by decide +kernel⟩, List.mem_of_getElem? (i := 18) (by decide +kernel), List.mem_of_getElem? (i := 262) (by decide +kernel), List.mem_of_getElem? (i := 263) (by decide +kernel)⟩
theorem lw_p10 : lw_okq (⟨"TwinNetwork", "linkAt", "(I)LTwinNetwork$Link;"⟩, 6) := ⟨⟨by decide +kernel, by decide +kernel⟩, List.mem_of_getElem? (i := 18) (by decide +kernel), List.mem_of_getElem? (i := 278) (by decide +kernel), List.mem_of_getElem? (i := 279) (by decide +kernel)⟩
theorem lw_p11 : lw_okq (⟨"TwinNetwork$Port", "isToBeTaken", "(II)Z"⟩, 12) := ⟨⟨by decide +kernel, by decide +kernel⟩, List.mem_of_getElem? (i := 314) (by decide +kernel), List.mem_of_getElem? (i := 312) (by decide +kernel), List.mem_of_getElem? (i := 313) (by decide +kernel)⟩
theorem lw_p12 : lw_okq (⟨"TwinNetwork$Port", "keepBegun", "(I)I"⟩, 12) := ⟨⟨by decide +kernel, by decide +kernel⟩, List.mem_of_getElem? (i := 314) (by decide +kernel), List.mem_of_getElem? (i := 347) (by decide +kernel), List.mem_of_getElem? (i := 348) (by decide +kernel)⟩
theorem lw_p13 : lw_okq (⟨"TwinNetwork", "passSwitch", "(IILTwinNetwork$Frame;)I"⟩, 6) := ⟨⟨by decide +kernel, by decide +kernel⟩, List.mem_of_getElem? (i := 18) (by decide +kernel), List.mem_of_getElem? (i := 353) (by decide +kernel), List.mem_of_getElem? (i := 354) (by decide +kernel)⟩
theorem lw_p14 : lw_okq (⟨"TwinNetwork", "takeFrames", "()V"⟩, 6) := ⟨⟨by decide +kernel, by decide +kernel⟩, List.mem_of_getElem? (i := 18) (by decide +kernel), List.mem_of_getElem? (i := 367) (by decide +kernel), List.mem_of_getElem? (i := 368) (by decide +kernel)⟩
theorem lw_p15 : lw_okq (⟨"TwinNetwork$Line", "takeFirst", "()V"⟩, 9) := ⟨⟨by decide +kernel, by decide +kernel⟩, List.mem_of_getElem? (i := 61) (by decide +kernel), List.mem_of_getElem? (i := 375) (by decide +kernel), List.mem_of_getElem? (i := 376) (by decide +kernel)⟩
def lw_privs_1 : List (MethodName × Nat) := [(⟨"TwinNetwork", "isQuiet", "()Z"⟩, 6), (⟨"TwinNetwork", "passTime", "(I)V"⟩, 6), (⟨"TwinNetwork", "sendFragments", "()V"⟩, 6), (⟨"TwinNetwork", "sendFragment", "(LTwinNetwork$Link;)V"⟩, 6), (⟨"TwinNetwork$Frame", "sum", "()I"⟩, 2), (⟨"TwinNetwork$Frame", "check", "()I"⟩, 2), (⟨"TwinNetwork", "enqueue", "(IIZLTwinNetwork$Frame;)Z"⟩, 6), (⟨"TwinNetwork", "lineAt", "(II)LTwinNetwork$Line;"⟩, 6), (⟨"TwinNetwork", "moveFrames", "()V"⟩, 6), (⟨"TwinNetwork", "enterSystem", "(IILTwinNetwork$Frame;)I"⟩, 6), (⟨"TwinNetwork", "linkAt", "(I)LTwinNetwork$Link;"⟩, 6), (⟨"TwinNetwork$Port", "isToBeTaken", "(II)Z"⟩, 12), (⟨"TwinNetwork$Port", "keepBegun", "(I)I"⟩, 12), (⟨"TwinNetwork", "passSwitch", "(IILTwinNetwork$Frame;)I"⟩, 6), (⟨"TwinNetwork", "takeFrames", "()V"⟩, 6), (⟨"TwinNetwork$Line", "takeFirst", "()V"⟩, 9)]
theorem lw_r1 : ∀ q ∈ lw_privs_1, lw_okq q := List.forall_mem_cons.mpr ⟨lw_p0, List.forall_mem_cons.mpr ⟨lw_p1, List.forall_mem_cons.mpr ⟨lw_p2, List.forall_mem_cons.mpr ⟨lw_p3, List.forall_mem_cons.mpr ⟨lw_p4, List.forall_mem_cons.mpr ⟨lw_p5, List.forall_mem_cons.mpr ⟨lw_p6, List.forall_mem_cons.mpr ⟨lw_p7, List.forall_mem_cons.mpr ⟨lw_p8, List.forall_mem_cons.mpr ⟨lw_p9, List.forall_mem_cons.mpr ⟨lw_p10, List.forall_mem_cons.mpr ⟨lw_p11, List.forall_mem_cons.mpr ⟨lw_p12, List.forall_mem_cons.mpr ⟨lw_p13, List.forall_mem_cons.mpr ⟨lw_p14, List.forall_mem_cons.mpr ⟨lw_p15, fun _ h => absurd h List.not_mem_nil⟩⟩⟩⟩⟩⟩⟩⟩⟩⟩⟩⟩⟩⟩⟩⟩
theorem lw_p16 : lw_okq (⟨"TwinNetwork", "portAt", "(II)LTwinNetwork$Port;"⟩, 6) := ⟨⟨by decide +kernel, by decide +kernel⟩, List.mem_of_getElem? (i := 18) (by decide +kernel), List.mem_of_getElem? (i := 397) (by decide +kernel), List.mem_of_getElem? (i := 398) (by decide +kernel)⟩
theorem lw_p17 : lw_okq (⟨"TwinNetwork", "ticksOfAllLinks", "(I)I"⟩, 6) := ⟨⟨by decide +kernel, by decide +kernel⟩, List.mem_of_getElem? (i := 18) (by decide +kernel), List.mem_of_getElem? (i := 451) (by decide +kernel), List.mem_of_getElem? (i := 452) (by decide +kernel)⟩
theorem lw_p18 : lw_okq (⟨"java/lang/Throwable", "fillInStackTrace", "(I)Ljava/lang/Throwable;"⟩, 6) := ⟨⟨by decide +kernel, by decide +kernel⟩, List.mem_of_getElem? (i := 507) (by decide +kernel), List.mem_of_getElem? (i := 505) (by decide +kernel), List.mem_of_getElem? (i := 506) (by decide +kernel)⟩
theorem lw_p19 : lw_okq (⟨"TwinNetwork$Link", "fragmentRoom", "()I"⟩, 15) := ⟨⟨by decide +kernel, by decide +kernel⟩, List.mem_of_getElem? (i := 546) (by decide +kernel), List.mem_of_getElem? (i := 698) (by decide +kernel), List.mem_of_getElem? (i := 699) (by decide +kernel)⟩
theorem lw_p20 : lw_okq (⟨"TwinNetworkModel", "isLink", "(I)Z"⟩, 41) := ⟨⟨by decide +kernel, by decide +kernel⟩, List.mem_of_getElem? (i := 724) (by decide +kernel), List.mem_of_getElem? (i := 869) (by decide +kernel), List.mem_of_getElem? (i := 870) (by decide +kernel)⟩
theorem lw_p21 : lw_okq (⟨"TwinNetworkModel", "piece", "(I)I"⟩, 41) := ⟨⟨by decide +kernel, by decide +kernel⟩, List.mem_of_getElem? (i := 724) (by decide +kernel), List.mem_of_getElem? (i := 873) (by decide +kernel), List.mem_of_getElem? (i := 874) (by decide +kernel)⟩
theorem lw_p22 : lw_okq (⟨"TwinNetworkModel", "shape", "(I)V"⟩, 41) := ⟨⟨by decide +kernel, by decide +kernel⟩, List.mem_of_getElem? (i := 724) (by decide +kernel), List.mem_of_getElem? (i := 882) (by decide +kernel), List.mem_of_getElem? (i := 883) (by decide +kernel)⟩
theorem lw_p23 : lw_okq (⟨"TwinNetworkModel", "frame", "(IIIIIIZ)I"⟩, 41) := ⟨⟨by decide +kernel, by decide +kernel⟩, List.mem_of_getElem? (i := 724) (by decide +kernel), List.mem_of_getElem? (i := 886) (by decide +kernel), List.mem_of_getElem? (i := 887) (by decide +kernel)⟩
theorem lw_p24 : lw_okq (⟨"TwinNetworkModel", "take", "()I"⟩, 41) := ⟨⟨by decide +kernel, by decide +kernel⟩, List.mem_of_getElem? (i := 724) (by decide +kernel), List.mem_of_getElem? (i := 890) (by decide +kernel), List.mem_of_getElem? (i := 891) (by decide +kernel)⟩
theorem lw_p25 : lw_okq (⟨"TwinNetworkModel", "put", "(III)V"⟩, 41) := ⟨⟨by decide +kernel, by decide +kernel⟩, List.mem_of_getElem? (i := 724) (by decide +kernel), List.mem_of_getElem? (i := 894) (by decide +kernel), List.mem_of_getElem? (i := 895) (by decide +kernel)⟩
theorem lw_p26 : lw_okq (⟨"TwinNetworkModel", "sum", "(I)I"⟩, 41) := ⟨⟨by decide +kernel, by decide +kernel⟩, List.mem_of_getElem? (i := 724) (by decide +kernel), List.mem_of_getElem? (i := 898) (by decide +kernel), List.mem_of_getElem? (i := 899) (by decide +kernel)⟩
theorem lw_p27 : lw_okq (⟨"TwinNetworkModel", "two", "(II)I"⟩, 41) := ⟨⟨by decide +kernel, by decide +kernel⟩, List.mem_of_getElem? (i := 724) (by decide +kernel), List.mem_of_getElem? (i := 902) (by decide +kernel), List.mem_of_getElem? (i := 903) (by decide +kernel)⟩
theorem lw_p28 : lw_okq (⟨"TwinNetworkModel", "cell", "(II)I"⟩, 41) := ⟨⟨by decide +kernel, by decide +kernel⟩, List.mem_of_getElem? (i := 724) (by decide +kernel), List.mem_of_getElem? (i := 906) (by decide +kernel), List.mem_of_getElem? (i := 907) (by decide +kernel)⟩
theorem lw_p29 : lw_okq (⟨"TwinNetworkModel", "close", "(II)V"⟩, 41) := ⟨⟨by decide +kernel, by decide +kernel⟩, List.mem_of_getElem? (i := 724) (by decide +kernel), List.mem_of_getElem? (i := 914) (by decide +kernel), List.mem_of_getElem? (i := 915) (by decide +kernel)⟩
theorem lw_p30 : lw_okq (⟨"TwinNetworkModel", "check", "(I)I"⟩, 41) := ⟨⟨by decide +kernel, by decide +kernel⟩, List.mem_of_getElem? (i := 724) (by decide +kernel), List.mem_of_getElem? (i := 918) (by decide +kernel), List.mem_of_getElem? (i := 919) (by decide +kernel)⟩
theorem lw_p31 : lw_okq (⟨"TwinNetworkModel", "enter", "(IIZ)V"⟩, 41) := ⟨⟨by decide +kernel, by decide +kernel⟩, List.mem_of_getElem? (i := 724) (by decide +kernel), List.mem_of_getElem? (i := 923) (by decide +kernel), List.mem_of_getElem? (i := 924) (by decide +kernel)⟩
def lw_privs_2 : List (MethodName × Nat) := [(⟨"TwinNetwork", "portAt", "(II)LTwinNetwork$Port;"⟩, 6), (⟨"TwinNetwork", "ticksOfAllLinks", "(I)I"⟩, 6), (⟨"java/lang/Throwable", "fillInStackTrace", "(I)Ljava/lang/Throwable;"⟩, 6), (⟨"TwinNetwork$Link", "fragmentRoom", "()I"⟩, 15), (⟨"TwinNetworkModel", "isLink", "(I)Z"⟩, 41), (⟨"TwinNetworkModel", "piece", "(I)I"⟩, 41), (⟨"TwinNetworkModel", "shape", "(I)V"⟩, 41), (⟨"TwinNetworkModel", "frame", "(IIIIIIZ)I"⟩, 41), (⟨"TwinNetworkModel", "take", "()I"⟩, 41), (⟨"TwinNetworkModel", "put", "(III)V"⟩, 41), (⟨"TwinNetworkModel", "sum", "(I)I"⟩, 41), (⟨"TwinNetworkModel", "two", "(II)I"⟩, 41), (⟨"TwinNetworkModel", "cell", "(II)I"⟩, 41), (⟨"TwinNetworkModel", "close", "(II)V"⟩, 41), (⟨"TwinNetworkModel", "check", "(I)I"⟩, 41), (⟨"TwinNetworkModel", "enter", "(IIZ)V"⟩, 41)]
theorem lw_r2 : ∀ q ∈ lw_privs_2, lw_okq q := List.forall_mem_cons.mpr ⟨lw_p16, List.forall_mem_cons.mpr ⟨lw_p17, List.forall_mem_cons.mpr ⟨lw_p18, List.forall_mem_cons.mpr ⟨lw_p19, List.forall_mem_cons.mpr ⟨lw_p20, List.forall_mem_cons.mpr ⟨lw_p21, List.forall_mem_cons.mpr ⟨lw_p22, List.forall_mem_cons.mpr ⟨lw_p23, List.forall_mem_cons.mpr ⟨lw_p24, List.forall_mem_cons.mpr ⟨lw_p25, List.forall_mem_cons.mpr ⟨lw_p26, List.forall_mem_cons.mpr ⟨lw_p27, List.forall_mem_cons.mpr ⟨lw_p28, List.forall_mem_cons.mpr ⟨lw_p29, List.forall_mem_cons.mpr ⟨lw_p30, List.forall_mem_cons.mpr ⟨lw_p31, fun _ h => absurd h List.not_mem_nil⟩⟩⟩⟩⟩⟩⟩⟩⟩⟩⟩⟩⟩⟩⟩⟩
theorem lw_p32 : lw_okq (⟨"TwinNetworkModel", "drop", "(II)V"⟩, 41) := ⟨⟨by decide +kernel, by decide +kernel⟩, List.mem_of_getElem? (i := 724) (by decide +kernel), List.mem_of_getElem? (i := 927) (by decide +kernel), List.mem_of_getElem? (i := 928) (by decide +kernel)⟩
theorem lw_p33 : lw_okq (⟨"TwinNetworkModel", "move", "(I)V"⟩, 41) := ⟨⟨by decide +kernel, by decide +kernel⟩, List.mem_of_getElem? (i := 724) (by decide +kernel), List.mem_of_getElem? (i := 931) (by decide +kernel), List.mem_of_getElem? (i := 932) (by decide +kernel)⟩
theorem lw_p34 : lw_okq (⟨"TwinNetworkModel", "atEnd", "(III)V"⟩, 41) := ⟨⟨by decide +kernel, by decide +kernel⟩, List.mem_of_getElem? (i := 724) (by decide +kernel), List.mem_of_getElem? (i := 938) (by decide +kernel), List.mem_of_getElem? (i := 939) (by decide +kernel)⟩
theorem lw_p35 : lw_okq (⟨"TwinNetworkModel", "linkOf", "(I)I"⟩, 41) := ⟨⟨by decide +kernel, by decide +kernel⟩, List.mem_of_getElem? (i := 724) (by decide +kernel), List.mem_of_getElem? (i := 942) (by decide +kernel), List.mem_of_getElem? (i := 943) (by decide +kernel)⟩
theorem lw_p36 : lw_okq (⟨"TwinNetworkModel", "isSound", "(I)Z"⟩, 41) := ⟨⟨by decide +kernel, by decide +kernel⟩, List.mem_of_getElem? (i := 724) (by decide +kernel), List.mem_of_getElem? (i := 946) (by decide +kernel), List.mem_of_getElem? (i := 947) (by decide +kernel)⟩
theorem lw_p37 : lw_okq (⟨"TwinNetworkModel", "isTarget", "(II)Z"⟩, 41) := ⟨⟨by decide +kernel, by decide +kernel⟩, List.mem_of_getElem? (i := 724) (by decide +kernel), List.mem_of_getElem? (i := 950) (by decide +kernel), List.mem_of_getElem? (i := 951) (by decide +kernel)⟩
theorem lw_p38 : lw_okq (⟨"TwinNetworkModel", "hasHead", "(I)Z"⟩, 41) := ⟨⟨by decide +kernel, by decide +kernel⟩, List.mem_of_getElem? (i := 724) (by decide +kernel), List.mem_of_getElem? (i := 954) (by decide +kernel), List.mem_of_getElem? (i := 955) (by decide +kernel)⟩
theorem lw_p39 : lw_okq (⟨"TwinNetworkModel", "arrive", "(IIII)I"⟩, 41) := ⟨⟨by decide +kernel, by decide +kernel⟩, List.mem_of_getElem? (i := 724) (by decide +kernel), List.mem_of_getElem? (i := 958) (by decide +kernel), List.mem_of_getElem? (i := 959) (by decide +kernel)⟩
theorem lw_p40 : lw_okq (⟨"TwinNetworkModel", "join", "(II)I"⟩, 41) := ⟨⟨by decide +kernel, by decide +kernel⟩, List.mem_of_getElem? (i := 724) (by decide +kernel), List.mem_of_getElem? (i := 965) (by decide +kernel), List.mem_of_getElem? (i := 966) (by decide +kernel)⟩
theorem lw_p41 : lw_okq (⟨"TwinNetworkModel", "atSwitch", "(III)V"⟩, 41) := ⟨⟨by decide +kernel, by decide +kernel⟩, List.mem_of_getElem? (i := 724) (by decide +kernel), List.mem_of_getElem? (i := 969) (by decide +kernel), List.mem_of_getElem? (i := 970) (by decide +kernel)⟩
theorem lw_p42 : lw_okq (⟨"TwinNetworkModel", "isOnPath", "(II)Z"⟩, 41) := ⟨⟨by decide +kernel, by decide +kernel⟩, List.mem_of_getElem? (i := 724) (by decide +kernel), List.mem_of_getElem? (i := 973) (by decide +kernel), List.mem_of_getElem? (i := 974) (by decide +kernel)⟩
theorem lw_p43 : lw_okq (⟨"TwinNetworkModel", "load", "(I)V"⟩, 41) := ⟨⟨by decide +kernel, by decide +kernel⟩, List.mem_of_getElem? (i := 724) (by decide +kernel), List.mem_of_getElem? (i := 983) (by decide +kernel), List.mem_of_getElem? (i := 984) (by decide +kernel)⟩
theorem lw_p44 : lw_okq (⟨"TwinNetworkModel", "pull", "(I)I"⟩, 41) := ⟨⟨by decide +kernel, by decide +kernel⟩, List.mem_of_getElem? (i := 724) (by decide +kernel), List.mem_of_getElem? (i := 987) (by decide +kernel), List.mem_of_getElem? (i := 988) (by decide +kernel)⟩
def lw_privs_3 : List (MethodName × Nat) := [(⟨"TwinNetworkModel", "drop", "(II)V"⟩, 41), (⟨"TwinNetworkModel", "move", "(I)V"⟩, 41), (⟨"TwinNetworkModel", "atEnd", "(III)V"⟩, 41), (⟨"TwinNetworkModel", "linkOf", "(I)I"⟩, 41), (⟨"TwinNetworkModel", "isSound", "(I)Z"⟩, 41), (⟨"TwinNetworkModel", "isTarget", "(II)Z"⟩, 41), (⟨"TwinNetworkModel", "hasHead", "(I)Z"⟩, 41), (⟨"TwinNetworkModel", "arrive", "(IIII)I"⟩, 41), (⟨"TwinNetworkModel", "join", "(II)I"⟩, 41), (⟨"TwinNetworkModel", "atSwitch", "(III)V"⟩, 41), (⟨"TwinNetworkModel", "isOnPath", "(II)Z"⟩, 41), (⟨"TwinNetworkModel", "load", "(I)V"⟩, 41), (⟨"TwinNetworkModel", "pull", "(I)I"⟩, 41)]
theorem lw_r3 : ∀ q ∈ lw_privs_3, lw_okq q := List.forall_mem_cons.mpr ⟨lw_p32, List.forall_mem_cons.mpr ⟨lw_p33, List.forall_mem_cons.mpr ⟨lw_p34, List.forall_mem_cons.mpr ⟨lw_p35, List.forall_mem_cons.mpr ⟨lw_p36, List.forall_mem_cons.mpr ⟨lw_p37, List.forall_mem_cons.mpr ⟨lw_p38, List.forall_mem_cons.mpr ⟨lw_p39, List.forall_mem_cons.mpr ⟨lw_p40, List.forall_mem_cons.mpr ⟨lw_p41, List.forall_mem_cons.mpr ⟨lw_p42, List.forall_mem_cons.mpr ⟨lw_p43, List.forall_mem_cons.mpr ⟨lw_p44, fun _ h => absurd h List.not_mem_nil⟩⟩⟩⟩⟩⟩⟩⟩⟩⟩⟩⟩⟩
def lw_privs : List (MethodName × Nat) := lw_privs_1 ++ (lw_privs_2 ++ (lw_privs_3))
def lw_tbl : List Cond := k2_sels lw_privs ++ tables_1
theorem lw_privs_ok : ∀ q ∈ lw_privs, lw_okq q := by
  show ∀ q ∈ lw_privs_1 ++ (lw_privs_2 ++ (lw_privs_3)), lw_okq q
  exact List.forall_mem_append.mpr ⟨lw_r1, List.forall_mem_append.mpr ⟨lw_r2, lw_r3⟩⟩

/-! classes, their fields -/
def cn_Datagram : String := "TwinNetwork$Datagram"
def cT_Datagram : u_T := fun k => match k with
  | 0 => ("TwinNetwork$Datagram", "bytes", "[B", true)
  | _ => ("TwinNetwork$Datagram", "length", "I", false)
def cy_Datagram : Nat → FieldType := fun k => match k with
  | 0 => .array .byte
  | _ => .int
theorem cn_Datagram_nm : ∀ a, a < 2 → ∀ b, b < 2 → a ≠ b → (cT_Datagram a).2.1 ≠ (cT_Datagram b).2.1 := by decide +kernel
theorem cn_Datagram_ty : ∀ k, k < 2 → parseFieldDescriptor (cT_Datagram k).2.2.1 = some (cy_Datagram k) := by decide +kernel
def cn_Fragment : String := "TwinNetwork$Fragment"
def cT_Fragment : u_T := fun k => match k with
  | 0 => ("TwinNetwork$Fragment", "messageNumber", "I", false)
  | 1 => ("TwinNetwork$Fragment", "messageSize", "I", false)
  | 2 => ("TwinNetwork$Fragment", "seed", "I", false)
  | 3 => ("TwinNetwork$Fragment", "place", "I", false)
  | 4 => ("TwinNetwork$Fragment", "length", "I", false)
  | _ => ("TwinNetwork$Fragment", "moreFollow", "Z", false)
def cy_Fragment : Nat → FieldType := fun k => match k with
  | 0 => .int
  | 1 => .int
  | 2 => .int
  | 3 => .int
  | 4 => .int
  | _ => .boolean
theorem cn_Fragment_nm : ∀ a, a < 6 → ∀ b, b < 6 → a ≠ b → (cT_Fragment a).2.1 ≠ (cT_Fragment b).2.1 := by decide +kernel
theorem cn_Fragment_ty : ∀ k, k < 6 → parseFieldDescriptor (cT_Fragment k).2.2.1 = some (cy_Fragment k) := by decide +kernel
def cn_Frame : String := "TwinNetwork$Frame"
def cT_Frame : u_T := fun k => match k with
  | 0 => ("TwinNetwork$Frame", "bytes", "[B", true)
  | _ => ("TwinNetwork$Frame", "size", "I", false)
def cy_Frame : Nat → FieldType := fun k => match k with
  | 0 => .array .byte
  | _ => .int
theorem cn_Frame_nm : ∀ a, a < 2 → ∀ b, b < 2 → a ≠ b → (cT_Frame a).2.1 ≠ (cT_Frame b).2.1 := by decide +kernel
theorem cn_Frame_ty : ∀ k, k < 2 → parseFieldDescriptor (cT_Frame k).2.2.1 = some (cy_Frame k) := by decide +kernel
def cn_Line : String := "TwinNetwork$Line"
def cT_Line : u_T := fun k => match k with
  | 0 => ("TwinNetwork$Line", "plainRow", "LTwinNetwork$Row;", true)
  | 1 => ("TwinNetwork$Line", "highRow", "LTwinNetwork$Row;", true)
  | 2 => ("TwinNetwork$Line", "hasOneRow", "Z", true)
  | 3 => ("TwinNetwork$Line", "frame", "LTwinNetwork$Frame;", false)
  | 4 => ("TwinNetwork$Line", "isBusy", "Z", false)
  | 5 => ("TwinNetwork$Line", "gone", "I", false)
  | 6 => ("TwinNetwork$Line", "expectsHarm", "Z", false)
  | 7 => ("TwinNetwork$Line", "harmPlace", "I", false)
  | _ => ("TwinNetwork$Line", "harmMask", "I", false)
def cy_Line : Nat → FieldType := fun k => match k with
  | 0 => .object "TwinNetwork$Row"
  | 1 => .object "TwinNetwork$Row"
  | 2 => .boolean
  | 3 => .object "TwinNetwork$Frame"
  | 4 => .boolean
  | 5 => .int
  | 6 => .boolean
  | 7 => .int
  | _ => .int
theorem cn_Line_nm : ∀ a, a < 9 → ∀ b, b < 9 → a ≠ b → (cT_Line a).2.1 ≠ (cT_Line b).2.1 := by decide +kernel
theorem cn_Line_ty : ∀ k, k < 9 → parseFieldDescriptor (cT_Line k).2.2.1 = some (cy_Line k) := by decide +kernel
def cn_Link : String := "TwinNetwork$Link"
def cT_Link : u_T := fun k => match k with
  | 0 => ("TwinNetwork$Link", "number", "I", true)
  | 1 => ("TwinNetwork$Link", "source", "I", true)
  | 2 => ("TwinNetwork$Link", "gap", "I", true)
  | 3 => ("TwinNetwork$Link", "most", "I", true)
  | 4 => ("TwinNetwork$Link", "isHigh", "Z", true)
  | 5 => ("TwinNetwork$Link", "isQueuing", "Z", true)
  | 6 => ("TwinNetwork$Link", "paths", "I", true)
  | 7 => ("TwinNetwork$Link", "ports", "[LTwinNetwork$Port;", true)
  | 8 => ("TwinNetwork$Link", "accounts", "[I", true)
  | 9 => ("TwinNetwork$Link", "waitingOnes", "[LTwinNetwork$Fragment;", true)
  | 10 => ("TwinNetwork$Link", "firstFragment", "I", false)
  | 11 => ("TwinNetwork$Link", "fragmentCount", "I", false)
  | 12 => ("TwinNetwork$Link", "messageCount", "I", false)
  | 13 => ("TwinNetwork$Link", "sequence", "I", false)
  | _ => ("TwinNetwork$Link", "openAt", "I", false)
def cy_Link : Nat → FieldType := fun k => match k with
  | 0 => .int
  | 1 => .int
  | 2 => .int
  | 3 => .int
  | 4 => .boolean
  | 5 => .boolean
  | 6 => .int
  | 7 => .array (.object "TwinNetwork$Port")
  | 8 => .array .int
  | 9 => .array (.object "TwinNetwork$Fragment")
  | 10 => .int
  | 11 => .int
  | 12 => .int
  | 13 => .int
  | _ => .int
theorem cn_Link_nm : ∀ a, a < 15 → ∀ b, b < 15 → a ≠ b → (cT_Link a).2.1 ≠ (cT_Link b).2.1 := by decide +kernel
theorem cn_Link_ty : ∀ k, k < 15 → parseFieldDescriptor (cT_Link k).2.2.1 = some (cy_Link k) := by decide +kernel
def cn_Port : String := "TwinNetwork$Port"
def cT_Port : u_T := fun k => match k with
  | 0 => ("TwinNetwork$Port", "isQueuing", "Z", true)
  | 1 => ("TwinNetwork$Port", "skew", "I", true)
  | 2 => ("TwinNetwork$Port", "lastSequences", "[I", true)
  | 3 => ("TwinNetwork$Port", "takenSequence", "I", false)
  | 4 => ("TwinNetwork$Port", "takenAt", "I", false)
  | 5 => ("TwinNetwork$Port", "isBegun", "Z", false)
  | 6 => ("TwinNetwork$Port", "begunNumber", "I", false)
  | 7 => ("TwinNetwork$Port", "begun", "LTwinNetwork$Datagram;", false)
  | 8 => ("TwinNetwork$Port", "kept", "[LTwinNetwork$Datagram;", true)
  | 9 => ("TwinNetwork$Port", "firstKept", "I", false)
  | 10 => ("TwinNetwork$Port", "keptCount", "I", false)
  | _ => ("TwinNetwork$Port", "cameAt", "I", false)
def cy_Port : Nat → FieldType := fun k => match k with
  | 0 => .boolean
  | 1 => .int
  | 2 => .array .int
  | 3 => .int
  | 4 => .int
  | 5 => .boolean
  | 6 => .int
  | 7 => .object "TwinNetwork$Datagram"
  | 8 => .array (.object "TwinNetwork$Datagram")
  | 9 => .int
  | 10 => .int
  | _ => .int
theorem cn_Port_nm : ∀ a, a < 12 → ∀ b, b < 12 → a ≠ b → (cT_Port a).2.1 ≠ (cT_Port b).2.1 := by decide +kernel
theorem cn_Port_ty : ∀ k, k < 12 → parseFieldDescriptor (cT_Port k).2.2.1 = some (cy_Port k) := by decide +kernel
def cn_Row : String := "TwinNetwork$Row"
def cT_Row : u_T := fun k => match k with
  | 0 => ("TwinNetwork$Row", "slots", "[LTwinNetwork$Frame;", true)
  | 1 => ("TwinNetwork$Row", "first", "I", false)
  | _ => ("TwinNetwork$Row", "count", "I", false)
def cy_Row : Nat → FieldType := fun k => match k with
  | 0 => .array (.object "TwinNetwork$Frame")
  | 1 => .int
  | _ => .int
theorem cn_Row_nm : ∀ a, a < 3 → ∀ b, b < 3 → a ≠ b → (cT_Row a).2.1 ≠ (cT_Row b).2.1 := by decide +kernel
theorem cn_Row_ty : ∀ k, k < 3 → parseFieldDescriptor (cT_Row k).2.2.1 = some (cy_Row k) := by decide +kernel
def cn_Net : String := "TwinNetwork"
def cT_Net : u_T := fun k => match k with
  | 0 => ("TwinNetwork", "links", "[LTwinNetwork$Link;", true)
  | 1 => ("TwinNetwork", "lines", "[LTwinNetwork$Line;", true)
  | 2 => ("TwinNetwork", "dropCounts", "[I", true)
  | 3 => ("TwinNetwork", "draft", "LTwinNetwork$Frame;", true)
  | 4 => ("TwinNetwork", "lastRead", "LTwinNetwork$Datagram;", true)
  | _ => ("TwinNetwork", "time", "I", false)
def cy_Net : Nat → FieldType := fun k => match k with
  | 0 => .array (.object "TwinNetwork$Link")
  | 1 => .array (.object "TwinNetwork$Line")
  | 2 => .array .int
  | 3 => .object "TwinNetwork$Frame"
  | 4 => .object "TwinNetwork$Datagram"
  | _ => .int
theorem cn_Net_nm : ∀ a, a < 6 → ∀ b, b < 6 → a ≠ b → (cT_Net a).2.1 ≠ (cT_Net b).2.1 := by decide +kernel
theorem cn_Net_ty : ∀ k, k < 6 → parseFieldDescriptor (cT_Net k).2.2.1 = some (cy_Net k) := by decide +kernel
def cn_Model : String := "TwinNetworkModel"
def cT_Model : u_T := fun k => match k with
  | 0 => ("TwinNetworkModel", "code", "I", false)
  | 1 => ("TwinNetworkModel", "time", "I", false)
  | 2 => ("TwinNetworkModel", "is", "[Z", true)
  | 3 => ("TwinNetworkModel", "high", "[Z", true)
  | 4 => ("TwinNetworkModel", "queuing", "[Z", true)
  | 5 => ("TwinNetworkModel", "source", "[I", true)
  | 6 => ("TwinNetworkModel", "gap", "[I", true)
  | 7 => ("TwinNetworkModel", "most", "[I", true)
  | 8 => ("TwinNetworkModel", "targets", "[I", true)
  | 9 => ("TwinNetworkModel", "skew", "[I", true)
  | 10 => ("TwinNetworkModel", "open", "[I", true)
  | 11 => ("TwinNetworkModel", "number", "[I", true)
  | 12 => ("TwinNetworkModel", "sequence", "[I", true)
  | 13 => ("TwinNetworkModel", "account", "[I", true)
  | 14 => ("TwinNetworkModel", "waits", "[I", true)
  | 15 => ("TwinNetworkModel", "waitSize", "[I", true)
  | 16 => ("TwinNetworkModel", "waitSeed", "[I", true)
  | 17 => ("TwinNetworkModel", "waitNumber", "[I", true)
  | 18 => ("TwinNetworkModel", "waitPlace", "[I", true)
  | 19 => ("TwinNetworkModel", "bytes", "[I", true)
  | 20 => ("TwinNetworkModel", "sizes", "[I", true)
  | 21 => ("TwinNetworkModel", "used", "[Z", true)
  | 22 => ("TwinNetworkModel", "row", "[I", true)
  | 23 => ("TwinNetworkModel", "rowSize", "[I", true)
  | 24 => ("TwinNetworkModel", "on", "[I", true)
  | 25 => ("TwinNetworkModel", "gone", "[I", true)
  | 26 => ("TwinNetworkModel", "harmPlace", "[I", true)
  | 27 => ("TwinNetworkModel", "harmMask", "[I", true)
  | 28 => ("TwinNetworkModel", "last", "[I", true)
  | 29 => ("TwinNetworkModel", "taken", "[I", true)
  | 30 => ("TwinNetworkModel", "takenAt", "[I", true)
  | 31 => ("TwinNetworkModel", "begunNumber", "[I", true)
  | 32 => ("TwinNetworkModel", "begunSize", "[I", true)
  | 33 => ("TwinNetworkModel", "begun", "[I", true)
  | 34 => ("TwinNetworkModel", "messages", "[I", true)
  | 35 => ("TwinNetworkModel", "messageSize", "[I", true)
  | 36 => ("TwinNetworkModel", "message", "[I", true)
  | 37 => ("TwinNetworkModel", "cameAt", "[I", true)
  | 38 => ("TwinNetworkModel", "dropped", "[I", true)
  | 39 => ("TwinNetworkModel", "given", "[I", true)
  | _ => ("TwinNetworkModel", "givenSize", "I", false)
def cy_Model : Nat → FieldType := fun k => match k with
  | 0 => .int
  | 1 => .int
  | 2 => .array .boolean
  | 3 => .array .boolean
  | 4 => .array .boolean
  | 5 => .array .int
  | 6 => .array .int
  | 7 => .array .int
  | 8 => .array .int
  | 9 => .array .int
  | 10 => .array .int
  | 11 => .array .int
  | 12 => .array .int
  | 13 => .array .int
  | 14 => .array .int
  | 15 => .array .int
  | 16 => .array .int
  | 17 => .array .int
  | 18 => .array .int
  | 19 => .array .int
  | 20 => .array .int
  | 21 => .array .boolean
  | 22 => .array .int
  | 23 => .array .int
  | 24 => .array .int
  | 25 => .array .int
  | 26 => .array .int
  | 27 => .array .int
  | 28 => .array .int
  | 29 => .array .int
  | 30 => .array .int
  | 31 => .array .int
  | 32 => .array .int
  | 33 => .array .int
  | 34 => .array .int
  | 35 => .array .int
  | 36 => .array .int
  | 37 => .array .int
  | 38 => .array .int
  | 39 => .array .int
  | _ => .int
theorem cn_Model_nm : ∀ a, a < 41 → ∀ b, b < 41 → a ≠ b → (cT_Model a).2.1 ≠ (cT_Model b).2.1 := by decide +kernel
theorem cn_Model_ty : ∀ k, k < 41 → parseFieldDescriptor (cT_Model k).2.2.1 = some (cy_Model k) := by decide +kernel
abbrev classes : List vw_C := [(cn_Datagram, cT_Datagram, 2), (cn_Fragment, cT_Fragment, 6), (cn_Frame, cT_Frame, 2), (cn_Line, cT_Line, 9), (cn_Link, cT_Link, 15), (cn_Port, cT_Port, 12), (cn_Row, cT_Row, 3), (cn_Net, cT_Net, 6), (cn_Model, cT_Model, 41)]
def ae_ty (dA : Nat → ClassId) : List (ClassId × FieldType) := [(dA 0, .int), (dA 1, .byte), (dA 2, .boolean), (dA 3, .long), (dA 4, .object "TwinNetwork$Link"), (dA 5, .object "TwinNetwork$Line"), (dA 6, .object "TwinNetwork$Frame"), (dA 7, .object "TwinNetwork$Port"), (dA 8, .object "TwinNetwork$Fragment"), (dA 9, .object "TwinNetwork$Datagram")]
def aw_ec : List Nat := [4, 3, 2, 5, 1, 0]
/-- the words that go from a state to the next by themselves -/
def aw_ok : Cond → Bool
  | .arrayClass _ => true
  | .fieldLinkNest _ _ _ _ _ _ => true
  | .methodLinkNest _ _ _ _ => true
  | .arrayOver (.object _) => true
  | w => w.onTables && w.keeps
def aw_all : List Cond := lw_tbl.filter aw_ok
theorem aw_i (i : Nat) {w : Cond} (h : lw_tbl[i]? = some w) (ho : aw_ok w = true) : w ∈ aw_all := List.mem_filter.mpr ⟨List.mem_of_getElem? h, ho⟩
theorem aw_warm {a a' : Array Value} {s U : State} (hW : s.WarmedH U.vm) {w : Cond} (ho : aw_ok w = true) (h : w.before a s = true) : w.before a' U = true := by
  by_cases hg : goodWord w = true
  · exact word_at hW (good_of_word hg) h
  · cases w with
    | fieldLinkNest x1 x2 x3 x4 x5 x6 => exact va_Nw.use rfl (va_Nw.warmF hW (va_Nw.of rfl h))
    | methodLinkNest x1 x2 x3 x4 => exact va_Nw.use rfl (va_Nw.warmM hW (va_Nw.of rfl h))
    | arrayOver t =>
      cases t with
      | object C => exact va_AO.use ((va_AO.of h).moved hW.alike)
      | _ => exact absurd ho hg
    | _ => exact absurd ho hg
theorem aw_warmAll {a a' : Array Value} {s U : State} (hW : s.WarmedH U.vm) (h : ∀ w ∈ aw_all, w.before a s = true) : ∀ w ∈ aw_all, w.before a' U = true := fun w hw => aw_warm hW (List.mem_filter.mp hw).2 (h w hw)
end
section
section AE
/-- cells: arrays (number of the kind, length, contents), objects (number of the class, fields); references are places in the list of cells -/
abbrev ae_C : Type := (Nat × vp_A) ⊕ (Nat × List Value)
/-- how many cells and slots were made so far, and the cells -/
abbrev ae_S : Type := (Nat × Nat) × List ae_C
abbrev ae_Ls : Type := List (Option Value)
abbrev ae_R : Type := Nat → Nat × (Nat → Int32)
abbrev ae_Op : Type := ae_R → ae_S → ae_Ls → List Value → Option (ae_S × ae_Ls × List Value × Nat)
def ae_v (ad ro : Nat → Nat) : Value → Value
  | .ref p => .ref (ad p)
  | .retAddr k => .ref (ro k)
  | .int x => .int x
  | .long x => .long x
  | .float x => .float x
  | .double x => .double x
  | .null => .null
def ae_a (ad : Nat → Nat) (x : vp_A) : vp_A := (x.1, match x.2 with
  | .inl f => .inl f
  | .inr (.inl f) => .inr (.inl f)
  | .inr (.inr (.inl f)) => .inr (.inr (.inl f))
  | .inr (.inr (.inr (.inl f))) => .inr (.inr (.inr (.inl f)))
  | .inr (.inr (.inr (.inr f))) => .inr (.inr (.inr (.inr (fun i => (f i).map ad)))))
def ae_c (ad ro : Nat → Nat) (dA : Nat → ClassId) : ae_C → va_E
  | .inl (t, x) => .inl (dA t, ae_a ad x)
  | .inr (ci, fs) => .inr (ci, fs.map (ae_v ad ro))
def ae_w (ad ro : Nat → Nat) (dA : Nat → ClassId) (σ : List ae_C) : va_W := σ.mapIdx (fun i x => (ad i, ae_c ad ro dA x))
theorem ae_w_get {ad ro : Nat → Nat} {dA : Nat → ClassId} {σ : List ae_C} {q : Nat} {x : ae_C} (h : σ[q]? = some x) : (ae_w ad ro dA σ)[q]? = some (ad q, ae_c ad ro dA x) := by
  simp [ae_w, List.getElem?_mapIdx, h]
theorem ae_w_set (ad ro : Nat → Nat) (dA : Nat → ClassId) (σ : List ae_C) (q : Nat) (x : ae_C) : (ae_w ad ro dA σ).set q (ad q, ae_c ad ro dA x) = ae_w ad ro dA (σ.set q x) := by
  apply List.ext_getElem?
  intro i
  simp only [ae_w, List.getElem?_set, List.getElem?_mapIdx, List.length_mapIdx]
  by_cases h : q = i
  · subst h
    by_cases h2 : q < σ.length
    · simp [h2]
    · simp [h2]
  · simp [h]
/-- no reference points out of the store -/
def ae_cv (n : Nat) : Value → Prop
  | .ref p => p < n
  | _ => True
def ae_cc (n : Nat) : ae_C → Prop
  | .inl (_, _, .inr (.inr (.inr (.inr f)))) => ∀ i p, f i = some p → p < n
  | .inl _ => True
  | .inr (_, fs) => ∀ v ∈ fs, ae_cv n v
def ae_cs (σ : ae_S) : Prop := ∀ x ∈ σ.2, ae_cc σ.2.length x
def ae_cL (n : Nat) (L : ae_Ls) : Prop := ∀ (i : Nat) (v : Value), L[i]? = some (some v) → ae_cv n v ∧ v.category = 1
def ae_ck (n : Nat) (k : List Value) : Prop := ∀ v ∈ k, ae_cv n v
def ae_cl (σ : ae_S) (L : ae_Ls) (k : List Value) : Prop := ae_cs σ ∧ ae_cL σ.2.length L ∧ ae_ck σ.2.length k
theorem ae_cv_mono {n n' : Nat} (h : n ≤ n') {v : Value} (hv : ae_cv n v) : ae_cv n' v := by
  cases v <;> first | trivial | exact Nat.lt_of_lt_of_le hv h
theorem ae_cc_mono {n n' : Nat} (h : n ≤ n') {x : ae_C} (hx : ae_cc n x) : ae_cc n' x := by
  rcases x with ⟨t, k, f | f | f | f | f⟩ | ⟨ci, fs⟩
  · trivial
  · trivial
  · trivial
  · trivial
  · exact fun i p hp => Nat.lt_of_lt_of_le (hx i p hp) h
  · exact fun v hv => ae_cv_mono h (hx v hv)
theorem ae_cL_mono {n n' : Nat} (h : n ≤ n') {L : ae_Ls} (hL : ae_cL n L) : ae_cL n' L := fun i v hv => ⟨ae_cv_mono h (hL i v hv).1, (hL i v hv).2⟩
theorem ae_ck_mono {n n' : Nat} (h : n ≤ n') {k : List Value} (hk : ae_ck n k) : ae_ck n' k := fun v hv => ae_cv_mono h (hk v hv)
theorem ae_v_eq {n : Nat} {ad ad' ro : Nat → Nat} (h : ∀ q, q < n → ad' q = ad q) {v : Value} (hv : ae_cv n v) : ae_v ad' ro v = ae_v ad ro v := by
  cases v <;> simp_all [ae_v, ae_cv]
theorem ae_k_eq {n : Nat} {ad ad' ro : Nat → Nat} (h : ∀ q, q < n → ad' q = ad q) {k : List Value} (hv : ae_ck n k) : k.map (ae_v ad' ro) = k.map (ae_v ad ro) :=
  List.map_congr_left fun v hm => ae_v_eq h (hv v hm)
theorem ae_c_eq {n : Nat} {ad ad' ro : Nat → Nat} {dA : Nat → ClassId} (h : ∀ q, q < n → ad' q = ad q) {x : ae_C} (hx : ae_cc n x) : ae_c ad' ro dA x = ae_c ad ro dA x := by
  rcases x with ⟨t, k, f | f | f | f | f⟩ | ⟨ci, fs⟩
  · rfl
  · rfl
  · rfl
  · rfl
  · have : (fun i => (f i).map ad') = (fun i => (f i).map ad) := by
      funext i
      cases hf : f i with
      | none => rfl
      | some p => simp [h p (hx i p hf)]
    simp [ae_c, ae_a, this]
  · simp only [ae_c]
    rw [ae_k_eq h hx]
def ae_up (ad : Nat → Nat) (n a : Nat) : Nat → Nat := fun j => if j = n then a else ad j
theorem ae_up_lt {ad : Nat → Nat} {n a : Nat} : ∀ q, q < n → ae_up ad n a q = ad q := fun q h => by simp [ae_up, Nat.ne_of_lt h]
theorem ae_up_self {ad : Nat → Nat} {n a : Nat} : ae_up ad n a n = a := by simp [ae_up]
theorem ae_w_eq {ad ad' ro : Nat → Nat} {dA : Nat → ClassId} {σ : List ae_C} {n : Nat} (hn : σ.length ≤ n) (h : ∀ q, q < n → ad' q = ad q) (hc : ∀ x ∈ σ, ae_cc n x) : ae_w ad' ro dA σ = ae_w ad ro dA σ := by
  apply List.ext_getElem?
  intro i
  simp only [ae_w, List.getElem?_mapIdx]
  cases hi : σ[i]? with
  | none => rfl
  | some x =>
    have hl : i < σ.length := (List.getElem?_eq_some_iff.mp hi).1
    simp [h i (by omega), ae_c_eq h (hc x (List.mem_of_getElem? hi))]
theorem ae_w_push {ad ro : Nat → Nat} {dA : Nat → ClassId} {σ : List ae_C} (a : Nat) (x : ae_C) (hc : ∀ y ∈ σ, ae_cc σ.length y) (hx : ae_cc σ.length x) :
    ae_w (ae_up ad σ.length a) ro dA (σ ++ [x]) = ae_w ad ro dA σ ++ [(a, ae_c ad ro dA x)] := by
  have h1 : ae_w (ae_up ad σ.length a) ro dA (σ ++ [x]) = ae_w (ae_up ad σ.length a) ro dA σ ++ [(ae_up ad σ.length a σ.length, ae_c (ae_up ad σ.length a) ro dA x)] := by
    simp [ae_w, List.mapIdx_append]
  rw [h1, ae_up_self, ae_w_eq (Nat.le_refl _) ae_up_lt hc, ae_c_eq ae_up_lt hx]
/-- the locals -/
def ae_L (ad ro : Nat → Nat) (nL : Nat) (L : ae_Ls) (ls : Array Slot) : Prop := L.length = nL ∧ ls.size = nL ∧ lv_wf ls ∧ ∀ (i : Nat) (v : Value), L[i]? = some (some v) → ls[i]? = some (.val (ae_v ad ro v))
def ae_as (ad ro : Nat → Nat) (L : ae_Ls) : List (Nat × Value) := L.zipIdx.filterMap (fun q => q.1.map (fun v => (q.2, ae_v ad ro v)))
theorem ae_as_mem {ad ro : Nat → Nat} {L : ae_Ls} {i : Nat} {w : Value} : (i, w) ∈ ae_as ad ro L ↔ ∃ v, L[i]? = some (some v) ∧ w = ae_v ad ro v := by
  simp only [ae_as, List.mem_filterMap]
  constructor
  · rintro ⟨⟨o, j⟩, hm, he⟩
    rw [List.mem_zipIdx_iff_getElem?] at hm
    cases o with
    | none => simp at he
    | some v =>
      simp only [Option.map_some, Option.some.injEq, Prod.mk.injEq] at he
      obtain ⟨e1, e2⟩ := he
      subst e1
      exact ⟨v, hm, e2.symm⟩
  · rintro ⟨v, hv, rfl⟩
    exact ⟨(some v, i), by rw [List.mem_zipIdx_iff_getElem?]; exact hv, rfl⟩
theorem ae_L.has {ad ro : Nat → Nat} {nL : Nat} {L : ae_Ls} {ls : Array Slot} (h : ae_L ad ro nL L ls) : lv_has ls nL (ae_as ad ro L) := by
  refine ⟨h.2.1, h.2.2.1, fun q hq => ?_⟩
  obtain ⟨i, w⟩ := q
  obtain ⟨v, hv, rfl⟩ := ae_as_mem.mp hq
  exact h.2.2.2 i v hv
theorem ae_v_cat (ad ro : Nat → Nat) (v : Value) : (ae_v ad ro v).category = v.category := by cases v <;> rfl
theorem ae_L.put {ad ro : Nat → Nat} {nL n i : Nat} {L : ae_Ls} {ls ls' : Array Slot} {v : Value} (h : ae_L ad ro nL L ls) (hc : ae_cL n L)
    (h' : lv_has ls' nL ((i, ae_v ad ro v) :: (ae_as ad ro L).filter (fun q => !(q.1 == i) && !(q.1 + 1 == i && q.2.category == 2)))) : ae_L ad ro nL (L.set i (some v)) ls' := by
  refine ⟨by simp [h.1], h'.1, h'.2.1, fun j u hj => ?_⟩
  rw [List.getElem?_set] at hj
  by_cases hji : i = j
  · subst hji
    simp only [if_true] at hj
    split at hj
    · cases hj
      exact h'.2.2 (i, ae_v ad ro v) List.mem_cons_self
    · cases hj
  · rw [if_neg hji] at hj
    refine h'.2.2 (j, ae_v ad ro u) (List.mem_cons_of_mem _ (List.mem_filter.mpr ⟨ae_as_mem.mpr ⟨u, hj, rfl⟩, ?_⟩))
    have hcat : (ae_v ad ro u).category = 1 := by rw [ae_v_cat]; exact (hc j u hj).2
    simp [hcat]
    exact fun z => hji z.symm
theorem ae_L_up {n : Nat} {ad ad' ro : Nat → Nat} {nL : Nat} {L : ae_Ls} {ls : Array Slot} (h : ∀ q, q < n → ad' q = ad q) (hc : ae_cL n L) (hl : ae_L ad ro nL L ls) : ae_L ad' ro nL L ls :=
  ⟨hl.1, hl.2.1, hl.2.2.1, fun i v hv => by rw [ae_v_eq h (hc i v hv).1]; exact hl.2.2.2 i v hv⟩
/-- the arrays that are only read: the script, and the static ones -/
def ae_RO (ra : ae_R) (ro : Nat → Nat) (A : Nat → Prop) (U : State) (H : Heap) : Prop :=
  (∀ k, k < 4 → va_T .int (ro k) (ra k).1 (fun j => .int ((ra k).2 j)) A U H) ∧ (∀ k, k < 4 → (ra k).1 < 2 ^ 31) ∧ va_Z "TwinNetwork" "LEAVES_SWITCH" "[I" (.ref (ro 1)) A U H ∧ va_Z "TwinNetwork" "ENDS_AT_SWITCH" "[I" (.ref (ro 2)) A U H ∧ va_Z "TwinNetwork" "CHECK_STEPS" "[I" (.ref (ro 3)) A U H
theorem ae_RO.moved {ra : ae_R} {ro : Nat → Nat} {A : Nat → Prop} {u U : State} {H : Heap} (hvm : u.vm.Alike U.vm) (h : ae_RO ra ro A u H) : ae_RO ra ro A U H :=
  ⟨fun k hk => (h.1 k hk).moved hvm, h.2.1, h.2.2.1.moved hvm, h.2.2.2.1.moved hvm, h.2.2.2.2.moved hvm⟩
theorem ae_RO.narrow {ra : ae_R} {ro : Nat → Nat} {A A' : Nat → Prop} {U : State} {H : Heap} (h : ae_RO ra ro A U H) (hAB : ∀ q, A' q → A q) : ae_RO ra ro A' U H :=
  ⟨fun k hk => (h.1 k hk).narrow hAB, h.2.1, h.2.2.1.narrow hAB, h.2.2.2.1.narrow hAB, h.2.2.2.2.narrow hAB⟩
theorem ae_RO.kept {ra : ae_R} {ro : Nat → Nat} {A : Nat → Prop} {U : State} {H H1 : Heap} (h : ae_RO ra ro A U H) (hq : ∀ a : Nat, a < H.size → ¬ A a → H1[a]? = H[a]?) : ae_RO ra ro A U H1 :=
  ⟨fun k hk => (h.1 k hk).kept hq, h.2.1, h.2.2.1.kept hq, h.2.2.2.1.kept hq, h.2.2.2.2.kept hq⟩

/-- the machine at a point of a method, for every heap that holds the store -/
def ae_Go (p : Program) (l : Launch) (e : Env) (R : Room) (s : State) (m : MethodId) (args : Array Value) (below : List Frame) (meth : Method) (c : Code) (Q : State → Prop) (D : va_G) (dA : Nat → ClassId) (ro : Nat → Nat) (A : Nat → Prop) (nL : Nat) (B : Nat × Nat) (ad0 : Nat → Nat) (n0 : Nat) (σ : ae_S) (L : ae_Ls) (k : List Value) (pc : Nat) : Prop :=
  ∀ (ad : Nat → Nat) (H : Heap) (locs : List Loc) (cells slots : Nat) (ls : Array Slot), va_P D classes (ae_w ad ro dA σ.2) H → va_D A (ae_w ad ro dA σ.2) → va_S A s.heap H locs → B.1 + cells = σ.1.1 → B.2 + slots = σ.1.2 → ae_L ad ro nL L ls → (∀ q, q < n0 → ad q = ad0 q) →
    W p l e R s m args below meth c H locs cells slots Q (F0 m pc ls (k.map (ae_v ad ro)))

/-- what holds all through a method -/
def ae_X (p : Program) (l : Launch) (e : Env) (R : Room) (s : State) (m : MethodId) (args : Array Value) (below : List Frame) (meth : Method) (c : Code) (D : va_G) (dA : Nat → ClassId) (ro : Nat → Nat) (A : Nat → Prop) (B : Nat × Nat) (ra : Nat → Nat × (Nat → Int32)) (own nm : String) (cc : ByteArray) (nL : Nat) (ret : Option FieldType) (KF SF d : Nat) : Prop :=
  p.tables.exec = Jvm.exec ∧ c.code = cc ∧ c.maxLocals = nL ∧ s.vm.findClass own = some m.cls ∧ (∀ w ∈ aw_all, w.before args s = true) ∧ meth.sig.returnType = ret ∧ meth.locks = false ∧ meth.name = nm ∧ va_K D classes (ae_ty dA) s ∧ ae_RO ra ro A s s.heap ∧ (∀ q, s.heap.size ≤ q → A q) ∧ d + 1 ≤ R.frames ∧ 40 * (d + 1) ≤ R.locals ∧ KF ≤ B.1 + R.cells ∧ SF ≤ B.2 + R.slots

/-- an op does at pc what the machine does -/
def ae_Ok (p : Program) (l : Launch) (e : Env) (R : Room) (s : State) (m : MethodId) (args : Array Value) (below : List Frame) (meth : Method) (c : Code) (Q : State → Prop) (D : va_G) (dA : Nat → ClassId) (ro : Nat → Nat) (A : Nat → Prop) (nL : Nat) (B : Nat × Nat) (ad0 : Nat → Nat) (n0 : Nat) (ra : Nat → Nat × (Nat → Int32)) (KF SF pc : Nat) (f : ae_Op) : Prop :=
  ∀ (σ : ae_S) (L : ae_Ls) (k : List Value) (σ' : ae_S) (L' : ae_Ls) (k' : List Value) (pc' : Nat), f ra σ L k = some (σ', L', k', pc') → ae_cl σ L k → n0 ≤ σ.2.length → σ'.1.1 ≤ KF ∧ σ'.1.2 ≤ SF → ae_Go p l e R s m args below meth c Q D dA ro A nL B ad0 n0 σ' L' k' pc' → ae_Go p l e R s m args below meth c Q D dA ro A nL B ad0 n0 σ L k pc
/-- an op leaves the store closed, and takes nothing away -/
def ae_Pu (f : ae_Op) : Prop :=
  ∀ (ra : ae_R) (σ : ae_S) (L : ae_Ls) (k : List Value) (σ' : ae_S) (L' : ae_Ls) (k' : List Value) (pc' : Nat), f ra σ L k = some (σ', L', k', pc') → ae_cl σ L k → ae_cl σ' L' k' ∧ σ.1.1 ≤ σ'.1.1 ∧ σ.1.2 ≤ σ'.1.2 ∧ σ.2.length ≤ σ'.2.length

def o_push (v : Value) (np : Nat) : ae_Op := fun _ σ L k => some (σ, L, v :: k, np)
def o_bin (f : Int32 → Int32 → Int32) (np : Nat) : ae_Op := fun _ σ L k => match k with
  | .int y :: .int x :: r => some (σ, L, .int (f x y) :: r, np)
  | _ => none
def o_dv (f : Int32 → Int32 → Int32) (np : Nat) : ae_Op := fun _ σ L k => match k with
  | .int y :: .int x :: r => if y = 0 then none else some (σ, L, .int (f x y) :: r, np)
  | _ => none
def o_un (f : Int32 → Int32) (np : Nat) : ae_Op := fun _ σ L k => match k with
  | .int x :: r => some (σ, L, .int (f x) :: r, np)
  | _ => none
def o_i2l (np : Nat) : ae_Op := fun _ σ L k => match k with
  | .int x :: r => some (σ, L, .long x.toInt64 :: r, np)
  | _ => none
def o_lcmp (np : Nat) : ae_Op := fun _ σ L k => match k with
  | .long y :: .long x :: r => some (σ, L, .int (lg_cmp x y) :: r, np)
  | _ => none
def o_dup (np : Nat) : ae_Op := fun _ σ L k => match k with
  | v :: r => if v.category = 1 then some (σ, L, v :: v :: r, np) else none
  | _ => none
def o_dup2 (np : Nat) : ae_Op := fun _ σ L k => match k with
  | v :: u :: r => if v.category = 1 ∧ u.category = 1 then some (σ, L, v :: u :: v :: u :: r, np) else none
  | _ => none
def o_dupx1 (np : Nat) : ae_Op := fun _ σ L k => match k with
  | v :: u :: r => if v.category = 1 ∧ u.category = 1 then some (σ, L, v :: u :: v :: r, np) else none
  | _ => none
def o_pop (np : Nat) : ae_Op := fun _ σ L k => match k with
  | v :: r => if v.category = 1 then some (σ, L, r, np) else none
  | _ => none
def o_il (i : Nat) (np : Nat) : ae_Op := fun _ σ L k => match L[i]? with
  | some (some (.int x)) => some (σ, L, .int x :: k, np)
  | _ => none
def o_al (i : Nat) (np : Nat) : ae_Op := fun _ σ L k => match L[i]? with
  | some (some (.ref x)) => some (σ, L, .ref x :: k, np)
  | some (some .null) => some (σ, L, .null :: k, np)
  | some (some (.retAddr x)) => some (σ, L, .retAddr x :: k, np)
  | _ => none
def o_is (i : Nat) (np : Nat) : ae_Op := fun _ σ L k => match k with
  | .int x :: r => if i < L.length then some (σ, L.set i (some (.int x)), r, np) else none
  | _ => none
def o_as (i : Nat) (np : Nat) : ae_Op := fun _ σ L k => match k with
  | .ref x :: r => if i < L.length then some (σ, L.set i (some (.ref x)), r, np) else none
  | .null :: r => if i < L.length then some (σ, L.set i (some .null), r, np) else none
  | .retAddr x :: r => if i < L.length then some (σ, L.set i (some (.retAddr x)), r, np) else none
  | _ => none
def o_inc (i : Nat) (n : Int32) (np : Nat) : ae_Op := fun _ σ L k => match L[i]? with
  | some (some (.int x)) => some (σ, L.set i (some (.int (x + n))), k, np)
  | _ => none
def o_if (t : Int32 → Bool) (tg np : Nat) : ae_Op := fun _ σ L k => match k with
  | .int x :: r => some (σ, L, r, if t x then tg else np)
  | _ => none
def o_ic (t : Int32 → Int32 → Bool) (tg np : Nat) : ae_Op := fun _ σ L k => match k with
  | .int y :: .int x :: r => some (σ, L, r, if t x y then tg else np)
  | _ => none
def o_nul (tg np : Nat) : ae_Op := fun _ σ L k => match k with
  | .null :: r => some (σ, L, r, tg)
  | .ref _ :: r => some (σ, L, r, np)
  | _ => none
def o_goto (tg : Nat) : ae_Op := fun _ σ L k => some (σ, L, k, tg)
def o_sw (lo hi : Int) (tgs : List Nat) (df : Nat) : ae_Op := fun _ σ L k => match k with
  | .int x :: r => some (σ, L, r, if x.toInt < lo ∨ hi < x.toInt then df else tgs.getD (x.toInt - lo).toNat 0)
  | _ => none

def o_get (ci kk : Nat) (np : Nat) : ae_Op := fun _ σ L k => match k with
  | .ref p :: r => match σ.2[p]? with
    | some (.inr (cj, fs)) => if cj = ci then (match fs[kk]? with
      | some v => some (σ, L, v :: r, np)
      | none => none) else none
    | _ => none
  | _ => none
def o_put (ci kk : Nat) (ok : Value → Bool) (np : Nat) : ae_Op := fun _ σ L k => match k with
  | v :: .ref p :: r => match σ.2[p]? with
    | some (.inr (cj, fs)) => if cj = ci ∧ ok v = true ∧ kk < fs.length then some ((σ.1, σ.2.set p (.inr (cj, fs.set kk v))), L, r, np) else none
    | _ => none
  | _ => none
def k_int : Value → Bool
  | .int _ => true
  | _ => false
def k_bool : Value → Bool
  | .int x => x == 0 || x == 1
  | _ => false
def k_ref : Value → Bool
  | .ref _ => true
  | .null => true
  | _ => false
def o_ia (np : Nat) : ae_Op := fun ra σ L k => match k with
  | .int i :: .ref p :: r => match σ.2[p]? with
    | some (.inl (t, n, .inl f)) => if t = 0 ∧ ¬ (i < 0 ∨ n ≤ i.toNatClampNeg) then some (σ, L, .int (f i.toNatClampNeg) :: r, np) else none
    | _ => none
  | .int i :: .retAddr q :: r => if q < 4 ∧ ¬ (i < 0 ∨ (ra q).1 ≤ i.toNatClampNeg) then some (σ, L, .int ((ra q).2 i.toNatClampNeg) :: r, np) else none
  | _ => none
def o_ba (np : Nat) : ae_Op := fun _ σ L k => match k with
  | .int i :: .ref p :: r => match σ.2[p]? with
    | some (.inl (t, n, .inl f)) => if (t = 1 ∨ t = 2) ∧ ¬ (i < 0 ∨ n ≤ i.toNatClampNeg) then some (σ, L, .int (f i.toNatClampNeg) :: r, np) else none
    | _ => none
  | _ => none
def o_la (np : Nat) : ae_Op := fun _ σ L k => match k with
  | .int i :: .ref p :: r => match σ.2[p]? with
    | some (.inl (t, n, .inr (.inl f))) => if t = 3 ∧ ¬ (i < 0 ∨ n ≤ i.toNatClampNeg) then some (σ, L, .long (f i.toNatClampNeg) :: r, np) else none
    | _ => none
  | _ => none
def o_aa (np : Nat) : ae_Op := fun _ σ L k => match k with
  | .int i :: .ref p :: r => match σ.2[p]? with
    | some (.inl (t, n, .inr (.inr (.inr (.inr f))))) => if (4 ≤ t ∧ t < 10) ∧ ¬ (i < 0 ∨ n ≤ i.toNatClampNeg) then some (σ, L, va_rf (f i.toNatClampNeg) :: r, np) else none
    | _ => none
  | _ => none
def o_ias (np : Nat) : ae_Op := fun _ σ L k => match k with
  | .int x :: .int i :: .ref p :: r => match σ.2[p]? with
    | some (.inl (t, n, .inl f)) => if t = 0 ∧ ¬ (i < 0 ∨ n ≤ i.toNatClampNeg) then some ((σ.1, σ.2.set p (.inl (t, n, .inl (upd f i.toNatClampNeg x)))), L, r, np) else none
    | _ => none
  | _ => none
def o_bas (np : Nat) : ae_Op := fun _ σ L k => match k with
  | .int x :: .int i :: .ref p :: r => match σ.2[p]? with
    | some (.inl (t, n, .inl f)) => if ¬ (i < 0 ∨ n ≤ i.toNatClampNeg) then (if t = 1 then some ((σ.1, σ.2.set p (.inl (t, n, .inl (upd f i.toNatClampNeg (vp_nar .byte x))))), L, r, np) else if t = 2 then some ((σ.1, σ.2.set p (.inl (t, n, .inl (upd f i.toNatClampNeg (vp_nar .boolean x))))), L, r, np) else none) else none
    | _ => none
  | _ => none
def o_las (np : Nat) : ae_Op := fun _ σ L k => match k with
  | .long x :: .int i :: .ref p :: r => match σ.2[p]? with
    | some (.inl (t, n, .inr (.inl f))) => if t = 3 ∧ ¬ (i < 0 ∨ n ≤ i.toNatClampNeg) then some ((σ.1, σ.2.set p (.inl (t, n, .inr (.inl (vp_updL f i.toNatClampNeg x))))), L, r, np) else none
    | _ => none
  | _ => none
/-- the class of an array's elements -/
def ae_ec (t : Nat) : Nat := (aw_ec.getD (t - 4) 99)
def o_aas (np : Nat) : ae_Op := fun _ σ L k => match k with
  | .ref q :: .int i :: .ref p :: r => match σ.2[p]?, σ.2[q]? with
    | some (.inl (t, n, .inr (.inr (.inr (.inr f))))), some (.inr (ci, _)) => if (4 ≤ t ∧ t < 10 ∧ ci = ae_ec t) ∧ ¬ (i < 0 ∨ n ≤ i.toNatClampNeg) then some ((σ.1, σ.2.set p (.inl (t, n, .inr (.inr (.inr (.inr (va_up f i.toNatClampNeg (some q)))))))), L, r, np) else none
    | _, _ => none
  | .null :: .int i :: .ref p :: r => match σ.2[p]? with
    | some (.inl (t, n, .inr (.inr (.inr (.inr f))))) => if (4 ≤ t ∧ t < 10) ∧ ¬ (i < 0 ∨ n ≤ i.toNatClampNeg) then some ((σ.1, σ.2.set p (.inl (t, n, .inr (.inr (.inr (.inr (va_up f i.toNatClampNeg none))))))), L, r, np) else none
    | _ => none
  | _ => none
def o_len (np : Nat) : ae_Op := fun ra σ L k => match k with
  | .ref p :: r => match σ.2[p]? with
    | some (.inl (t, n, _)) => if t < 10 then some (σ, L, .int (Int32.ofNat n) :: r, np) else none
    | _ => none
  | .retAddr q :: r => if q < 4 then some (σ, L, .int (Int32.ofNat (ra q).1) :: r, np) else none
  | _ => none
def o_new (ci N : Nat) (fs : List Value) (np : Nat) : ae_Op := fun _ σ L k => some (((σ.1.1 + 1, σ.1.2 + N), σ.2 ++ [.inr (ci, fs)]), L, .ref σ.2.length :: k, np)
def ae_zero (t : Nat) (n : Nat) : vp_A := (n, if t = 3 then .inr (.inl (fun _ => 0)) else .inl (fun _ => 0))
def o_na (t : Nat) (np : Nat) : ae_Op := fun _ σ L k => match k with
  | .int i :: r => if ¬ i < 0 ∧ i.toNatClampNeg * 8 ≤ 536870912 then some (((σ.1.1 + 1, σ.1.2 + i.toNatClampNeg), σ.2 ++ [.inl (t, ae_zero t i.toNatClampNeg)]), L, .ref σ.2.length :: r, np) else none
  | _ => none
def o_nq (t : Nat) (np : Nat) : ae_Op := fun _ σ L k => match k with
  | .int i :: r => if ¬ i < 0 ∧ i.toNatClampNeg * 8 ≤ 536870912 then some (((σ.1.1 + 1, σ.1.2 + i.toNatClampNeg), σ.2 ++ [.inl (t, i.toNatClampNeg, .inr (.inr (.inr (.inr (fun _ => none)))))]), L, .ref σ.2.length :: r, np) else none
  | _ => none
def ae_cat (k : List Value) : Nat := (k.map fun v => v.category).sum
def o_oi (np : Nat) : ae_Op := fun _ σ L k => match k with
  | .ref _ :: r => if ae_cat r ≤ 8 then some (σ, L, r, np) else none
  | _ => none
def o_mn (np : Nat) : ae_Op := fun _ σ L k => match k with
  | .int y :: .int x :: r => if ae_cat r ≤ 8 then some (σ, L, .int (if y < x then y else x) :: r, np) else none
  | _ => none
def o_mx (np : Nat) : ae_Op := fun _ σ L k => match k with
  | .int y :: .int x :: r => if ae_cat r ≤ 8 then some (σ, L, .int (if x < y then y else x) :: r, np) else none
  | _ => none
def o_cp (np : Nat) : ae_Op := fun _ σ L k => match k with
  | .int n :: .int dp :: .ref p :: .int sp :: .ref q :: r => match σ.2[q]?, σ.2[p]? with
    | some (.inl (t0, n0, .inl f)), some (.inl (t1, n1, .inl g)) => if (t0 = 1 ∧ t1 = 1 ∧ ae_cat r ≤ 8) ∧ (¬ sp < 0 ∧ ¬ dp < 0 ∧ ¬ n < 0) ∧ sp.toNatClampNeg + n.toNatClampNeg ≤ n0 ∧ dp.toNatClampNeg + n.toNatClampNeg ≤ n1 ∧ (∀ i, i < n.toNatClampNeg → fits .byte (.int (f (sp.toNatClampNeg + i))) = true) then some ((σ.1, σ.2.set p (.inl (t1, n1, .inl (va_cpy f g sp.toNatClampNeg dp.toNatClampNeg n.toNatClampNeg)))), L, r, np) else none
    | _, _ => none
  | _ => none

end AE
section AEP
theorem ck_c {n : Nat} {v : Value} {k : List Value} (hv : ae_cv n v) (hk : ae_ck n k) : ae_ck n (v :: k) := fun u hu => (List.mem_cons.mp hu).elim (fun z => z ▸ hv) (hk u)
theorem ck_t {n : Nat} {v : Value} {k : List Value} (h : ae_ck n (v :: k)) : ae_ck n k := fun u hu => h u (List.mem_cons_of_mem _ hu)
theorem ck_h {n : Nat} {v : Value} {k : List Value} (h : ae_ck n (v :: k)) : ae_cv n v := h v List.mem_cons_self
theorem cL_set {n i : Nat} {L : ae_Ls} {v : Value} (h : ae_cL n L) (hv : ae_cv n v) (hc : v.category = 1) : ae_cL n (L.set i (some v)) := by
  intro j u hj
  rw [List.getElem?_set] at hj
  by_cases hji : i = j
  · subst hji
    simp only [if_true] at hj
    split at hj
    · cases hj
      exact ⟨hv, hc⟩
    · cases hj
  · rw [if_neg hji] at hj
    exact h j u hj
theorem cL_none {n i : Nat} {L : ae_Ls} (h : ae_cL n L) : ae_cL n (L.set i none) := by
  intro j u hj
  rw [List.getElem?_set] at hj
  by_cases hji : i = j
  · subst hji
    simp only [if_true] at hj
    split at hj <;> cases hj
  · rw [if_neg hji] at hj
    exact h j u hj
theorem cs_set {σ : ae_S} {q : Nat} {x : ae_C} (h : ae_cs σ) (hx : ae_cc σ.2.length x) : ae_cs (σ.1, σ.2.set q x) := by
  intro y hy
  simp only [List.length_set]
  rcases List.mem_or_eq_of_mem_set hy with h1 | h1
  · exact h y h1
  · exact h1 ▸ hx
theorem cs_push {σ : ae_S} {a b : Nat} {x : ae_C} (h : ae_cs σ) (hx : ae_cc σ.2.length x) : ae_cs ((a, b), σ.2 ++ [x]) := by
  intro y hy
  simp only [List.length_append, List.length_singleton]
  rcases List.mem_append.mp hy with h1 | h1
  · exact ae_cc_mono (Nat.le_succ _) (h y h1)
  · rw [List.mem_singleton.mp h1]
    exact ae_cc_mono (Nat.le_succ _) hx
theorem pu_st {σ : ae_S} {L : ae_Ls} {k k' : List Value} (hcl : ae_cl σ L k) (h : ae_ck σ.2.length k → ae_ck σ.2.length k') : ae_cl σ L k' ∧ σ.1.1 ≤ σ.1.1 ∧ σ.1.2 ≤ σ.1.2 ∧ σ.2.length ≤ σ.2.length :=
  ⟨⟨hcl.1, hcl.2.1, h hcl.2.2⟩, Nat.le_refl _, Nat.le_refl _, Nat.le_refl _⟩
theorem pu_se {σ : ae_S} {L : ae_Ls} {k k' : List Value} {q : Nat} {x : ae_C} (hcl : ae_cl σ L k) (hx : ae_cc σ.2.length x) (h : ae_ck σ.2.length k → ae_ck σ.2.length k') : ae_cl (σ.1, σ.2.set q x) L k' ∧ σ.1.1 ≤ σ.1.1 ∧ σ.1.2 ≤ σ.1.2 ∧ σ.2.length ≤ (σ.2.set q x).length :=
  ⟨⟨cs_set hcl.1 hx, by simpa using hcl.2.1, by simpa using h hcl.2.2⟩, Nat.le_refl _, Nat.le_refl _, by simp⟩
theorem pu_pu {σ : ae_S} {L : ae_Ls} {k k' : List Value} {N : Nat} {x : ae_C} (hcl : ae_cl σ L k) (hx : ae_cc σ.2.length x) (h : ae_ck σ.2.length k → ae_ck σ.2.length k') : ae_cl ((σ.1.1 + 1, σ.1.2 + N), σ.2 ++ [x]) L (.ref σ.2.length :: k') ∧ σ.1.1 ≤ σ.1.1 + 1 ∧ σ.1.2 ≤ σ.1.2 + N ∧ σ.2.length ≤ (σ.2 ++ [x]).length :=
  ⟨⟨cs_push hcl.1 hx, by simpa using ae_cL_mono (Nat.le_succ _) hcl.2.1, by simpa using ck_c (show ae_cv (σ.2.length + 1) (.ref σ.2.length) from Nat.lt_succ_self _) (ae_ck_mono (Nat.le_succ _) (h hcl.2.2))⟩, by omega, by omega, by simp⟩

theorem pu_push {v : Value} {np : Nat} (hv : ∀ n, ae_cv n v) : ae_Pu (o_push v np) := by
  intro ra σ L k σ' L' k' pc' h hcl
  simp only [o_push] at h
  cases h
  exact pu_st hcl (fun hk => ck_c (hv _) hk)
theorem pu_bin {f : Int32 → Int32 → Int32} {np : Nat} : ae_Pu (o_bin f np) := by
  intro ra σ L k σ' L' k' pc' h hcl
  simp only [o_bin] at h
  repeat' split at h
  all_goals first | (cases h; done) | (cases h; exact pu_st hcl (fun hk => ck_c trivial (ck_t (ck_t hk))))
theorem pu_dv {f : Int32 → Int32 → Int32} {np : Nat} : ae_Pu (o_dv f np) := by
  intro ra σ L k σ' L' k' pc' h hcl
  simp only [o_dv] at h
  repeat' split at h
  all_goals first | (cases h; done) | (cases h; exact pu_st hcl (fun hk => ck_c trivial (ck_t (ck_t hk))))
theorem pu_un {f : Int32 → Int32} {np : Nat} : ae_Pu (o_un f np) := by
  intro ra σ L k σ' L' k' pc' h hcl
  simp only [o_un] at h
  repeat' split at h
  all_goals first | (cases h; done) | (cases h; exact pu_st hcl (fun hk => ck_c trivial (ck_t hk)))
theorem pu_i2l {np : Nat} : ae_Pu (o_i2l np) := by
  intro ra σ L k σ' L' k' pc' h hcl
  simp only [o_i2l] at h
  repeat' split at h
  all_goals first | (cases h; done) | (cases h; exact pu_st hcl (fun hk => ck_c trivial (ck_t hk)))
theorem pu_lcmp {np : Nat} : ae_Pu (o_lcmp np) := by
  intro ra σ L k σ' L' k' pc' h hcl
  simp only [o_lcmp] at h
  repeat' split at h
  all_goals first | (cases h; done) | (cases h; exact pu_st hcl (fun hk => ck_c trivial (ck_t (ck_t hk))))
theorem pu_dup {np : Nat} : ae_Pu (o_dup np) := by
  intro ra σ L k σ' L' k' pc' h hcl
  simp only [o_dup] at h
  repeat' split at h
  all_goals first | (cases h; done) | (cases h; exact pu_st hcl (fun hk => ck_c (ck_h hk) hk))
theorem pu_dup2 {np : Nat} : ae_Pu (o_dup2 np) := by
  intro ra σ L k σ' L' k' pc' h hcl
  simp only [o_dup2] at h
  repeat' split at h
  all_goals first | (cases h; done) | (cases h; exact pu_st hcl (fun hk => ck_c (ck_h hk) (ck_c (ck_h (ck_t hk)) hk)))
theorem pu_dupx1 {np : Nat} : ae_Pu (o_dupx1 np) := by
  intro ra σ L k σ' L' k' pc' h hcl
  simp only [o_dupx1] at h
  repeat' split at h
  all_goals first | (cases h; done) | (cases h; exact pu_st hcl (fun hk => ck_c (ck_h hk) (ck_c (ck_h (ck_t hk)) (ck_c (ck_h hk) (ck_t (ck_t hk))))))
theorem pu_pop {np : Nat} : ae_Pu (o_pop np) := by
  intro ra σ L k σ' L' k' pc' h hcl
  simp only [o_pop] at h
  repeat' split at h
  all_goals first | (cases h; done) | (cases h; exact pu_st hcl (fun hk => ck_t hk))
theorem pu_il {i np : Nat} : ae_Pu (o_il i np) := by
  intro ra σ L k σ' L' k' pc' h hcl
  simp only [o_il] at h
  repeat' split at h
  all_goals first | (cases h; done) | (cases h; exact pu_st hcl (fun hk => ck_c trivial hk))
theorem pu_al {i np : Nat} : ae_Pu (o_al i np) := by
  intro ra σ L k σ' L' k' pc' h hcl
  simp only [o_al] at h
  repeat' split at h
  all_goals first | (cases h; done) | (cases h; exact pu_st hcl (fun hk => ck_c (hcl.2.1 _ _ (by assumption)).1 hk))
theorem pu_is {i np : Nat} : ae_Pu (o_is i np) := by
  intro ra σ L k σ' L' k' pc' h hcl
  simp only [o_is] at h
  repeat' split at h
  all_goals first | (cases h; done) | (cases h; exact ⟨⟨hcl.1, cL_set hcl.2.1 trivial rfl, ck_t hcl.2.2⟩, Nat.le_refl _, Nat.le_refl _, Nat.le_refl _⟩)
theorem pu_as {i np : Nat} : ae_Pu (o_as i np) := by
  intro ra σ L k σ' L' k' pc' h hcl
  simp only [o_as] at h
  repeat' split at h
  all_goals first | (cases h; done) | (cases h; exact ⟨⟨hcl.1, cL_set hcl.2.1 (ck_h hcl.2.2) rfl, ck_t hcl.2.2⟩, Nat.le_refl _, Nat.le_refl _, Nat.le_refl _⟩)
theorem pu_inc {i : Nat} {n : Int32} {np : Nat} : ae_Pu (o_inc i n np) := by
  intro ra σ L k σ' L' k' pc' h hcl
  simp only [o_inc] at h
  repeat' split at h
  all_goals first | (cases h; done) | (cases h; exact ⟨⟨hcl.1, cL_set hcl.2.1 trivial rfl, hcl.2.2⟩, Nat.le_refl _, Nat.le_refl _, Nat.le_refl _⟩)
theorem pu_if {t : Int32 → Bool} {tg np : Nat} : ae_Pu (o_if t tg np) := by
  intro ra σ L k σ' L' k' pc' h hcl
  simp only [o_if] at h
  split at h
  all_goals first | (cases h; done) | (cases h; exact pu_st hcl (fun hk => ck_t hk))
theorem pu_ic {t : Int32 → Int32 → Bool} {tg np : Nat} : ae_Pu (o_ic t tg np) := by
  intro ra σ L k σ' L' k' pc' h hcl
  simp only [o_ic] at h
  split at h
  all_goals first | (cases h; done) | (cases h; exact pu_st hcl (fun hk => ck_t (ck_t hk)))
theorem pu_sw {lo hi : Int} {tgs : List Nat} {df : Nat} : ae_Pu (o_sw lo hi tgs df) := by
  intro ra σ L k σ' L' k' pc' h hcl
  simp only [o_sw] at h
  split at h
  all_goals first | (cases h; done) | (cases h; exact pu_st hcl (fun hk => ck_t hk))
theorem pu_nul {tg np : Nat} : ae_Pu (o_nul tg np) := by
  intro ra σ L k σ' L' k' pc' h hcl
  simp only [o_nul] at h
  repeat' split at h
  all_goals first | (cases h; done) | (cases h; exact pu_st hcl (fun hk => ck_t hk))
theorem pu_goto {tg : Nat} : ae_Pu (o_goto tg) := by
  intro ra σ L k σ' L' k' pc' h hcl
  simp only [o_goto] at h
  cases h
  exact pu_st hcl (fun hk => hk)
theorem cs_o {σ : ae_S} {p cj : Nat} {fs : List Value} (h : ae_cs σ) (hp : σ.2[p]? = some (.inr (cj, fs))) : ∀ v ∈ fs, ae_cv σ.2.length v := h _ (List.mem_of_getElem? hp)
theorem cs_q {σ : ae_S} {p t n : Nat} {f : Nat → Option Nat} (h : ae_cs σ) (hp : σ.2[p]? = some (.inl (t, n, .inr (.inr (.inr (.inr f)))))) : ∀ i p, f i = some p → p < σ.2.length := h _ (List.mem_of_getElem? hp)
theorem pu_get {ci kk np : Nat} : ae_Pu (o_get ci kk np) := by
  intro ra σ L k σ' L' k' pc' h hcl
  simp only [o_get] at h
  repeat' split at h
  all_goals first | (cases h; done) | (cases h; exact pu_st hcl (fun hk => ck_c (cs_o hcl.1 (by assumption) _ (List.mem_of_getElem? (by assumption))) (ck_t hk)))
theorem ck_fs {n i : Nat} {fs : List Value} {v : Value} (h : ∀ u ∈ fs, ae_cv n u) (hv : ae_cv n v) : ∀ u ∈ fs.set i v, ae_cv n u := fun u hu => by
  rcases List.mem_or_eq_of_mem_set hu with h1 | h1
  · exact h u h1
  · exact h1 ▸ hv
theorem pu_put {ci kk : Nat} {ok : Value → Bool} {np : Nat} : ae_Pu (o_put ci kk ok np) := by
  intro ra σ L k σ' L' k' pc' h hcl
  simp only [o_put] at h
  repeat' split at h
  all_goals first | (cases h; done) | (cases h; exact pu_se hcl (ck_fs (cs_o hcl.1 (by assumption)) (ck_h hcl.2.2)) (fun hk => ck_t (ck_t hk)))
theorem pu_ia {np : Nat} : ae_Pu (o_ia np) := by
  intro ra σ L k σ' L' k' pc' h hcl
  simp only [o_ia] at h
  repeat' split at h
  all_goals first | (cases h; done) | (cases h; exact pu_st hcl (fun hk => ck_c trivial (ck_t (ck_t hk))))
theorem pu_ba {np : Nat} : ae_Pu (o_ba np) := by
  intro ra σ L k σ' L' k' pc' h hcl
  simp only [o_ba] at h
  repeat' split at h
  all_goals first | (cases h; done) | (cases h; exact pu_st hcl (fun hk => ck_c trivial (ck_t (ck_t hk))))
theorem pu_la {np : Nat} : ae_Pu (o_la np) := by
  intro ra σ L k σ' L' k' pc' h hcl
  simp only [o_la] at h
  repeat' split at h
  all_goals first | (cases h; done) | (cases h; exact pu_st hcl (fun hk => ck_c trivial (ck_t (ck_t hk))))
theorem ck_rf {n : Nat} {f : Nat → Option Nat} (h : ∀ i p, f i = some p → p < n) (i : Nat) : ae_cv n (va_rf (f i)) := by
  cases hf : f i with
  | none => trivial
  | some p => exact h i p hf
theorem ck_up {n q : Nat} {f : Nat → Option Nat} {j : Nat} {o : Option Nat} (h : ∀ i p, f i = some p → p < n) (ho : ∀ q, o = some q → q < n) : ∀ i p, va_up f j o i = some p → p < n := by
  intro i p hp
  unfold va_up at hp
  split at hp
  · exact ho p hp
  · exact h i p hp
theorem pu_aa {np : Nat} : ae_Pu (o_aa np) := by
  intro ra σ L k σ' L' k' pc' h hcl
  simp only [o_aa] at h
  repeat' split at h
  all_goals first | (cases h; done) | (cases h; exact pu_st hcl (fun hk => ck_c (ck_rf (cs_q hcl.1 (by assumption)) _) (ck_t (ck_t hk))))
theorem pu_ias {np : Nat} : ae_Pu (o_ias np) := by
  intro ra σ L k σ' L' k' pc' h hcl
  simp only [o_ias] at h
  repeat' split at h
  all_goals first | (cases h; done) | (cases h; exact pu_se hcl (trivial) (fun hk => ck_t (ck_t (ck_t hk))))
theorem pu_bas {np : Nat} : ae_Pu (o_bas np) := by
  intro ra σ L k σ' L' k' pc' h hcl
  simp only [o_bas] at h
  repeat' split at h
  all_goals first | (cases h; done) | (cases h; exact pu_se hcl (trivial) (fun hk => ck_t (ck_t (ck_t hk))))
theorem pu_las {np : Nat} : ae_Pu (o_las np) := by
  intro ra σ L k σ' L' k' pc' h hcl
  simp only [o_las] at h
  repeat' split at h
  all_goals first | (cases h; done) | (cases h; exact pu_se hcl (trivial) (fun hk => ck_t (ck_t (ck_t hk))))
theorem pu_aas {np : Nat} : ae_Pu (o_aas np) := by
  intro ra σ L k σ' L' k' pc' h hcl
  simp only [o_aas] at h
  repeat' split at h
  all_goals first | (cases h; done) | (cases h; exact pu_se hcl (ck_up (q := 0) (cs_q hcl.1 (by assumption)) (fun q hq => by first | (cases hq; done) | (cases hq; exact ck_h hcl.2.2))) (fun hk => ck_t (ck_t (ck_t hk))))
theorem pu_len {np : Nat} : ae_Pu (o_len np) := by
  intro ra σ L k σ' L' k' pc' h hcl
  simp only [o_len] at h
  repeat' split at h
  all_goals first | (cases h; done) | (cases h; exact pu_st hcl (fun hk => ck_c trivial (ck_t hk)))
theorem pu_new {ci N : Nat} {fs : List Value} {np : Nat} (hf : ∀ n, ∀ v ∈ fs, ae_cv n v) : ae_Pu (o_new ci N fs np) := by
  intro ra σ L k σ' L' k' pc' h hcl
  simp only [o_new] at h
  cases h
  exact pu_pu hcl (hf _) (fun hk => hk)
theorem cc_zero (t n m : Nat) : ae_cc m (.inl (t, ae_zero t n)) := by
  unfold ae_zero
  split <;> trivial
theorem pu_na {t np : Nat} : ae_Pu (o_na t np) := by
  intro ra σ L k σ' L' k' pc' h hcl
  simp only [o_na] at h
  repeat' split at h
  all_goals first | (cases h; done) | (cases h; exact pu_pu hcl (cc_zero _ _ _) (fun hk => ck_t hk))
theorem pu_nq {t np : Nat} : ae_Pu (o_nq t np) := by
  intro ra σ L k σ' L' k' pc' h hcl
  simp only [o_nq] at h
  repeat' split at h
  all_goals first | (cases h; done) | (cases h; exact pu_pu hcl (fun i p hp => by cases hp) (fun hk => ck_t hk))
theorem pu_oi {np : Nat} : ae_Pu (o_oi np) := by
  intro ra σ L k σ' L' k' pc' h hcl
  simp only [o_oi] at h
  repeat' split at h
  all_goals first | (cases h; done) | (cases h; exact pu_st hcl (fun hk => ck_t hk))
theorem pu_mn {np : Nat} : ae_Pu (o_mn np) := by
  intro ra σ L k σ' L' k' pc' h hcl
  simp only [o_mn] at h
  split at h
  · split at h
    · cases h
      exact pu_st hcl (fun hk => ck_c trivial (ck_t (ck_t hk)))
    · cases h
  · cases h
theorem pu_mx {np : Nat} : ae_Pu (o_mx np) := by
  intro ra σ L k σ' L' k' pc' h hcl
  simp only [o_mx] at h
  split at h
  · split at h
    · cases h
      exact pu_st hcl (fun hk => ck_c trivial (ck_t (ck_t hk)))
    · cases h
  · cases h
theorem pu_cp {np : Nat} : ae_Pu (o_cp np) := by
  intro ra σ L k σ' L' k' pc' h hcl
  simp only [o_cp] at h
  repeat' split at h
  all_goals first | (cases h; done) | (cases h; exact pu_se hcl (trivial) (fun hk => ck_t (ck_t (ck_t (ck_t (ck_t hk))))))
end AEP
section AEM
variable {p : Program} {l : Launch} {e : Env} {R : Room} {s : State} {m : MethodId} {args : Array Value} {below : List Frame} {meth : Method} {c : Code} {Q : State → Prop}
variable {D : va_G} {dA : Nat → ClassId} {ro : Nat → Nat} {A : Nat → Prop} {nL : Nat} {B : Nat × Nat} {ad0 : Nat → Nat} {n0 : Nat}
variable {ra : Nat → Nat × (Nat → Int32)} {own nm : String} {cc : ByteArray} {ret : Option FieldType} {KF SF d : Nat} {pc : Nat}
theorem ok_iconst (X : ae_X p l e R s m args below meth c D dA ro A B ra own nm cc nL ret KF SF d) {n : Int} {v : Int32} (hv : Int32.ofInt n = v) (hdg : decode cc pc = .ok (.iconst n, 1)) : ae_Ok p l e R s m args below meth c Q D dA ro A nL B ad0 n0 ra KF SF pc (o_push (.int v) (pc + 1)) := by
  obtain ⟨hx, hb, hml, hown, hts, hr, hlk, hnm, hK, hRO, hA, hfr, hlo, hKF, hSF⟩ := X
  intro σ L k σ' L' k' pc' h hcl hn0 hF G ad H locs cells slots ls hP hD hS hc hs hl had
  simp only [o_push] at h
  cases h
  exact lv_iconst hx hb hdg hv (G ad H locs cells slots ls hP hD hS hc hs hl had)
theorem ok_bipush (X : ae_X p l e R s m args below meth c D dA ro A B ra own nm cc nL ret KF SF d) {n : Int} {v : Int32} (hv : (Int8.ofInt n).toInt32 = v) (hdg : decode cc pc = .ok (.bipush n, 2)) : ae_Ok p l e R s m args below meth c Q D dA ro A nL B ad0 n0 ra KF SF pc (o_push (.int v) (pc + 2)) := by
  obtain ⟨hx, hb, hml, hown, hts, hr, hlk, hnm, hK, hRO, hA, hfr, hlo, hKF, hSF⟩ := X
  intro σ L k σ' L' k' pc' h hcl hn0 hF G ad H locs cells slots ls hP hD hS hc hs hl had
  simp only [o_push] at h
  cases h
  exact lv_bipush hx hb hdg hv (G ad H locs cells slots ls hP hD hS hc hs hl had)
theorem ok_sipush (X : ae_X p l e R s m args below meth c D dA ro A B ra own nm cc nL ret KF SF d) {n : Int} {v : Int32} (hv : (Int16.ofInt n).toInt32 = v) (hdg : decode cc pc = .ok (.sipush n, 3)) : ae_Ok p l e R s m args below meth c Q D dA ro A nL B ad0 n0 ra KF SF pc (o_push (.int v) (pc + 3)) := by
  obtain ⟨hx, hb, hml, hown, hts, hr, hlk, hnm, hK, hRO, hA, hfr, hlo, hKF, hSF⟩ := X
  intro σ L k σ' L' k' pc' h hcl hn0 hF G ad H locs cells slots ls hP hD hS hc hs hl had
  simp only [o_push] at h
  cases h
  exact lv_sipush hx hb hdg hv (G ad H locs cells slots ls hP hD hS hc hs hl had)
theorem ok_ldc (X : ae_X p l e R s m args below meth c D dA ro A B ra own nm cc nL ret KF SF d) {index : Nat} {v : Int32} (hw : Jvm.Cond.constant own index v ∈ aw_all) (hdg : decode cc pc = .ok (.ldc index, 2)) : ae_Ok p l e R s m args below meth c Q D dA ro A nL B ad0 n0 ra KF SF pc (o_push (.int v) (pc + 2)) := by
  obtain ⟨hx, hb, hml, hown, hts, hr, hlk, hnm, hK, hRO, hA, hfr, hlo, hKF, hSF⟩ := X
  intro σ L k σ' L' k' pc' h hcl hn0 hF G ad H locs cells slots ls hP hD hS hc hs hl had
  simp only [o_push] at h
  cases h
  exact lv_ldc hx hb hown (hts _ hw) hdg (G ad H locs cells slots ls hP hD hS hc hs hl had)
theorem ok_null (X : ae_X p l e R s m args below meth c D dA ro A B ra own nm cc nL ret KF SF d)  (hdg : decode cc pc = .ok (.aconst_null, 1)) : ae_Ok p l e R s m args below meth c Q D dA ro A nL B ad0 n0 ra KF SF pc (o_push .null (pc + 1)) := by
  obtain ⟨hx, hb, hml, hown, hts, hr, hlk, hnm, hK, hRO, hA, hfr, hlo, hKF, hSF⟩ := X
  intro σ L k σ' L' k' pc' h hcl hn0 hF G ad H locs cells slots ls hP hD hS hc hs hl had
  simp only [o_push] at h
  cases h
  exact lv_null hx hb hdg (G ad H locs cells slots ls hP hD hS hc hs hl had)
theorem ok_iadd (X : ae_X p l e R s m args below meth c D dA ro A B ra own nm cc nL ret KF SF d)  (hdg : decode cc pc = .ok (.iadd, 1)) : ae_Ok p l e R s m args below meth c Q D dA ro A nL B ad0 n0 ra KF SF pc (o_bin (fun x y => x + y) (pc + 1)) := by
  obtain ⟨hx, hb, hml, hown, hts, hr, hlk, hnm, hK, hRO, hA, hfr, hlo, hKF, hSF⟩ := X
  intro σ L k σ' L' k' pc' h hcl hn0 hF G ad H locs cells slots ls hP hD hS hc hs hl had
  simp only [o_bin] at h
  split at h
  · cases h
    exact lv_iadd hx hb hdg (G ad H locs cells slots ls hP hD hS hc hs hl had)
  · cases h
theorem ok_isub (X : ae_X p l e R s m args below meth c D dA ro A B ra own nm cc nL ret KF SF d)  (hdg : decode cc pc = .ok (.isub, 1)) : ae_Ok p l e R s m args below meth c Q D dA ro A nL B ad0 n0 ra KF SF pc (o_bin (fun x y => x - y) (pc + 1)) := by
  obtain ⟨hx, hb, hml, hown, hts, hr, hlk, hnm, hK, hRO, hA, hfr, hlo, hKF, hSF⟩ := X
  intro σ L k σ' L' k' pc' h hcl hn0 hF G ad H locs cells slots ls hP hD hS hc hs hl had
  simp only [o_bin] at h
  split at h
  · cases h
    exact lv_isub hx hb hdg (G ad H locs cells slots ls hP hD hS hc hs hl had)
  · cases h
theorem ok_imul (X : ae_X p l e R s m args below meth c D dA ro A B ra own nm cc nL ret KF SF d)  (hdg : decode cc pc = .ok (.imul, 1)) : ae_Ok p l e R s m args below meth c Q D dA ro A nL B ad0 n0 ra KF SF pc (o_bin (fun x y => x * y) (pc + 1)) := by
  obtain ⟨hx, hb, hml, hown, hts, hr, hlk, hnm, hK, hRO, hA, hfr, hlo, hKF, hSF⟩ := X
  intro σ L k σ' L' k' pc' h hcl hn0 hF G ad H locs cells slots ls hP hD hS hc hs hl had
  simp only [o_bin] at h
  split at h
  · cases h
    exact lv_imul hx hb hdg (G ad H locs cells slots ls hP hD hS hc hs hl had)
  · cases h
theorem ok_iand (X : ae_X p l e R s m args below meth c D dA ro A B ra own nm cc nL ret KF SF d)  (hdg : decode cc pc = .ok (.iand, 1)) : ae_Ok p l e R s m args below meth c Q D dA ro A nL B ad0 n0 ra KF SF pc (o_bin (fun x y => x &&& y) (pc + 1)) := by
  obtain ⟨hx, hb, hml, hown, hts, hr, hlk, hnm, hK, hRO, hA, hfr, hlo, hKF, hSF⟩ := X
  intro σ L k σ' L' k' pc' h hcl hn0 hF G ad H locs cells slots ls hP hD hS hc hs hl had
  simp only [o_bin] at h
  split at h
  · cases h
    exact lv_iand hx hb hdg (G ad H locs cells slots ls hP hD hS hc hs hl had)
  · cases h
theorem ok_ior (X : ae_X p l e R s m args below meth c D dA ro A B ra own nm cc nL ret KF SF d)  (hdg : decode cc pc = .ok (.ior, 1)) : ae_Ok p l e R s m args below meth c Q D dA ro A nL B ad0 n0 ra KF SF pc (o_bin (fun x y => x ||| y) (pc + 1)) := by
  obtain ⟨hx, hb, hml, hown, hts, hr, hlk, hnm, hK, hRO, hA, hfr, hlo, hKF, hSF⟩ := X
  intro σ L k σ' L' k' pc' h hcl hn0 hF G ad H locs cells slots ls hP hD hS hc hs hl had
  simp only [o_bin] at h
  split at h
  · cases h
    exact lv_ior hx hb hdg (G ad H locs cells slots ls hP hD hS hc hs hl had)
  · cases h
theorem ok_ixor (X : ae_X p l e R s m args below meth c D dA ro A B ra own nm cc nL ret KF SF d)  (hdg : decode cc pc = .ok (.ixor, 1)) : ae_Ok p l e R s m args below meth c Q D dA ro A nL B ad0 n0 ra KF SF pc (o_bin (fun x y => x ^^^ y) (pc + 1)) := by
  obtain ⟨hx, hb, hml, hown, hts, hr, hlk, hnm, hK, hRO, hA, hfr, hlo, hKF, hSF⟩ := X
  intro σ L k σ' L' k' pc' h hcl hn0 hF G ad H locs cells slots ls hP hD hS hc hs hl had
  simp only [o_bin] at h
  split at h
  · cases h
    exact lv_ixor hx hb hdg (G ad H locs cells slots ls hP hD hS hc hs hl had)
  · cases h
theorem ok_ishl (X : ae_X p l e R s m args below meth c D dA ro A B ra own nm cc nL ret KF SF d)  (hdg : decode cc pc = .ok (.ishl, 1)) : ae_Ok p l e R s m args below meth c Q D dA ro A nL B ad0 n0 ra KF SF pc (o_bin (fun x y => x <<< (y &&& 31)) (pc + 1)) := by
  obtain ⟨hx, hb, hml, hown, hts, hr, hlk, hnm, hK, hRO, hA, hfr, hlo, hKF, hSF⟩ := X
  intro σ L k σ' L' k' pc' h hcl hn0 hF G ad H locs cells slots ls hP hD hS hc hs hl had
  simp only [o_bin] at h
  split at h
  · cases h
    exact lv_ishl hx hb hdg (G ad H locs cells slots ls hP hD hS hc hs hl had)
  · cases h
theorem ok_ishr (X : ae_X p l e R s m args below meth c D dA ro A B ra own nm cc nL ret KF SF d)  (hdg : decode cc pc = .ok (.ishr, 1)) : ae_Ok p l e R s m args below meth c Q D dA ro A nL B ad0 n0 ra KF SF pc (o_bin (fun x y => x >>> (y &&& 31)) (pc + 1)) := by
  obtain ⟨hx, hb, hml, hown, hts, hr, hlk, hnm, hK, hRO, hA, hfr, hlo, hKF, hSF⟩ := X
  intro σ L k σ' L' k' pc' h hcl hn0 hF G ad H locs cells slots ls hP hD hS hc hs hl had
  simp only [o_bin] at h
  split at h
  · cases h
    exact lv_ishr hx hb hdg (G ad H locs cells slots ls hP hD hS hc hs hl had)
  · cases h
theorem ok_iushr (X : ae_X p l e R s m args below meth c D dA ro A B ra own nm cc nL ret KF SF d)  (hdg : decode cc pc = .ok (.iushr, 1)) : ae_Ok p l e R s m args below meth c Q D dA ro A nL B ad0 n0 ra KF SF pc (o_bin (fun x y => (x.toUInt32 >>> (y.toUInt32 &&& Int32.toUInt32 31)).toInt32) (pc + 1)) := by
  obtain ⟨hx, hb, hml, hown, hts, hr, hlk, hnm, hK, hRO, hA, hfr, hlo, hKF, hSF⟩ := X
  intro σ L k σ' L' k' pc' h hcl hn0 hF G ad H locs cells slots ls hP hD hS hc hs hl had
  simp only [o_bin] at h
  split at h
  · cases h
    exact lv_iushr hx hb hdg rfl (G ad H locs cells slots ls hP hD hS hc hs hl had)
  · cases h
theorem ok_idiv (X : ae_X p l e R s m args below meth c D dA ro A B ra own nm cc nL ret KF SF d)  (hdg : decode cc pc = .ok (.idiv, 1)) : ae_Ok p l e R s m args below meth c Q D dA ro A nL B ad0 n0 ra KF SF pc (o_dv (fun x y => x / y) (pc + 1)) := by
  obtain ⟨hx, hb, hml, hown, hts, hr, hlk, hnm, hK, hRO, hA, hfr, hlo, hKF, hSF⟩ := X
  intro σ L k σ' L' k' pc' h hcl hn0 hF G ad H locs cells slots ls hP hD hS hc hs hl had
  simp only [o_dv] at h
  split at h
  · split at h
    · cases h
    · cases h
      exact lv_idiv hx hb hdg (by assumption) (G ad H locs cells slots ls hP hD hS hc hs hl had)
  · cases h
theorem ok_irem (X : ae_X p l e R s m args below meth c D dA ro A B ra own nm cc nL ret KF SF d)  (hdg : decode cc pc = .ok (.irem, 1)) : ae_Ok p l e R s m args below meth c Q D dA ro A nL B ad0 n0 ra KF SF pc (o_dv (fun x y => x - x / y * y) (pc + 1)) := by
  obtain ⟨hx, hb, hml, hown, hts, hr, hlk, hnm, hK, hRO, hA, hfr, hlo, hKF, hSF⟩ := X
  intro σ L k σ' L' k' pc' h hcl hn0 hF G ad H locs cells slots ls hP hD hS hc hs hl had
  simp only [o_dv] at h
  split at h
  · split at h
    · cases h
    · cases h
      exact lv_irem hx hb hdg (by assumption) (G ad H locs cells slots ls hP hD hS hc hs hl had)
  · cases h
theorem ok_i2b (X : ae_X p l e R s m args below meth c D dA ro A B ra own nm cc nL ret KF SF d)  (hdg : decode cc pc = .ok (.i2b, 1)) : ae_Ok p l e R s m args below meth c Q D dA ro A nL B ad0 n0 ra KF SF pc (o_un (fun x => x.toInt8.toInt32) (pc + 1)) := by
  obtain ⟨hx, hb, hml, hown, hts, hr, hlk, hnm, hK, hRO, hA, hfr, hlo, hKF, hSF⟩ := X
  intro σ L k σ' L' k' pc' h hcl hn0 hF G ad H locs cells slots ls hP hD hS hc hs hl had
  simp only [o_un] at h
  split at h
  · cases h
    exact lv_i2b hx hb hdg rfl (G ad H locs cells slots ls hP hD hS hc hs hl had)
  · cases h
theorem ok_i2l (X : ae_X p l e R s m args below meth c D dA ro A B ra own nm cc nL ret KF SF d)  (hdg : decode cc pc = .ok (.i2l, 1)) : ae_Ok p l e R s m args below meth c Q D dA ro A nL B ad0 n0 ra KF SF pc (o_i2l (pc + 1)) := by
  obtain ⟨hx, hb, hml, hown, hts, hr, hlk, hnm, hK, hRO, hA, hfr, hlo, hKF, hSF⟩ := X
  intro σ L k σ' L' k' pc' h hcl hn0 hF G ad H locs cells slots ls hP hD hS hc hs hl had
  simp only [o_i2l] at h
  split at h
  · cases h
    exact lv_i2l hx hb hdg rfl (G ad H locs cells slots ls hP hD hS hc hs hl had)
  · cases h
theorem ok_lcmp (X : ae_X p l e R s m args below meth c D dA ro A B ra own nm cc nL ret KF SF d)  (hdg : decode cc pc = .ok (.lcmp, 1)) : ae_Ok p l e R s m args below meth c Q D dA ro A nL B ad0 n0 ra KF SF pc (o_lcmp (pc + 1)) := by
  obtain ⟨hx, hb, hml, hown, hts, hr, hlk, hnm, hK, hRO, hA, hfr, hlo, hKF, hSF⟩ := X
  intro σ L k σ' L' k' pc' h hcl hn0 hF G ad H locs cells slots ls hP hD hS hc hs hl had
  simp only [o_lcmp] at h
  split at h
  · cases h
    exact W.lcmp hx hb hdg (G ad H locs cells slots ls hP hD hS hc hs hl had)
  · cases h
theorem ok_dup (X : ae_X p l e R s m args below meth c D dA ro A B ra own nm cc nL ret KF SF d)  (hdg : decode cc pc = .ok (.dup, 1)) : ae_Ok p l e R s m args below meth c Q D dA ro A nL B ad0 n0 ra KF SF pc (o_dup (pc + 1)) := by
  obtain ⟨hx, hb, hml, hown, hts, hr, hlk, hnm, hK, hRO, hA, hfr, hlo, hKF, hSF⟩ := X
  intro σ L k σ' L' k' pc' h hcl hn0 hF G ad H locs cells slots ls hP hD hS hc hs hl had
  simp only [o_dup] at h
  split at h
  · split at h
    · cases h
      exact lv_dup hx hb hdg (by rw [ae_v_cat]; first | assumption | exact (by assumption : _ ∧ _).1) (G ad H locs cells slots ls hP hD hS hc hs hl had)
    · cases h
  · cases h
theorem ok_pop (X : ae_X p l e R s m args below meth c D dA ro A B ra own nm cc nL ret KF SF d)  (hdg : decode cc pc = .ok (.pop, 1)) : ae_Ok p l e R s m args below meth c Q D dA ro A nL B ad0 n0 ra KF SF pc (o_pop (pc + 1)) := by
  obtain ⟨hx, hb, hml, hown, hts, hr, hlk, hnm, hK, hRO, hA, hfr, hlo, hKF, hSF⟩ := X
  intro σ L k σ' L' k' pc' h hcl hn0 hF G ad H locs cells slots ls hP hD hS hc hs hl had
  simp only [o_pop] at h
  split at h
  · split at h
    · cases h
      exact lv_pop hx hb hdg (by rw [ae_v_cat]; first | assumption | exact (by assumption : _ ∧ _).1) (G ad H locs cells slots ls hP hD hS hc hs hl had)
    · cases h
  · cases h
theorem ok_dup2 (X : ae_X p l e R s m args below meth c D dA ro A B ra own nm cc nL ret KF SF d)  (hdg : decode cc pc = .ok (.dup2, 1)) : ae_Ok p l e R s m args below meth c Q D dA ro A nL B ad0 n0 ra KF SF pc (o_dup2 (pc + 1)) := by
  obtain ⟨hx, hb, hml, hown, hts, hr, hlk, hnm, hK, hRO, hA, hfr, hlo, hKF, hSF⟩ := X
  intro σ L k σ' L' k' pc' h hcl hn0 hF G ad H locs cells slots ls hP hD hS hc hs hl had
  simp only [o_dup2] at h
  split at h
  · split at h
    · cases h
      exact lv_dup2_11 hx hb hdg (by rw [ae_v_cat]; first | assumption | exact (by assumption : _ ∧ _).1) (by rw [ae_v_cat]; exact (by assumption : _ ∧ _).2) (G ad H locs cells slots ls hP hD hS hc hs hl had)
    · cases h
  · cases h
theorem ok_dupx1 (X : ae_X p l e R s m args below meth c D dA ro A B ra own nm cc nL ret KF SF d)  (hdg : decode cc pc = .ok (.dup_x1, 1)) : ae_Ok p l e R s m args below meth c Q D dA ro A nL B ad0 n0 ra KF SF pc (o_dupx1 (pc + 1)) := by
  obtain ⟨hx, hb, hml, hown, hts, hr, hlk, hnm, hK, hRO, hA, hfr, hlo, hKF, hSF⟩ := X
  intro σ L k σ' L' k' pc' h hcl hn0 hF G ad H locs cells slots ls hP hD hS hc hs hl had
  simp only [o_dupx1] at h
  split at h
  · split at h
    · cases h
      exact lv_dup_x1 hx hb hdg (by rw [ae_v_cat]; first | assumption | exact (by assumption : _ ∧ _).1) (by rw [ae_v_cat]; exact (by assumption : _ ∧ _).2) (G ad H locs cells slots ls hP hD hS hc hs hl had)
    · cases h
  · cases h
theorem ok_iload_n (X : ae_X p l e R s m args below meth c D dA ro A B ra own nm cc nL ret KF SF d) {k : Fin 4} {i : Nat} (hi : (k : Nat) = i) (hdg : decode cc pc = .ok (.iload_n k, 1)) : ae_Ok p l e R s m args below meth c Q D dA ro A nL B ad0 n0 ra KF SF pc (o_il i (pc + 1)) := by
  obtain ⟨hx, hb, hml, hown, hts, hr, hlk, hnm, hK, hRO, hA, hfr, hlo, hKF, hSF⟩ := X
  intro σ L k σ' L' k' pc' h hcl hn0 hF G ad H locs cells slots ls hP hD hS hc hs hl had
  simp only [o_il] at h
  split at h
  · cases h
    exact lv_iload_n hx hb hdg hi (hl.2.2.2 _ _ (by assumption)) (G ad H locs cells slots ls hP hD hS hc hs hl had)
  · cases h
theorem ok_iload (X : ae_X p l e R s m args below meth c D dA ro A B ra own nm cc nL ret KF SF d) {i : Nat} (hdg : decode cc pc = .ok (.iload i, 2)) : ae_Ok p l e R s m args below meth c Q D dA ro A nL B ad0 n0 ra KF SF pc (o_il i (pc + 2)) := by
  obtain ⟨hx, hb, hml, hown, hts, hr, hlk, hnm, hK, hRO, hA, hfr, hlo, hKF, hSF⟩ := X
  intro σ L k σ' L' k' pc' h hcl hn0 hF G ad H locs cells slots ls hP hD hS hc hs hl had
  simp only [o_il] at h
  split at h
  · cases h
    exact lv_iload hx hb hdg (hl.2.2.2 _ _ (by assumption)) (G ad H locs cells slots ls hP hD hS hc hs hl had)
  · cases h
theorem ok_aload_n (X : ae_X p l e R s m args below meth c D dA ro A B ra own nm cc nL ret KF SF d) {k : Fin 4} {i : Nat} (hi : (k : Nat) = i) (hdg : decode cc pc = .ok (.aload_n k, 1)) : ae_Ok p l e R s m args below meth c Q D dA ro A nL B ad0 n0 ra KF SF pc (o_al i (pc + 1)) := by
  obtain ⟨hx, hb, hml, hown, hts, hr, hlk, hnm, hK, hRO, hA, hfr, hlo, hKF, hSF⟩ := X
  intro σ L k σ' L' k' pc' h hcl hn0 hF G ad H locs cells slots ls hP hD hS hc hs hl had
  simp only [o_al] at h
  split at h
  · cases h
    exact lv_aload_n hx hb hdg hi (hl.2.2.2 _ _ (by assumption)) (G ad H locs cells slots ls hP hD hS hc hs hl had)
  · cases h
    exact lv_aload_nN hx hb hdg hi (hl.2.2.2 _ _ (by assumption)) (G ad H locs cells slots ls hP hD hS hc hs hl had)
  · cases h
    exact lv_aload_n hx hb hdg hi (hl.2.2.2 _ _ (by assumption)) (G ad H locs cells slots ls hP hD hS hc hs hl had)
  · cases h
theorem ok_aload (X : ae_X p l e R s m args below meth c D dA ro A B ra own nm cc nL ret KF SF d) {i : Nat} (hdg : decode cc pc = .ok (.aload i, 2)) : ae_Ok p l e R s m args below meth c Q D dA ro A nL B ad0 n0 ra KF SF pc (o_al i (pc + 2)) := by
  obtain ⟨hx, hb, hml, hown, hts, hr, hlk, hnm, hK, hRO, hA, hfr, hlo, hKF, hSF⟩ := X
  intro σ L k σ' L' k' pc' h hcl hn0 hF G ad H locs cells slots ls hP hD hS hc hs hl had
  simp only [o_al] at h
  split at h
  · cases h
    exact lv_aload hx hb hdg (hl.2.2.2 _ _ (by assumption)) (G ad H locs cells slots ls hP hD hS hc hs hl had)
  · cases h
    exact lv_aloadN hx hb hdg (hl.2.2.2 _ _ (by assumption)) (G ad H locs cells slots ls hP hD hS hc hs hl had)
  · cases h
    exact lv_aload hx hb hdg (hl.2.2.2 _ _ (by assumption)) (G ad H locs cells slots ls hP hD hS hc hs hl had)
  · cases h
theorem ok_istore_n (X : ae_X p l e R s m args below meth c D dA ro A B ra own nm cc nL ret KF SF d) {k : Fin 4} {i : Nat} (hi : (k : Nat) = i) (hdg : decode cc pc = .ok (.istore_n k, 1)) : ae_Ok p l e R s m args below meth c Q D dA ro A nL B ad0 n0 ra KF SF pc (o_is i (pc + 1)) := by
  obtain ⟨hx, hb, hml, hown, hts, hr, hlk, hnm, hK, hRO, hA, hfr, hlo, hKF, hSF⟩ := X
  intro σ L k σ' L' k' pc' h hcl hn0 hF G ad H locs cells slots ls hP hD hS hc hs hl had
  simp only [o_is] at h
  split at h
  · split at h
    · cases h
      exact lv_istore_n hx hb hdg hi hl.has (by rw [← hl.1]; assumption) rfl (fun ls' h' => G ad H locs cells slots ls' hP hD hS hc hs (hl.put hcl.2.1 h') had)
    · cases h
  · cases h
theorem ok_istore (X : ae_X p l e R s m args below meth c D dA ro A B ra own nm cc nL ret KF SF d) {i : Nat} (hdg : decode cc pc = .ok (.istore i, 2)) : ae_Ok p l e R s m args below meth c Q D dA ro A nL B ad0 n0 ra KF SF pc (o_is i (pc + 2)) := by
  obtain ⟨hx, hb, hml, hown, hts, hr, hlk, hnm, hK, hRO, hA, hfr, hlo, hKF, hSF⟩ := X
  intro σ L k σ' L' k' pc' h hcl hn0 hF G ad H locs cells slots ls hP hD hS hc hs hl had
  simp only [o_is] at h
  split at h
  · split at h
    · cases h
      exact lv_istore hx hb hdg hl.has (by rw [← hl.1]; assumption) rfl (fun ls' h' => G ad H locs cells slots ls' hP hD hS hc hs (hl.put hcl.2.1 h') had)
    · cases h
  · cases h
theorem ok_astore_n (X : ae_X p l e R s m args below meth c D dA ro A B ra own nm cc nL ret KF SF d) {k : Fin 4} {i : Nat} (hi : (k : Nat) = i) (hdg : decode cc pc = .ok (.astore_n k, 1)) : ae_Ok p l e R s m args below meth c Q D dA ro A nL B ad0 n0 ra KF SF pc (o_as i (pc + 1)) := by
  obtain ⟨hx, hb, hml, hown, hts, hr, hlk, hnm, hK, hRO, hA, hfr, hlo, hKF, hSF⟩ := X
  intro σ L k σ' L' k' pc' h hcl hn0 hF G ad H locs cells slots ls hP hD hS hc hs hl had
  simp only [o_as] at h
  split at h
  · split at h
    · cases h
      exact lv_astore_n hx hb hdg hi hl.has (by rw [← hl.1]; assumption) rfl (fun ls' h' => G ad H locs cells slots ls' hP hD hS hc hs (hl.put (v := .ref _) hcl.2.1 h') had)
    · cases h
  · split at h
    · cases h
      exact lv_astore_nN hx hb hdg hi hl.has (by rw [← hl.1]; assumption) rfl (fun ls' h' => G ad H locs cells slots ls' hP hD hS hc hs (hl.put (v := .null) hcl.2.1 h') had)
    · cases h
  · split at h
    · cases h
      exact lv_astore_n hx hb hdg hi hl.has (by rw [← hl.1]; assumption) rfl (fun ls' h' => G ad H locs cells slots ls' hP hD hS hc hs (hl.put (v := .retAddr _) hcl.2.1 h') had)
    · cases h
  · cases h
theorem ok_astore (X : ae_X p l e R s m args below meth c D dA ro A B ra own nm cc nL ret KF SF d) {i : Nat} (hdg : decode cc pc = .ok (.astore i, 2)) : ae_Ok p l e R s m args below meth c Q D dA ro A nL B ad0 n0 ra KF SF pc (o_as i (pc + 2)) := by
  obtain ⟨hx, hb, hml, hown, hts, hr, hlk, hnm, hK, hRO, hA, hfr, hlo, hKF, hSF⟩ := X
  intro σ L k σ' L' k' pc' h hcl hn0 hF G ad H locs cells slots ls hP hD hS hc hs hl had
  simp only [o_as] at h
  split at h
  · split at h
    · cases h
      exact lv_astore hx hb hdg hl.has (by rw [← hl.1]; assumption) rfl (fun ls' h' => G ad H locs cells slots ls' hP hD hS hc hs (hl.put (v := .ref _) hcl.2.1 h') had)
    · cases h
  · split at h
    · cases h
      exact lv_astoreN hx hb hdg hl.has (by rw [← hl.1]; assumption) rfl (fun ls' h' => G ad H locs cells slots ls' hP hD hS hc hs (hl.put (v := .null) hcl.2.1 h') had)
    · cases h
  · split at h
    · cases h
      exact lv_astore hx hb hdg hl.has (by rw [← hl.1]; assumption) rfl (fun ls' h' => G ad H locs cells slots ls' hP hD hS hc hs (hl.put (v := .retAddr _) hcl.2.1 h') had)
    · cases h
  · cases h
theorem ok_iinc (X : ae_X p l e R s m args below meth c D dA ro A B ra own nm cc nL ret KF SF d) {i : Nat} {n : Int} {v : Int32} (hv : Int32.ofInt n = v) (hdg : decode cc pc = .ok (.iinc i n, 3)) : ae_Ok p l e R s m args below meth c Q D dA ro A nL B ad0 n0 ra KF SF pc (o_inc i v (pc + 3)) := by
  obtain ⟨hx, hb, hml, hown, hts, hr, hlk, hnm, hK, hRO, hA, hfr, hlo, hKF, hSF⟩ := X
  intro σ L k σ' L' k' pc' h hcl hn0 hF G ad H locs cells slots ls hP hD hS hc hs hl had
  simp only [o_inc] at h
  subst hv
  split at h
  · rename_i x hLi
    cases h
    have hi : i < nL := by rw [← hl.1]; exact (List.getElem?_eq_some_iff.mp hLi).1
    obtain ⟨kk, hkk⟩ := List.getElem?_of_mem (ae_as_mem (ad := ad) (ro := ro).mpr ⟨_, hLi, rfl⟩)
    exact lv_iinc hx hb hdg hl.has hkk rfl hi rfl (fun ls' h' => G ad H locs cells slots ls' hP hD hS hc hs (hl.put (v := .int _) hcl.2.1 h') had)
  · cases h
theorem ok_if_eq (X : ae_X p l e R s m args below meth c D dA ro A B ra own nm cc nL ret KF SF d) {off : Int} {tg : Nat} (ht : (pc : Int) + off = (tg : Int)) (hdg : decode cc pc = .ok (.ifCond .eq off, 3)) : ae_Ok p l e R s m args below meth c Q D dA ro A nL B ad0 n0 ra KF SF pc (o_if (fun x => decide (x = 0)) tg (pc + 3)) := by
  obtain ⟨hx, hb, hml, hown, hts, hr, hlk, hnm, hK, hRO, hA, hfr, hlo, hKF, hSF⟩ := X
  intro σ L k σ' L' k' pc' h hcl hn0 hF G ad H locs cells slots ls hP hD hS hc hs hl had
  simp only [o_if] at h
  split at h
  · cases h
    exact lv_if_eq hx hb hdg ht (fun z => by have G2 := (G ad H locs cells slots ls hP hD hS hc hs hl had); rw [if_pos (decide_eq_true z)] at G2; exact G2) (fun z => by have G2 := (G ad H locs cells slots ls hP hD hS hc hs hl had); rw [if_neg (by simp only [decide_eq_true_eq]; exact z)] at G2; exact G2)
  · cases h
theorem ok_ic_eq (X : ae_X p l e R s m args below meth c D dA ro A B ra own nm cc nL ret KF SF d) {off : Int} {tg : Nat} (ht : (pc : Int) + off = (tg : Int)) (hdg : decode cc pc = .ok (.if_icmp .eq off, 3)) : ae_Ok p l e R s m args below meth c Q D dA ro A nL B ad0 n0 ra KF SF pc (o_ic (fun x y => decide (x = y)) tg (pc + 3)) := by
  obtain ⟨hx, hb, hml, hown, hts, hr, hlk, hnm, hK, hRO, hA, hfr, hlo, hKF, hSF⟩ := X
  intro σ L k σ' L' k' pc' h hcl hn0 hF G ad H locs cells slots ls hP hD hS hc hs hl had
  simp only [o_ic] at h
  split at h
  · cases h
    exact lv_icmp_eq hx hb hdg ht (fun z => by have G2 := (G ad H locs cells slots ls hP hD hS hc hs hl had); rw [if_pos (decide_eq_true z)] at G2; exact G2) (fun z => by have G2 := (G ad H locs cells slots ls hP hD hS hc hs hl had); rw [if_neg (by simp only [decide_eq_true_eq]; exact z)] at G2; exact G2)
  · cases h
theorem ok_if_ne (X : ae_X p l e R s m args below meth c D dA ro A B ra own nm cc nL ret KF SF d) {off : Int} {tg : Nat} (ht : (pc : Int) + off = (tg : Int)) (hdg : decode cc pc = .ok (.ifCond .ne off, 3)) : ae_Ok p l e R s m args below meth c Q D dA ro A nL B ad0 n0 ra KF SF pc (o_if (fun x => decide (¬ x = 0)) tg (pc + 3)) := by
  obtain ⟨hx, hb, hml, hown, hts, hr, hlk, hnm, hK, hRO, hA, hfr, hlo, hKF, hSF⟩ := X
  intro σ L k σ' L' k' pc' h hcl hn0 hF G ad H locs cells slots ls hP hD hS hc hs hl had
  simp only [o_if] at h
  split at h
  · cases h
    exact lv_if_ne hx hb hdg ht (fun z => by have G2 := (G ad H locs cells slots ls hP hD hS hc hs hl had); rw [if_pos (decide_eq_true z)] at G2; exact G2) (fun z => by have G2 := (G ad H locs cells slots ls hP hD hS hc hs hl had); rw [if_neg (by simp only [decide_eq_true_eq]; exact fun q => q z)] at G2; exact G2)
  · cases h
theorem ok_ic_ne (X : ae_X p l e R s m args below meth c D dA ro A B ra own nm cc nL ret KF SF d) {off : Int} {tg : Nat} (ht : (pc : Int) + off = (tg : Int)) (hdg : decode cc pc = .ok (.if_icmp .ne off, 3)) : ae_Ok p l e R s m args below meth c Q D dA ro A nL B ad0 n0 ra KF SF pc (o_ic (fun x y => decide (¬ x = y)) tg (pc + 3)) := by
  obtain ⟨hx, hb, hml, hown, hts, hr, hlk, hnm, hK, hRO, hA, hfr, hlo, hKF, hSF⟩ := X
  intro σ L k σ' L' k' pc' h hcl hn0 hF G ad H locs cells slots ls hP hD hS hc hs hl had
  simp only [o_ic] at h
  split at h
  · cases h
    exact lv_icmp_ne hx hb hdg ht (fun z => by have G2 := (G ad H locs cells slots ls hP hD hS hc hs hl had); rw [if_pos (decide_eq_true z)] at G2; exact G2) (fun z => by have G2 := (G ad H locs cells slots ls hP hD hS hc hs hl had); rw [if_neg (by simp only [decide_eq_true_eq]; exact fun q => q z)] at G2; exact G2)
  · cases h
theorem ok_if_lt (X : ae_X p l e R s m args below meth c D dA ro A B ra own nm cc nL ret KF SF d) {off : Int} {tg : Nat} (ht : (pc : Int) + off = (tg : Int)) (hdg : decode cc pc = .ok (.ifCond .lt off, 3)) : ae_Ok p l e R s m args below meth c Q D dA ro A nL B ad0 n0 ra KF SF pc (o_if (fun x => decide (x < 0)) tg (pc + 3)) := by
  obtain ⟨hx, hb, hml, hown, hts, hr, hlk, hnm, hK, hRO, hA, hfr, hlo, hKF, hSF⟩ := X
  intro σ L k σ' L' k' pc' h hcl hn0 hF G ad H locs cells slots ls hP hD hS hc hs hl had
  simp only [o_if] at h
  split at h
  · cases h
    exact lv_if_lt hx hb hdg ht (fun z => by have G2 := (G ad H locs cells slots ls hP hD hS hc hs hl had); rw [if_pos (decide_eq_true z)] at G2; exact G2) (fun z => by have G2 := (G ad H locs cells slots ls hP hD hS hc hs hl had); rw [if_neg (by simp only [decide_eq_true_eq]; exact z)] at G2; exact G2)
  · cases h
theorem ok_ic_lt (X : ae_X p l e R s m args below meth c D dA ro A B ra own nm cc nL ret KF SF d) {off : Int} {tg : Nat} (ht : (pc : Int) + off = (tg : Int)) (hdg : decode cc pc = .ok (.if_icmp .lt off, 3)) : ae_Ok p l e R s m args below meth c Q D dA ro A nL B ad0 n0 ra KF SF pc (o_ic (fun x y => decide (x < y)) tg (pc + 3)) := by
  obtain ⟨hx, hb, hml, hown, hts, hr, hlk, hnm, hK, hRO, hA, hfr, hlo, hKF, hSF⟩ := X
  intro σ L k σ' L' k' pc' h hcl hn0 hF G ad H locs cells slots ls hP hD hS hc hs hl had
  simp only [o_ic] at h
  split at h
  · cases h
    exact lv_icmp_lt hx hb hdg ht (fun z => by have G2 := (G ad H locs cells slots ls hP hD hS hc hs hl had); rw [if_pos (decide_eq_true z)] at G2; exact G2) (fun z => by have G2 := (G ad H locs cells slots ls hP hD hS hc hs hl had); rw [if_neg (by simp only [decide_eq_true_eq]; exact z)] at G2; exact G2)
  · cases h
theorem ok_if_ge (X : ae_X p l e R s m args below meth c D dA ro A B ra own nm cc nL ret KF SF d) {off : Int} {tg : Nat} (ht : (pc : Int) + off = (tg : Int)) (hdg : decode cc pc = .ok (.ifCond .ge off, 3)) : ae_Ok p l e R s m args below meth c Q D dA ro A nL B ad0 n0 ra KF SF pc (o_if (fun x => decide (0 ≤ x)) tg (pc + 3)) := by
  obtain ⟨hx, hb, hml, hown, hts, hr, hlk, hnm, hK, hRO, hA, hfr, hlo, hKF, hSF⟩ := X
  intro σ L k σ' L' k' pc' h hcl hn0 hF G ad H locs cells slots ls hP hD hS hc hs hl had
  simp only [o_if] at h
  split at h
  · cases h
    exact lv_if_ge hx hb hdg ht (fun z => by have G2 := (G ad H locs cells slots ls hP hD hS hc hs hl had); rw [if_pos (decide_eq_true z)] at G2; exact G2) (fun z => by have G2 := (G ad H locs cells slots ls hP hD hS hc hs hl had); rw [if_neg (by simp only [decide_eq_true_eq]; exact z)] at G2; exact G2)
  · cases h
theorem ok_ic_ge (X : ae_X p l e R s m args below meth c D dA ro A B ra own nm cc nL ret KF SF d) {off : Int} {tg : Nat} (ht : (pc : Int) + off = (tg : Int)) (hdg : decode cc pc = .ok (.if_icmp .ge off, 3)) : ae_Ok p l e R s m args below meth c Q D dA ro A nL B ad0 n0 ra KF SF pc (o_ic (fun x y => decide (y ≤ x)) tg (pc + 3)) := by
  obtain ⟨hx, hb, hml, hown, hts, hr, hlk, hnm, hK, hRO, hA, hfr, hlo, hKF, hSF⟩ := X
  intro σ L k σ' L' k' pc' h hcl hn0 hF G ad H locs cells slots ls hP hD hS hc hs hl had
  simp only [o_ic] at h
  split at h
  · cases h
    exact lv_icmp_ge hx hb hdg ht (fun z => by have G2 := (G ad H locs cells slots ls hP hD hS hc hs hl had); rw [if_pos (decide_eq_true z)] at G2; exact G2) (fun z => by have G2 := (G ad H locs cells slots ls hP hD hS hc hs hl had); rw [if_neg (by simp only [decide_eq_true_eq]; exact z)] at G2; exact G2)
  · cases h
theorem ok_if_gt (X : ae_X p l e R s m args below meth c D dA ro A B ra own nm cc nL ret KF SF d) {off : Int} {tg : Nat} (ht : (pc : Int) + off = (tg : Int)) (hdg : decode cc pc = .ok (.ifCond .gt off, 3)) : ae_Ok p l e R s m args below meth c Q D dA ro A nL B ad0 n0 ra KF SF pc (o_if (fun x => decide (0 < x)) tg (pc + 3)) := by
  obtain ⟨hx, hb, hml, hown, hts, hr, hlk, hnm, hK, hRO, hA, hfr, hlo, hKF, hSF⟩ := X
  intro σ L k σ' L' k' pc' h hcl hn0 hF G ad H locs cells slots ls hP hD hS hc hs hl had
  simp only [o_if] at h
  split at h
  · cases h
    exact lv_if_gt hx hb hdg ht (fun z => by have G2 := (G ad H locs cells slots ls hP hD hS hc hs hl had); rw [if_pos (decide_eq_true z)] at G2; exact G2) (fun z => by have G2 := (G ad H locs cells slots ls hP hD hS hc hs hl had); rw [if_neg (by simp only [decide_eq_true_eq]; exact z)] at G2; exact G2)
  · cases h
theorem ok_ic_gt (X : ae_X p l e R s m args below meth c D dA ro A B ra own nm cc nL ret KF SF d) {off : Int} {tg : Nat} (ht : (pc : Int) + off = (tg : Int)) (hdg : decode cc pc = .ok (.if_icmp .gt off, 3)) : ae_Ok p l e R s m args below meth c Q D dA ro A nL B ad0 n0 ra KF SF pc (o_ic (fun x y => decide (y < x)) tg (pc + 3)) := by
  obtain ⟨hx, hb, hml, hown, hts, hr, hlk, hnm, hK, hRO, hA, hfr, hlo, hKF, hSF⟩ := X
  intro σ L k σ' L' k' pc' h hcl hn0 hF G ad H locs cells slots ls hP hD hS hc hs hl had
  simp only [o_ic] at h
  split at h
  · cases h
    exact lv_icmp_gt hx hb hdg ht (fun z => by have G2 := (G ad H locs cells slots ls hP hD hS hc hs hl had); rw [if_pos (decide_eq_true z)] at G2; exact G2) (fun z => by have G2 := (G ad H locs cells slots ls hP hD hS hc hs hl had); rw [if_neg (by simp only [decide_eq_true_eq]; exact z)] at G2; exact G2)
  · cases h
theorem ok_if_le (X : ae_X p l e R s m args below meth c D dA ro A B ra own nm cc nL ret KF SF d) {off : Int} {tg : Nat} (ht : (pc : Int) + off = (tg : Int)) (hdg : decode cc pc = .ok (.ifCond .le off, 3)) : ae_Ok p l e R s m args below meth c Q D dA ro A nL B ad0 n0 ra KF SF pc (o_if (fun x => decide (x ≤ 0)) tg (pc + 3)) := by
  obtain ⟨hx, hb, hml, hown, hts, hr, hlk, hnm, hK, hRO, hA, hfr, hlo, hKF, hSF⟩ := X
  intro σ L k σ' L' k' pc' h hcl hn0 hF G ad H locs cells slots ls hP hD hS hc hs hl had
  simp only [o_if] at h
  split at h
  · cases h
    exact lv_if_le hx hb hdg ht (fun z => by have G2 := (G ad H locs cells slots ls hP hD hS hc hs hl had); rw [if_pos (decide_eq_true z)] at G2; exact G2) (fun z => by have G2 := (G ad H locs cells slots ls hP hD hS hc hs hl had); rw [if_neg (by simp only [decide_eq_true_eq]; exact z)] at G2; exact G2)
  · cases h
theorem ok_ic_le (X : ae_X p l e R s m args below meth c D dA ro A B ra own nm cc nL ret KF SF d) {off : Int} {tg : Nat} (ht : (pc : Int) + off = (tg : Int)) (hdg : decode cc pc = .ok (.if_icmp .le off, 3)) : ae_Ok p l e R s m args below meth c Q D dA ro A nL B ad0 n0 ra KF SF pc (o_ic (fun x y => decide (x ≤ y)) tg (pc + 3)) := by
  obtain ⟨hx, hb, hml, hown, hts, hr, hlk, hnm, hK, hRO, hA, hfr, hlo, hKF, hSF⟩ := X
  intro σ L k σ' L' k' pc' h hcl hn0 hF G ad H locs cells slots ls hP hD hS hc hs hl had
  simp only [o_ic] at h
  split at h
  · cases h
    exact lv_icmp_le hx hb hdg ht (fun z => by have G2 := (G ad H locs cells slots ls hP hD hS hc hs hl had); rw [if_pos (decide_eq_true z)] at G2; exact G2) (fun z => by have G2 := (G ad H locs cells slots ls hP hD hS hc hs hl had); rw [if_neg (by simp only [decide_eq_true_eq]; exact z)] at G2; exact G2)
  · cases h
theorem ok_ifnull (X : ae_X p l e R s m args below meth c D dA ro A B ra own nm cc nL ret KF SF d) {off : Int} {tg : Nat} (ht : (pc : Int) + off = (tg : Int)) (hdg : decode cc pc = .ok (.ifnull off, 3)) : ae_Ok p l e R s m args below meth c Q D dA ro A nL B ad0 n0 ra KF SF pc (o_nul tg (pc + 3)) := by
  obtain ⟨hx, hb, hml, hown, hts, hr, hlk, hnm, hK, hRO, hA, hfr, hlo, hKF, hSF⟩ := X
  intro σ L k σ' L' k' pc' h hcl hn0 hF G ad H locs cells slots ls hP hD hS hc hs hl had
  simp only [o_nul] at h
  split at h
  · cases h
    exact lv_ifnullN hx hb hdg ht (G ad H locs cells slots ls hP hD hS hc hs hl had)
  · cases h
    exact lv_ifnull hx hb hdg (G ad H locs cells slots ls hP hD hS hc hs hl had)
  · cases h
theorem ok_ifnonnull (X : ae_X p l e R s m args below meth c D dA ro A B ra own nm cc nL ret KF SF d) {off : Int} {tg : Nat} (ht : (pc : Int) + off = (tg : Int)) (hdg : decode cc pc = .ok (.ifnonnull off, 3)) : ae_Ok p l e R s m args below meth c Q D dA ro A nL B ad0 n0 ra KF SF pc (o_nul (pc + 3) tg) := by
  obtain ⟨hx, hb, hml, hown, hts, hr, hlk, hnm, hK, hRO, hA, hfr, hlo, hKF, hSF⟩ := X
  intro σ L k σ' L' k' pc' h hcl hn0 hF G ad H locs cells slots ls hP hD hS hc hs hl had
  simp only [o_nul] at h
  split at h
  · cases h
    exact lv_ifnonnullN hx hb hdg (G ad H locs cells slots ls hP hD hS hc hs hl had)
  · cases h
    exact lv_ifnonnull hx hb hdg ht (G ad H locs cells slots ls hP hD hS hc hs hl had)
  · cases h
theorem ok_goto (X : ae_X p l e R s m args below meth c D dA ro A B ra own nm cc nL ret KF SF d) {off : Int} {tg : Nat} (ht : (pc : Int) + off = (tg : Int)) (hdg : decode cc pc = .ok (.goto off, 3)) : ae_Ok p l e R s m args below meth c Q D dA ro A nL B ad0 n0 ra KF SF pc (o_goto tg) := by
  obtain ⟨hx, hb, hml, hown, hts, hr, hlk, hnm, hK, hRO, hA, hfr, hlo, hKF, hSF⟩ := X
  intro σ L k σ' L' k' pc' h hcl hn0 hF G ad H locs cells slots ls hP hD hS hc hs hl had
  simp only [o_goto] at h
  cases h
  exact lv_goto hx hb hdg ht (G ad H locs cells slots ls hP hD hS hc hs hl had)
theorem ok_sw (X : ae_X p l e R s m args below meth c D dA ro A B ra own nm cc nL ret KF SF d) {dflt lo hi : Int} {offs : Array Int} {len : Nat} {tgs : List Nat} {df : Nat} (hd : (pc : Int) + dflt = (df : Int)) (ho : ∀ j : Nat, j < (hi - lo + 1).toNat → ∃ off, offs[j]? = some off ∧ (pc : Int) + off = ((tgs.getD j 0 : Nat) : Int)) (hdg : decode cc pc = .ok (.tableswitch dflt lo hi offs, len)) : ae_Ok p l e R s m args below meth c Q D dA ro A nL B ad0 n0 ra KF SF pc (o_sw lo hi tgs df) := by
  obtain ⟨hx, hb, hml, hown, hts, hr, hlk, hnm, hK, hRO, hA, hfr, hlo, hKF, hSF⟩ := X
  intro σ L k σ' L' k' pc' h hcl hn0 hF G ad H locs cells slots ls hP hD hS hc hs hl had
  simp only [o_sw] at h
  split at h
  · rename_i x r
    cases h
    by_cases hq : x.toInt < lo ∨ hi < x.toInt
    · have G2 := (G ad H locs cells slots ls hP hD hS hc hs hl had)
      rw [if_pos hq] at G2
      exact lv_tableOut hx hb hdg hq hd G2
    · have G2 := (G ad H locs cells slots ls hP hD hS hc hs hl had)
      rw [if_neg hq] at G2
      obtain ⟨off, e1, e2⟩ := ho (x.toInt - lo).toNat (by omega)
      exact lv_tableIn hx hb hdg (fun z => hq (Or.inl z)) (fun z => hq (Or.inr z)) e1 e2 G2
  · cases h
end AEM
section AEH
variable {p : Program} {l : Launch} {e : Env} {R : Room} {s : State} {m : MethodId} {args : Array Value} {below : List Frame} {meth : Method} {c : Code} {Q : State → Prop}
variable {D : va_G} {dA : Nat → ClassId} {ro : Nat → Nat} {A : Nat → Prop} {nL : Nat} {B : Nat × Nat} {ad0 : Nat → Nat} {n0 : Nat}
variable {ra : Nat → Nat × (Nat → Int32)} {own nm : String} {cc : ByteArray} {ret : Option FieldType} {KF SF d : Nat} {pc : Nat}
theorem ae_cat_map (ad ro : Nat → Nat) (k : List Value) : ((k.map (ae_v ad ro)).map fun v => v.category).sum = ae_cat k := by
  unfold ae_cat
  rw [List.map_map]
  congr 1
  exact List.map_congr_left fun v _ => ae_v_cat ad ro v
theorem ae_rf (ad ro : Nat → Nat) (o : Option Nat) : ae_v ad ro (va_rf o) = va_rf (o.map ad) := by cases o <;> rfl
theorem ae_uq {U : State} {cA cB : ClassId} {ty : FieldType} (h1 : va_RA U cA ty) (h2 : va_RA U cB ty) : cA = cB := by
  cases ty with
  | object C =>
    obtain ⟨_, _, _, _, _, a⟩ := h1
    obtain ⟨_, _, _, _, _, b⟩ := h2
    exact Option.some.inj (a.symm.trans b)
  | _ =>
    have a : U.vm.findClass _ = some cA := h1
    have b : U.vm.findClass _ = some cB := h2
    exact Option.some.inj (a.symm.trans b)
theorem ae_upm (ad : Nat → Nat) (f : Nat → Option Nat) (j : Nat) (o : Option Nat) : (fun i => (va_up f j o i).map ad) = va_up (fun i => (f i).map ad) j (o.map ad) := by
  funext i
  unfold va_up
  split <;> rfl

theorem ok_get (X : ae_X p l e R s m args below meth c D dA ro A B ra own nm cc nL ret KF SF d) {C : String} {T : u_T} {N ci kk index : Nat} (hci : classes[ci]? = some (C, T, N)) (hin : ∀ w ∈ u_ws C T N, w ∈ aw_all) (hkN : kk < N) (hw : Jvm.Cond.fieldLink own index (T kk).1 (T kk).2.1 (T kk).2.2.1 ∈ aw_all) (hdg : decode cc pc = .ok (.getfield index, 3)) : ae_Ok p l e R s m args below meth c Q D dA ro A nL B ad0 n0 ra KF SF pc (o_get ci kk (pc + 3)) := by
  obtain ⟨hx, hb, hml, hown, hts, hr, hlk, hnm, hK, hRO, hA, hfr, hlo, hKF, hSF⟩ := X
  intro σ L k σ' L' k' pc' h hcl hn0 hF G ad H locs cells slots ls hP hD hS hc hs hl had
  simp only [o_get] at h
  split at h
  · rename_i p r
    split at h
    · rename_i cj fs he0
      split at h
      · rename_i hcj
        subst hcj
        split at h
        · rename_i v hv
          cases h
          exact va_get (D := D) (v := ae_v ad ro v) hx hb hts hin hown hK hP p (ae_w_get he0) hci kk hkN (hts _ hw) (fun _ z => z) (by rw [List.getElem?_map, hv]; rfl) hdg (G ad H locs cells slots ls hP hD hS hc hs hl had)
        · cases h
      · cases h
    · cases h
  · cases h
theorem ok_getN (X : ae_X p l e R s m args below meth c D dA ro A B ra own nm cc nL ret KF SF d) {C : String} {T : u_T} {N ci kk index : Nat} (hci : classes[ci]? = some (C, T, N)) (hin : ∀ w ∈ u_ws C T N, w ∈ aw_all) (hkN : kk < N) {host : String} (hw : Jvm.Cond.fieldLinkNest own index (T kk).1 (T kk).2.1 (T kk).2.2.1 host ∈ aw_all) (hdg : decode cc pc = .ok (.getfield index, 3)) : ae_Ok p l e R s m args below meth c Q D dA ro A nL B ad0 n0 ra KF SF pc (o_get ci kk (pc + 3)) := by
  obtain ⟨hx, hb, hml, hown, hts, hr, hlk, hnm, hK, hRO, hA, hfr, hlo, hKF, hSF⟩ := X
  intro σ L k σ' L' k' pc' h hcl hn0 hF G ad H locs cells slots ls hP hD hS hc hs hl had
  simp only [o_get] at h
  split at h
  · rename_i p r
    split at h
    · rename_i cj fs he0
      split at h
      · rename_i hcj
        subst hcj
        split at h
        · rename_i v hv
          cases h
          exact va_getN (D := D) (v := ae_v ad ro v) hx hb hts hin hown hK hP p (ae_w_get he0) hci kk hkN (hts _ hw) (fun _ z => z) (by rw [List.getElem?_map, hv]; rfl) hdg (G ad H locs cells slots ls hP hD hS hc hs hl had)
        · cases h
      · cases h
    · cases h
  · cases h
theorem ok_put (X : ae_X p l e R s m args below meth c D dA ro A B ra own nm cc nL ret KF SF d) {C : String} {T : u_T} {N ci kk index : Nat} (hci : classes[ci]? = some (C, T, N)) (hin : ∀ w ∈ u_ws C T N, w ∈ aw_all) (hkN : kk < N) (hw : Jvm.Cond.fieldLink own index (T kk).1 (T kk).2.1 (T kk).2.2.1 ∈ aw_all) (ty0 : Nat → FieldType) (hty : ∀ k, k < N → parseFieldDescriptor (T k).2.2.1 = some (ty0 k)) (hnm0 : ∀ a, a < N → ∀ b, b < N → a ≠ b → (T a).2.1 ≠ (T b).2.1) {ok : Value → Bool} {ty : FieldType} (hd : parseFieldDescriptor (T kk).2.2.1 = some ty) (hok : ∀ (v : Value) (ad ro : Nat → Nat), ok v = true → narrow ty (ae_v ad ro v) = ae_v ad ro v ∧ fits ty (ae_v ad ro v) = true) (hfin : (T kk).2.2.2 = false) (hdg : decode cc pc = .ok (.putfield index, 3)) : ae_Ok p l e R s m args below meth c Q D dA ro A nL B ad0 n0 ra KF SF pc (o_put ci kk ok (pc + 3)) := by
  obtain ⟨hx, hb, hml, hown, hts, hr, hlk, hnm, hK, hRO, hA, hfr, hlo, hKF, hSF⟩ := X
  intro σ L k σ' L' k' pc' h hcl hn0 hF G ad H locs cells slots ls hP hD hS hc hs hl had
  simp only [o_put] at h
  split at h
  · rename_i v p r
    split at h
    · rename_i cj fs he0
      split at h
      · rename_i hcj
        obtain ⟨hcj, hov, hlen⟩ := hcj
        subst hcj
        cases h
        have e0 : (ae_w ad ro dA σ.2).set p (ad p, .inr (cj, (fs.map (ae_v ad ro)).set kk (ae_v ad ro v))) = ae_w ad ro dA (σ.2.set p (.inr (cj, fs.set kk v))) := by
          rw [← ae_w_set]
          simp [ae_c, List.map_set]
        exact va_put (D := D) (v := ae_v ad ro v) hx hb hts hin ty0 hty hnm0 hown hK hP hD hS p (ae_w_get he0) hci kk hkN (hts _ hw) (fun _ z => z) hfin hd (hok v ad ro hov).1 (hok v ad ro hov).2 (by simpa using hlen) hdg (fun H1 locs1 hP1 hD1 hS1 => G ad H1 locs1 cells slots ls (e0 ▸ hP1) (e0 ▸ hD1) hS1 hc hs hl had)
      · cases h
    · cases h
  · cases h
theorem ok_putN (X : ae_X p l e R s m args below meth c D dA ro A B ra own nm cc nL ret KF SF d) {C : String} {T : u_T} {N ci kk index : Nat} (hci : classes[ci]? = some (C, T, N)) (hin : ∀ w ∈ u_ws C T N, w ∈ aw_all) (hkN : kk < N) {host : String} (hw : Jvm.Cond.fieldLinkNest own index (T kk).1 (T kk).2.1 (T kk).2.2.1 host ∈ aw_all) (ty0 : Nat → FieldType) (hty : ∀ k, k < N → parseFieldDescriptor (T k).2.2.1 = some (ty0 k)) (hnm0 : ∀ a, a < N → ∀ b, b < N → a ≠ b → (T a).2.1 ≠ (T b).2.1) {ok : Value → Bool} {ty : FieldType} (hd : parseFieldDescriptor (T kk).2.2.1 = some ty) (hok : ∀ (v : Value) (ad ro : Nat → Nat), ok v = true → narrow ty (ae_v ad ro v) = ae_v ad ro v ∧ fits ty (ae_v ad ro v) = true) (hfin : (T kk).2.2.2 = false) (hdg : decode cc pc = .ok (.putfield index, 3)) : ae_Ok p l e R s m args below meth c Q D dA ro A nL B ad0 n0 ra KF SF pc (o_put ci kk ok (pc + 3)) := by
  obtain ⟨hx, hb, hml, hown, hts, hr, hlk, hnm, hK, hRO, hA, hfr, hlo, hKF, hSF⟩ := X
  intro σ L k σ' L' k' pc' h hcl hn0 hF G ad H locs cells slots ls hP hD hS hc hs hl had
  simp only [o_put] at h
  split at h
  · rename_i v p r
    split at h
    · rename_i cj fs he0
      split at h
      · rename_i hcj
        obtain ⟨hcj, hov, hlen⟩ := hcj
        subst hcj
        cases h
        have e0 : (ae_w ad ro dA σ.2).set p (ad p, .inr (cj, (fs.map (ae_v ad ro)).set kk (ae_v ad ro v))) = ae_w ad ro dA (σ.2.set p (.inr (cj, fs.set kk v))) := by
          rw [← ae_w_set]
          simp [ae_c, List.map_set]
        exact va_putN (D := D) (v := ae_v ad ro v) hx hb hts hin ty0 hty hnm0 hown hK hP hD hS p (ae_w_get he0) hci kk hkN (hts _ hw) (fun _ z => z) hfin hd (hok v ad ro hov).1 (hok v ad ro hov).2 (by simpa using hlen) hdg (fun H1 locs1 hP1 hD1 hS1 => G ad H1 locs1 cells slots ls (e0 ▸ hP1) (e0 ▸ hD1) hS1 hc hs hl had)
      · cases h
    · cases h
  · cases h
theorem ok_putF (X : ae_X p l e R s m args below meth c D dA ro A B ra own nm cc nL ret KF SF d) {C : String} {T : u_T} {N ci kk index : Nat} (hci : classes[ci]? = some (C, T, N)) (hin : ∀ w ∈ u_ws C T N, w ∈ aw_all) (hkN : kk < N) (hw : Jvm.Cond.fieldLink own index (T kk).1 (T kk).2.1 (T kk).2.2.1 ∈ aw_all) (ty0 : Nat → FieldType) (hty : ∀ k, k < N → parseFieldDescriptor (T k).2.2.1 = some (ty0 k)) (hnm0 : ∀ a, a < N → ∀ b, b < N → a ≠ b → (T a).2.1 ≠ (T b).2.1) {ok : Value → Bool} {ty : FieldType} (hd : parseFieldDescriptor (T kk).2.2.1 = some ty) (hok : ∀ (v : Value) (ad ro : Nat → Nat), ok v = true → narrow ty (ae_v ad ro v) = ae_v ad ro v ∧ fits ty (ae_v ad ro v) = true) (hfin : (T kk).2.2.2 = true) (hini0 : nm = "<init>") (hdec : (T kk).1 = own) (hdg : decode cc pc = .ok (.putfield index, 3)) : ae_Ok p l e R s m args below meth c Q D dA ro A nL B ad0 n0 ra KF SF pc (o_put ci kk ok (pc + 3)) := by
  obtain ⟨hx, hb, hml, hown, hts, hr, hlk, hnm, hK, hRO, hA, hfr, hlo, hKF, hSF⟩ := X
  intro σ L k σ' L' k' pc' h hcl hn0 hF G ad H locs cells slots ls hP hD hS hc hs hl had
  simp only [o_put] at h
  split at h
  · rename_i v p r
    split at h
    · rename_i cj fs he0
      split at h
      · rename_i hcj
        obtain ⟨hcj, hov, hlen⟩ := hcj
        subst hcj
        cases h
        have e0 : (ae_w ad ro dA σ.2).set p (ad p, .inr (cj, (fs.map (ae_v ad ro)).set kk (ae_v ad ro v))) = ae_w ad ro dA (σ.2.set p (.inr (cj, fs.set kk v))) := by
          rw [← ae_w_set]
          simp [ae_c, List.map_set]
        exact va_putF (D := D) (v := ae_v ad ro v) hx hb hts hin ty0 hty hnm0 hown hK hP hD hS p (ae_w_get he0) hci kk hkN (hts _ hw) (fun _ z => z) hfin (hnm.trans hini0) hdec hd (hok v ad ro hov).1 (hok v ad ro hov).2 (by simpa using hlen) hdg (fun H1 locs1 hP1 hD1 hS1 => G ad H1 locs1 cells slots ls (e0 ▸ hP1) (e0 ▸ hD1) hS1 hc hs hl had)
      · cases h
    · cases h
  · cases h
theorem ok_ia (X : ae_X p l e R s m args below meth c D dA ro A B ra own nm cc nL ret KF SF d)  (hdg : decode cc pc = .ok (.iaload, 1)) : ae_Ok p l e R s m args below meth c Q D dA ro A nL B ad0 n0 ra KF SF pc (o_ia (pc + 1)) := by
  obtain ⟨hx, hb, hml, hown, hts, hr, hlk, hnm, hK, hRO, hA, hfr, hlo, hKF, hSF⟩ := X
  intro σ L k σ' L' k' pc' h hcl hn0 hF G ad H locs cells slots ls hP hD hS hc hs hl had
  simp only [o_ia] at h
  split at h
  · rename_i i p r
    split at h
    · rename_i t n f he0
      split at h
      · rename_i hq
        obtain ⟨hq0, hq⟩ := hq
        subst hq0
        cases h
        exact va_iald hx hb hK hP p 0 (ae_w_get he0) rfl hq hdg (G ad H locs cells slots ls hP hD hS hc hs hl had)
      · cases h
    · cases h
  · rename_i i q r
    split at h
    · rename_i hq
      cases h
      exact va_ti hx hb (hRO.1 q hq.1) hS hq.2 rfl hdg (G ad H locs cells slots ls hP hD hS hc hs hl had)
    · cases h
  · cases h
theorem ok_la (X : ae_X p l e R s m args below meth c D dA ro A B ra own nm cc nL ret KF SF d)  (hdg : decode cc pc = .ok (.laload, 1)) : ae_Ok p l e R s m args below meth c Q D dA ro A nL B ad0 n0 ra KF SF pc (o_la (pc + 1)) := by
  obtain ⟨hx, hb, hml, hown, hts, hr, hlk, hnm, hK, hRO, hA, hfr, hlo, hKF, hSF⟩ := X
  intro σ L k σ' L' k' pc' h hcl hn0 hF G ad H locs cells slots ls hP hD hS hc hs hl had
  simp only [o_la] at h
  split at h
  · rename_i i p r
    split at h
    · rename_i t n f he0
      split at h
      · rename_i hq
        obtain ⟨hq0, hq⟩ := hq
        subst hq0
        cases h
        exact va_lald hx hb hK hP p 3 (ae_w_get he0) rfl hq hdg (G ad H locs cells slots ls hP hD hS hc hs hl had)
      · cases h
    · cases h
  · cases h
theorem ok_ba (X : ae_X p l e R s m args below meth c D dA ro A B ra own nm cc nL ret KF SF d)  (hdg : decode cc pc = .ok (.baload, 1)) : ae_Ok p l e R s m args below meth c Q D dA ro A nL B ad0 n0 ra KF SF pc (o_ba (pc + 1)) := by
  obtain ⟨hx, hb, hml, hown, hts, hr, hlk, hnm, hK, hRO, hA, hfr, hlo, hKF, hSF⟩ := X
  intro σ L k σ' L' k' pc' h hcl hn0 hF G ad H locs cells slots ls hP hD hS hc hs hl had
  simp only [o_ba] at h
  split at h
  · rename_i i p r
    split at h
    · rename_i t n f he0
      split at h
      · rename_i hq
        obtain ⟨hq0, hq⟩ := hq
        cases h
        rcases hq0 with hq0 | hq0
        · subst hq0
          exact va_bald hx hb hK hP p 1 (ae_w_get he0) rfl hq hdg (G ad H locs cells slots ls hP hD hS hc hs hl had)
        · subst hq0
          exact va_zald hx hb hK hP p 2 (ae_w_get he0) rfl hq hdg (G ad H locs cells slots ls hP hD hS hc hs hl had)
      · cases h
    · cases h
  · cases h
theorem ae_ty_o (dA : Nat → ClassId) {t : Nat} (h : 4 ≤ t ∧ t < 10) : ∃ r : vw_C, classes[ae_ec t]? = some r ∧ (ae_ty dA)[t]? = some (dA t, .object r.1) := by
  have h1 : t = 4 ∨ t = 5 ∨ t = 6 ∨ t = 7 ∨ t = 8 ∨ t = 9 := by omega
  rcases h1 with h1 | h1 | h1 | h1 | h1 | h1 <;> subst h1 <;> exact ⟨_, rfl, rfl⟩
theorem ae_ty_a (dA : Nat → ClassId) {t : Nat} (h : t < 10) : ∃ ty, (ae_ty dA)[t]? = some (dA t, ty) := by
  have h1 : t = 0 ∨ t = 1 ∨ t = 2 ∨ t = 3 ∨ t = 4 ∨ t = 5 ∨ t = 6 ∨ t = 7 ∨ t = 8 ∨ t = 9 := by omega
  rcases h1 with h1 | h1 | h1 | h1 | h1 | h1 | h1 | h1 | h1 | h1 <;> subst h1 <;> exact ⟨_, rfl⟩

theorem ok_aa (X : ae_X p l e R s m args below meth c D dA ro A B ra own nm cc nL ret KF SF d)  (hdg : decode cc pc = .ok (.aaload, 1)) : ae_Ok p l e R s m args below meth c Q D dA ro A nL B ad0 n0 ra KF SF pc (o_aa (pc + 1)) := by
  obtain ⟨hx, hb, hml, hown, hts, hr, hlk, hnm, hK, hRO, hA, hfr, hlo, hKF, hSF⟩ := X
  intro σ L k σ' L' k' pc' h hcl hn0 hF G ad H locs cells slots ls hP hD hS hc hs hl had
  simp only [o_aa] at h
  split at h
  · rename_i i p r
    split at h
    · rename_i t n f he0
      split at h
      · rename_i hq
        cases h
        obtain ⟨r0, -, ht0⟩ := ae_ty_o dA hq.1
        have G2 := (G ad H locs cells slots ls hP hD hS hc hs hl had)
        simp only [List.map_cons, ae_rf] at G2
        exact va_aldq hx hb hK hP p t (ae_w_get he0) ht0 hq.2 hdg G2
      · cases h
    · cases h
  · cases h
theorem ok_ias (X : ae_X p l e R s m args below meth c D dA ro A B ra own nm cc nL ret KF SF d)  (hdg : decode cc pc = .ok (.iastore, 1)) : ae_Ok p l e R s m args below meth c Q D dA ro A nL B ad0 n0 ra KF SF pc (o_ias (pc + 1)) := by
  obtain ⟨hx, hb, hml, hown, hts, hr, hlk, hnm, hK, hRO, hA, hfr, hlo, hKF, hSF⟩ := X
  intro σ L k σ' L' k' pc' h hcl hn0 hF G ad H locs cells slots ls hP hD hS hc hs hl had
  simp only [o_ias] at h
  split at h
  · rename_i x i p r
    split at h
    · rename_i t n f he0
      split at h
      · rename_i hq
        obtain ⟨hq0, hq⟩ := hq
        subst hq0
        cases h
        have e0 := ae_w_set ad ro dA σ.2 p (.inl (0, n, .inl (upd f i.toNatClampNeg x)))
        exact va_iast hx hb hK hP hD hS p 0 (ae_w_get he0) rfl hq hdg (fun H1 locs1 hP1 hD1 hS1 => G ad H1 locs1 cells slots ls (e0 ▸ hP1) (e0 ▸ hD1) hS1 hc hs hl had)
      · cases h
    · cases h
  · cases h
theorem ok_las (X : ae_X p l e R s m args below meth c D dA ro A B ra own nm cc nL ret KF SF d)  (hdg : decode cc pc = .ok (.lastore, 1)) : ae_Ok p l e R s m args below meth c Q D dA ro A nL B ad0 n0 ra KF SF pc (o_las (pc + 1)) := by
  obtain ⟨hx, hb, hml, hown, hts, hr, hlk, hnm, hK, hRO, hA, hfr, hlo, hKF, hSF⟩ := X
  intro σ L k σ' L' k' pc' h hcl hn0 hF G ad H locs cells slots ls hP hD hS hc hs hl had
  simp only [o_las] at h
  split at h
  · rename_i x i p r
    split at h
    · rename_i t n f he0
      split at h
      · rename_i hq
        obtain ⟨hq0, hq⟩ := hq
        subst hq0
        cases h
        have e0 := ae_w_set ad ro dA σ.2 p (.inl (3, n, .inr (.inl (vp_updL f i.toNatClampNeg x))))
        exact va_last hx hb hK hP hD hS p 3 (ae_w_get he0) rfl hq hdg (fun H1 locs1 hP1 hD1 hS1 => G ad H1 locs1 cells slots ls (e0 ▸ hP1) (e0 ▸ hD1) hS1 hc hs hl had)
      · cases h
    · cases h
  · cases h
theorem ok_bas (X : ae_X p l e R s m args below meth c D dA ro A B ra own nm cc nL ret KF SF d)  (hdg : decode cc pc = .ok (.bastore, 1)) : ae_Ok p l e R s m args below meth c Q D dA ro A nL B ad0 n0 ra KF SF pc (o_bas (pc + 1)) := by
  obtain ⟨hx, hb, hml, hown, hts, hr, hlk, hnm, hK, hRO, hA, hfr, hlo, hKF, hSF⟩ := X
  intro σ L k σ' L' k' pc' h hcl hn0 hF G ad H locs cells slots ls hP hD hS hc hs hl had
  simp only [o_bas] at h
  split at h
  · rename_i x i p r
    split at h
    · rename_i t n f he0
      split at h
      · rename_i hq
        split at h
        · rename_i hq0
          subst hq0
          cases h
          have e0 := ae_w_set ad ro dA σ.2 p (.inl (1, n, .inl (upd f i.toNatClampNeg (vp_nar .byte x))))
          exact va_bast hx hb hK hP hD hS p 1 (ae_w_get he0) rfl hq hdg (fun H1 locs1 hP1 hD1 hS1 => G ad H1 locs1 cells slots ls (e0 ▸ hP1) (e0 ▸ hD1) hS1 hc hs hl had)
        · split at h
          · rename_i hq0
            subst hq0
            cases h
            have e0 := ae_w_set ad ro dA σ.2 p (.inl (2, n, .inl (upd f i.toNatClampNeg (vp_nar .boolean x))))
            exact va_zast hx hb hK hP hD hS p 2 (ae_w_get he0) rfl hq hdg (fun H1 locs1 hP1 hD1 hS1 => G ad H1 locs1 cells slots ls (e0 ▸ hP1) (e0 ▸ hD1) hS1 hc hs hl had)
          · cases h
      · cases h
    · cases h
  · cases h
theorem ok_aas (X : ae_X p l e R s m args below meth c D dA ro A B ra own nm cc nL ret KF SF d)  (hdg : decode cc pc = .ok (.aastore, 1)) : ae_Ok p l e R s m args below meth c Q D dA ro A nL B ad0 n0 ra KF SF pc (o_aas (pc + 1)) := by
  obtain ⟨hx, hb, hml, hown, hts, hr, hlk, hnm, hK, hRO, hA, hfr, hlo, hKF, hSF⟩ := X
  intro σ L k σ' L' k' pc' h hcl hn0 hF G ad H locs cells slots ls hP hD hS hc hs hl had
  simp only [o_aas] at h
  split at h
  · rename_i q i p r
    split at h
    · rename_i t n f ci vs he0 he1
      split at h
      · rename_i hq
        obtain ⟨⟨hq1, hq2, hq3⟩, hq⟩ := hq
        cases h
        obtain ⟨r0, hr0, ht0⟩ := ae_ty_o dA ⟨hq1, hq2⟩
        have e0 := ae_w_set ad ro dA σ.2 p (.inl (t, n, .inr (.inr (.inr (.inr (va_up f i.toNatClampNeg (some q)))))))
        simp only [ae_c, ae_a, ae_upm, Option.map_some] at e0
        exact va_astq hx hb hK hP hD hS p t q ci (ae_w_get he0) ht0 (ae_w_get he1) (hq3 ▸ hr0) hq hdg (fun H1 locs1 hP1 hD1 hS1 => G ad H1 locs1 cells slots ls (e0 ▸ hP1) (e0 ▸ hD1) hS1 hc hs hl had)
      · cases h
    · cases h
  · rename_i i p r
    split at h
    · rename_i t n f he0
      split at h
      · rename_i hq
        cases h
        obtain ⟨r0, hr0, ht0⟩ := ae_ty_o dA hq.1
        have e0 := ae_w_set ad ro dA σ.2 p (.inl (t, n, .inr (.inr (.inr (.inr (va_up f i.toNatClampNeg none))))))
        simp only [ae_c, ae_a, ae_upm, Option.map_none] at e0
        exact va_astqN hx hb hK hP hD hS p t (ae_w_get he0) ht0 hq.2 hdg (fun H1 locs1 hP1 hD1 hS1 => G ad H1 locs1 cells slots ls (e0 ▸ hP1) (e0 ▸ hD1) hS1 hc hs hl had)
      · cases h
    · cases h
  · cases h
theorem ok_len (X : ae_X p l e R s m args below meth c D dA ro A B ra own nm cc nL ret KF SF d)  (hdg : decode cc pc = .ok (.arraylength, 1)) : ae_Ok p l e R s m args below meth c Q D dA ro A nL B ad0 n0 ra KF SF pc (o_len (pc + 1)) := by
  obtain ⟨hx, hb, hml, hown, hts, hr, hlk, hnm, hK, hRO, hA, hfr, hlo, hKF, hSF⟩ := X
  intro σ L k σ' L' k' pc' h hcl hn0 hF G ad H locs cells slots ls hP hD hS hc hs hl had
  simp only [o_len] at h
  split at h
  · rename_i p r
    split at h
    · rename_i t n x he0
      split at h
      · rename_i hq
        cases h
        obtain ⟨ty, ht0⟩ := ae_ty_a dA hq
        exact va_alen hx hb hK hP p t (ae_w_get he0) ht0 rfl hdg (G ad H locs cells slots ls hP hD hS hc hs hl had)
      · cases h
    · cases h
  · rename_i q r
    split at h
    · rename_i hq
      cases h
      exact va_tlen hx hb (hRO.1 q hq) hS rfl hdg (G ad H locs cells slots ls hP hD hS hc hs hl had)
    · cases h
  · cases h
theorem ok_new (X : ae_X p l e R s m args below meth c D dA ro A B ra own nm cc nL ret KF SF d) {C : String} {T : u_T} {N ci index : Nat} {fs : List Value} (hci : classes[ci]? = some (C, T, N)) (hin : ∀ w ∈ u_ws C T N, w ∈ aw_all) (ty0 : Nat → FieldType) (hty : ∀ k, k < N → parseFieldDescriptor (T k).2.2.1 = some (ty0 k)) (hw1 : Jvm.Cond.classLink own index C ∈ aw_all) (hw2 : Jvm.Cond.instantiable C N ∈ aw_all) (hw3 : Jvm.Cond.initialized C ∈ aw_all) (hfs : ∀ j, j < N → defaultValue (ty0 j) = vp_V fs j) (hfc : ∀ ad ro : Nat → Nat, fs.map (ae_v ad ro) = fs) (hfl : ∀ n, ∀ v ∈ fs, ae_cv n v) (hdg : decode cc pc = .ok (.new index, 3)) : ae_Ok p l e R s m args below meth c Q D dA ro A nL B ad0 n0 ra KF SF pc (o_new ci N fs (pc + 3)) := by
  obtain ⟨hx, hb, hml, hown, hts, hr, hlk, hnm, hK, hRO, hA, hfr, hlo, hKF, hSF⟩ := X
  intro σ L k σ' L' k' pc' h hcl hn0 hF G ad H locs cells slots ls hP hD hS hc hs hl had
  simp only [o_new] at h
  cases h
  have hF1 : σ.1.1 + 1 ≤ KF := hF.1
  have hF2 : σ.1.2 + N ≤ SF := hF.2
  refine va_new (D := D) (c0 := c) hx hb hts hin ty0 hty hown (hts _ hw1) (hts _ hw2) (hts _ hw3) hK hP hD hS hA hci (fs := fs) hfs (by omega) (by omega) hdg (fun q H1 hP1 hD1 hS1 => ?_)
  have e0 := ae_w_push (ad := ad) (ro := ro) (dA := dA) q (.inr (ci, fs)) hcl.1 (hfl _)
  simp only [ae_c, hfc] at e0
  have e3 : (Value.ref σ.2.length :: k).map (ae_v (ae_up ad σ.2.length q) ro) = .ref q :: k.map (ae_v ad ro) := by
    rw [List.map_cons, ae_k_eq ae_up_lt hcl.2.2]
    simp [ae_v, ae_up_self]
  have G2 := G (ae_up ad σ.2.length q) H1 locs (cells + 1) (slots + N) ls (by rw [e0]; exact hP1) (by rw [e0]; exact hD1) hS1 (by show B.1 + (cells + 1) = σ.1.1 + 1; omega) (by show B.2 + (slots + N) = σ.1.2 + N; omega) (ae_L_up ae_up_lt hcl.2.1 hl) (fun z hz => by rw [ae_up_lt z (by omega)]; exact had z hz)
  rw [e3] at G2
  exact G2
theorem ok_na (X : ae_X p l e R s m args below meth c D dA ro A B ra own nm cc nL ret KF SF d) {atype : ArrayType} {t : Nat} {ty : FieldType} (hat : newarray.typeOf atype = ty) (htt : ∀ dA : Nat → ClassId, (ae_ty dA)[t]? = some (dA t, ty)) (hw : Jvm.Cond.arrayClass (newarray.typeOf atype) ∈ aw_all) (hz : ∀ (cA : ClassId) (n : Nat), vp_cell cA (ae_zero t n) = arrV cA n (fun _ => defaultValue ty)) (hcb : componentBytes ty ≤ 8) (hza : ∀ (ad : Nat → Nat) (n : Nat), ae_a ad (ae_zero t n) = ae_zero t n) (hdg : decode cc pc = .ok (.newarray atype, 2)) : ae_Ok p l e R s m args below meth c Q D dA ro A nL B ad0 n0 ra KF SF pc (o_na t (pc + 2)) := by
  obtain ⟨hx, hb, hml, hown, hts, hr, hlk, hnm, hK, hRO, hA, hfr, hlo, hKF, hSF⟩ := X
  intro σ L k σ' L' k' pc' h hcl hn0 hF G ad H locs cells slots ls hP hD hS hc hs hl had
  simp only [o_na] at h
  split at h
  case h_2 => cases h
  rename_i i r
  split at h
  case isFalse => cases h
  rename_i hq
  cases h
  have hF1 : σ.1.1 + 1 ≤ KF := hF.1
  have hF2 : σ.1.2 + i.toNatClampNeg ≤ SF := hF.2
  refine va_newa (D := D) hx hb (hts _ hw) hat hK hP hD hS hA (a0 := ae_zero t i.toNatClampNeg) (fun cA => hz cA _) hq.1 rfl (Nat.le_trans (Nat.mul_le_mul_left _ hcb) hq.2) (by omega) (by omega) hdg (fun q cA H1 hK1 hP1 hD1 hS1 => ?_)
  have hcA : cA = dA t := ae_uq (hK1.2 (ae_ty dA).length (cA, ty) (by simp)).2 (hK.2 t _ (htt dA)).2
  subst hcA
  have e0 := ae_w_push (ad := ad) (ro := ro) (dA := dA) q (.inl (t, ae_zero t i.toNatClampNeg)) hcl.1 (cc_zero _ _ _)
  simp only [ae_c, hza] at e0
  have e3 : (Value.ref σ.2.length :: r).map (ae_v (ae_up ad σ.2.length q) ro) = .ref q :: r.map (ae_v ad ro) := by
    rw [List.map_cons, ae_k_eq ae_up_lt (ck_t hcl.2.2)]
    simp [ae_v, ae_up_self]
  have G2 := G (ae_up ad σ.2.length q) H1 locs (cells + 1) (slots + i.toNatClampNeg) ls (by rw [e0]; exact hP1) (by rw [e0]; exact hD1) hS1 (by show B.1 + (cells + 1) = σ.1.1 + 1; omega) (by show B.2 + (slots + i.toNatClampNeg) = σ.1.2 + i.toNatClampNeg; omega) (ae_L_up ae_up_lt hcl.2.1 hl) (fun z hz => by rw [ae_up_lt z (by omega)]; exact had z hz)
  rw [e3] at G2
  exact G2
theorem ok_nq (X : ae_X p l e R s m args below meth c D dA ro A B ra own nm cc nL ret KF SF d) {t index : Nat} {C : String} (htt : ∀ dA : Nat → ClassId, (ae_ty dA)[t]? = some (dA t, .object C)) (hw1 : Jvm.Cond.classLink own index C ∈ aw_all) (hw2 : Jvm.Cond.arrayOver (.object C) ∈ aw_all) (hdg : decode cc pc = .ok (.anewarray index, 3)) : ae_Ok p l e R s m args below meth c Q D dA ro A nL B ad0 n0 ra KF SF pc (o_nq t (pc + 3)) := by
  obtain ⟨hx, hb, hml, hown, hts, hr, hlk, hnm, hK, hRO, hA, hfr, hlo, hKF, hSF⟩ := X
  intro σ L k σ' L' k' pc' h hcl hn0 hF G ad H locs cells slots ls hP hD hS hc hs hl had
  simp only [o_nq] at h
  split at h
  case h_2 => cases h
  rename_i i r
  split at h
  case isFalse => cases h
  rename_i hq
  cases h
  have hF1 : σ.1.1 + 1 ≤ KF := hF.1
  have hF2 : σ.1.2 + i.toNatClampNeg ≤ SF := hF.2
  refine va_newq (D := D) hx hb hown (hts _ hw1) (va_AO.of (hts _ hw2)) hK hP hD hS hA hq.1 rfl (by omega) (by omega) (by omega) hdg (fun q cA H1 hK1 hP1 hD1 hS1 => ?_)
  have hcA : cA = dA t := ae_uq (hK1.2 (ae_ty dA).length (cA, .object C) (by simp)).2 (hK.2 t _ (htt dA)).2
  subst hcA
  have e0 := ae_w_push (ad := ad) (ro := ro) (dA := dA) q (.inl (t, i.toNatClampNeg, .inr (.inr (.inr (.inr (fun _ => none)))))) hcl.1 (fun i p hp => by cases hp)
  simp only [ae_c, ae_a, Option.map_none] at e0
  have e3 : (Value.ref σ.2.length :: r).map (ae_v (ae_up ad σ.2.length q) ro) = .ref q :: r.map (ae_v ad ro) := by
    rw [List.map_cons, ae_k_eq ae_up_lt (ck_t hcl.2.2)]
    simp [ae_v, ae_up_self]
  have G2 := G (ae_up ad σ.2.length q) H1 locs (cells + 1) (slots + i.toNatClampNeg) ls (by rw [e0]; exact hP1) (by rw [e0]; exact hD1) hS1 (by show B.1 + (cells + 1) = σ.1.1 + 1; omega) (by show B.2 + (slots + i.toNatClampNeg) = σ.1.2 + i.toNatClampNeg; omega) (ae_L_up ae_up_lt hcl.2.1 hl) (fun z hz => by rw [ae_up_lt z (by omega)]; exact had z hz)
  rw [e3] at G2
  exact G2
theorem ok_oi (X : ae_X p l e R s m args below meth c D dA ro A B ra own nm cc nL ret KF SF d) {index : Nat} (hw1 : Jvm.Cond.methodLink own index Lib.objectInit ∈ aw_all) (hw2 : Jvm.Cond.instanceMethod Lib.objectInit ∈ aw_all) (hw3 : Jvm.Cond.code Lib.objectInit ⟨#[0xb1]⟩ 1 none ∈ aw_all) (hdg : decode cc pc = .ok (.invokespecial index, 3)) : ae_Ok p l e R s m args below meth c Q D dA ro A nL B ad0 n0 ra KF SF pc (o_oi (pc + 3)) := by
  obtain ⟨hx, hb, hml, hown, hts, hr, hlk, hnm, hK, hRO, hA, hfr, hlo, hKF, hSF⟩ := X
  intro σ L k σ' L' k' pc' h hcl hn0 hF G ad H locs cells slots ls hP hD hS hc hs hl had
  simp only [o_oi] at h
  split at h
  · rename_i p r
    split at h
    · rename_i hq
      cases h
      have hq2 : ((k'.map (ae_v ad ro)).map fun v => v.category).sum ≤ 8 := by rw [ae_cat_map]; exact hq
      have hq3 := lv_room (m := m) (pc := pc) (ls := ls) (rest := (Value.ref p :: k').map (ae_v ad ro)) hq2
      exact W.objInit hx hb hown (hts _ hw1) (hts _ hw2) (hts _ hw3) rfl (hl.2.1.trans hml.symm) (a := ad p) (rest := k'.map (ae_v ad ro)) rfl hdg (by omega) (by omega) (G ad H locs cells slots ls hP hD hS hc hs hl had)
    · cases h
  · cases h
theorem ok_mn (X : ae_X p l e R s m args below meth c D dA ro A B ra own nm cc nL ret KF SF d) {index : Nat} (hw1 : Jvm.Cond.methodLink own index Lib.Math.min.name ∈ aw_all) (hw2 : Jvm.Cond.static Lib.Math.min.name ∈ aw_all) (hw3 : Jvm.Cond.initialized "java/lang/Math" ∈ aw_all) (hw4 : Jvm.Cond.code Lib.Math.min.name Lib.Math.min.code 2 (some .int) ∈ aw_all) (hdg : decode cc pc = .ok (.invokestatic index, 3)) : ae_Ok p l e R s m args below meth c Q D dA ro A nL B ad0 n0 ra KF SF pc (o_mn (pc + 3)) := by
  obtain ⟨hx, hb, hml, hown, hts, hr, hlk, hnm, hK, hRO, hA, hfr, hlo, hKF, hSF⟩ := X
  intro σ L k σ' L' k' pc' h hcl hn0 hF G ad H locs cells slots ls hP hD hS hc hs hl had
  simp only [o_mn] at h
  split at h
  · rename_i y x r
    split at h
    · rename_i hq
      cases h
      have hq2 : ((r.map (ae_v ad ro)).map fun v => v.category).sum ≤ 8 := by rw [ae_cat_map]; exact hq
      have hF1 : σ.1.1 ≤ KF := hF.1
      have hF2 : σ.1.2 ≤ SF := hF.2
      exact va_mmin hx hb (hml.trans hl.2.1.symm) hown (hts _ hw1) (hts _ hw2) (hts _ hw3) (hts _ hw4) (by omega) (by omega) (by omega) (by omega) hdg (G ad H locs cells slots ls hP hD hS hc hs hl had)
    · cases h
  · cases h
theorem ok_mx (X : ae_X p l e R s m args below meth c D dA ro A B ra own nm cc nL ret KF SF d) {index : Nat} (hw1 : Jvm.Cond.methodLink own index Lib.Math.max.name ∈ aw_all) (hw2 : Jvm.Cond.static Lib.Math.max.name ∈ aw_all) (hw3 : Jvm.Cond.initialized "java/lang/Math" ∈ aw_all) (hw4 : Jvm.Cond.code Lib.Math.max.name Lib.Math.max.code 2 (some .int) ∈ aw_all) (hdg : decode cc pc = .ok (.invokestatic index, 3)) : ae_Ok p l e R s m args below meth c Q D dA ro A nL B ad0 n0 ra KF SF pc (o_mx (pc + 3)) := by
  obtain ⟨hx, hb, hml, hown, hts, hr, hlk, hnm, hK, hRO, hA, hfr, hlo, hKF, hSF⟩ := X
  intro σ L k σ' L' k' pc' h hcl hn0 hF G ad H locs cells slots ls hP hD hS hc hs hl had
  simp only [o_mx] at h
  split at h
  · rename_i y x r
    split at h
    · rename_i hq
      cases h
      have hq2 : ((r.map (ae_v ad ro)).map fun v => v.category).sum ≤ 8 := by rw [ae_cat_map]; exact hq
      have hF1 : σ.1.1 ≤ KF := hF.1
      have hF2 : σ.1.2 ≤ SF := hF.2
      exact va_mmax hx hb (hml.trans hl.2.1.symm) hown (hts _ hw1) (hts _ hw2) (hts _ hw3) (hts _ hw4) (by omega) (by omega) (by omega) (by omega) hdg (G ad H locs cells slots ls hP hD hS hc hs hl had)
    · cases h
  · cases h
theorem ok_cp (X : ae_X p l e R s m args below meth c D dA ro A B ra own nm cc nL ret KF SF d) {index : Nat} (hw1 : Jvm.Cond.methodLink own index arraycopyName ∈ aw_all) (hw2 : Jvm.Cond.native arraycopyName ∈ aw_all) (hw3 : Jvm.Cond.static arraycopyName ∈ aw_all) (hw4 : Jvm.Cond.initialized "java/lang/System" ∈ aw_all) (hnf : nativeFrameWords "java/lang/System" "arraycopy" 5 ≤ 21) (hdg : decode cc pc = .ok (.invokestatic index, 3)) : ae_Ok p l e R s m args below meth c Q D dA ro A nL B ad0 n0 ra KF SF pc (o_cp (pc + 3)) := by
  obtain ⟨hx, hb, hml, hown, hts, hr, hlk, hnm, hK, hRO, hA, hfr, hlo, hKF, hSF⟩ := X
  intro σ L k σ' L' k' pc' h hcl hn0 hF G ad H locs cells slots ls hP hD hS hc hs hl had
  simp only [o_cp] at h
  split at h
  · rename_i n dp p sp q r
    split at h
    · rename_i t0 na f t1 nb g he0 he1
      split at h
      · rename_i hq
        obtain ⟨⟨hq0, hq1, hqc⟩, ⟨hs1, hs2, hs3⟩, hs4, hs5, hs6⟩ := hq
        subst hq0
        subst hq1
        cases h
        have hq2 : ((k'.map (ae_v ad ro)).map fun v => v.category).sum ≤ 8 := by rw [ae_cat_map]; exact hqc
        have e0 := ae_w_set ad ro dA σ.2 p (.inl (1, nb, .inl (va_cpy f g sp.toNatClampNeg dp.toNatClampNeg n.toNatClampNeg)))
        exact va_copyi hx hb (hml.trans hl.2.1.symm) hown (hts _ hw1) (hts _ hw2) (hts _ hw3) (hts _ hw4) hK hP hD hS q p 1 1 (ae_w_get he0) (ae_w_get he1) rfl rfl rfl hs1 hs2 hs3 hs4 hs5 hs6 (by omega) (by omega) hdg (fun H1 locs1 hP1 hD1 hS1 => G ad H1 locs1 cells slots ls (e0 ▸ hP1) (e0 ▸ hD1) hS1 hc hs hl had)
      · cases h
    · cases h
  · cases h
theorem ok_gst (X : ae_X p l e R s m args below meth c D dA ro A B ra own nm cc nL ret KF SF d) {q : Nat} {C n dd : String} {index : Nat} (hz : va_Z C n dd (.ref (ro q)) A s s.heap) (hw : Jvm.Cond.fieldLink own index C n dd ∈ aw_all) (hdg : decode cc pc = .ok (.getstatic index, 3)) : ae_Ok p l e R s m args below meth c Q D dA ro A nL B ad0 n0 ra KF SF pc (o_push (.retAddr q) (pc + 3)) := by
  obtain ⟨hx, hb, hml, hown, hts, hr, hlk, hnm, hK, hRO, hA, hfr, hlo, hKF, hSF⟩ := X
  intro σ L k σ' L' k' pc' h hcl hn0 hF G ad H locs cells slots ls hP hD hS hc hs hl had
  simp only [o_push] at h
  cases h
  exact va_gets hx hb hz hS hown (hts _ hw) (fun _ z => z) hdg (G ad H locs cells slots ls hP hD hS hc hs hl had)
end AEH
end
section
section AEC
abbrev ae_K : Type := Nat × Nat × Nat × Option Nat × List (Nat × Nat × Nat)
abbrev ae_I : Type := ae_Op ⊕ (Option (Value → Bool) ⊕ (ae_K ⊕ (Nat × Nat × Nat)))
abbrev ae_O : Type := Option Value ⊕ Nat
abbrev ae_Ev : Type := Nat → List Value → ae_S → Option (ae_S × ae_O)
abbrev ae_Am : Type := Nat → MethodName × ByteArray × Nat × Option FieldType
abbrev ae_At : Type := Nat → List (Nat × ae_I)
def ae_tab (t : List (Nat × ae_I)) (pc : Nat) : Option ae_I := (t.find? (fun q => q.1 == pc)).map (fun q => q.2)
/-- the receiver is an object of that class -/
def ae_rcv (σ : ae_S) : Option Nat → List Value → Bool
  | none, _ => true
  | some ci, .ref p :: _ => (match σ.2[p]? with
    | some (.inr (cj, _)) => cj == ci
    | _ => false)
  | some _, _ => false
def ae_run (ra : ae_R) (t : List (Nat × ae_I)) (E : ae_Ev) : Nat → ae_S → ae_Ls → List Value → Nat → Option (ae_S × ae_O)
  | 0, _, _, _, _ => none
  | n + 1, σ, L, k, pc => match ae_tab t pc with
    | none => none
    | some (.inl f) => (match f ra σ L k with
      | none => none
      | some (σ', L', k', pc') => ae_run ra t E n σ' L' k' pc')
    | some (.inr (.inl none)) => (match k with
      | [] => some (σ, .inl none)
      | _ => none)
    | some (.inr (.inl (some ok))) => (match k with
      | [v] => if ok v = true then some (σ, .inl (some v)) else none
      | _ => none)
    | some (.inr (.inr (.inl (mid, na, np, rc, hs)))) =>
      if na ≤ k.length ∧ ae_cat (k.drop na) ≤ 8 ∧ ae_rcv σ rc (k.take na).reverse = true ∧ (k.take na).all (fun v => v.category == 1) = true then
        (match E mid (k.take na).reverse σ with
        | none => none
        | some (σ', .inl v) => ae_run ra t E n σ' L (v.toList ++ k.drop na) np
        | some (σ', .inr x) => (match hs.find? (fun h => h.1 == x) with
          | none => none
          | some (_, hp, i) => ae_run ra t E n σ' (L.set i none) [] hp))
      else none
    | some (.inr (.inr (.inr (x, c1, c2)))) => some (((σ.1.1 + c1, σ.1.2 + c2), σ.2), .inr x)
def ae_ent (args : List Value) (nL : Nat) : ae_Ls := args.map some ++ List.replicate (nL - args.length) none
def ae_ev (am : ae_Am) (at0 : ae_At) (ra : ae_R) : Nat → Nat → ae_Ev
  | 0, _ => fun _ _ _ => none
  | d + 1, n => fun mid args σ => if args.length ≤ (am mid).2.2.1 then ae_run ra (at0 mid) (ae_ev am at0 ra d n) n σ (ae_ent args (am mid).2.2.1) [] 0 else none
def ae_pre (D : va_G) (dA : Nat → ClassId) (ro : Nat → Nat) (ra : ae_R) (ad : Nat → Nat) (σ : ae_S) (sz : Nat) (U : State) : Prop :=
  U.heap.size = sz ∧ va_P D classes (ae_w ad ro dA σ.2) U.heap ∧ va_K D classes (ae_ty dA) U ∧ va_D (fun _ => True) (ae_w ad ro dA σ.2) ∧ ae_RO ra ro (va_A (ae_w ad ro dA σ.2) sz) U U.heap ∧ (∀ w ∈ aw_all, w.before #[] U = true)
def ae_pst (D : va_G) (dA : Nat → ClassId) (ro : Nat → Nat) (ad : Nat → Nat) (σ : ae_S) (sz : Nat) (σ' : ae_S) (r : Option Value) : Array Value → State → Outcome → State → Prop := fun _ st oc t =>
  (∃ ad' : Nat → Nat, (∀ q, q < σ.2.length → ad' q = ad q) ∧ oc = .returned (r.map (ae_v ad' ro)) ∧ va_P D classes (ae_w ad' ro dA σ'.2) t.heap ∧ va_D (va_A (ae_w ad ro dA σ.2) sz) (ae_w ad' ro dA σ'.2)) ∧ va_F (va_A (ae_w ad ro dA σ.2) sz) st t
def ae_rm (d : Nat) (σ σ' : ae_S) : Room := { frames := d, cells := σ'.1.1 - σ.1.1, slots := σ'.1.2 - σ.1.2, locals := 40 * d }
def ae_M (l : Launch) (am : ae_Am) (ra : ae_R) (d mid : Nat) (args : List Value) (σ σ' : ae_S) (r : Option Value) : Prop :=
  ∀ (D : va_G) (dA : Nat → ClassId) (ro ad : Nat → Nat) (sz : Nat), Met l (am mid).1 [Jvm.Cond.code (am mid).1 (am mid).2.1 (am mid).2.2.1 (am mid).2.2.2] (ae_rm d σ σ')
    (va_Pc (args.map (ae_v ad ro)) (ae_pre D dA ro ra ad σ sz)) (ae_pst D dA ro ad σ sz σ' r) (σ'.1.1 - σ.1.1) (σ'.1.2 - σ.1.2) (va_A (ae_w ad ro dA σ.2) sz)
/-- what a call leaves -/
def ae_gd (σ σ' : ae_S) (o : ae_O) : Prop := ae_cs σ' ∧ (∀ v, o = .inl (some v) → ae_cv σ'.2.length v) ∧ σ.1.1 ≤ σ'.1.1 ∧ σ.1.2 ≤ σ'.1.2 ∧ σ.2.length ≤ σ'.2.length
theorem ae_blind {D : va_G} {dA : Nat → ClassId} {ro : Nat → Nat} {ra : ae_R} {ad : Nat → Nat} {σ : ae_S} {sz : Nat} {av : List Value} : FrameBlind (va_Pc av (ae_pre D dA ro ra ad σ sz)) := by
  intro a U g mk q
  obtain ⟨q0, q1, qP, qK, qD, qR, qW⟩ := q
  exact ⟨q0, q1, qP, va_K.moved (u := U) (U := U.calling g mk a) (Vm.Alike.refl U.vm) qK, qD, ae_RO.moved (u := U) (U := U.calling g mk a) (Vm.Alike.refl U.vm) qR, aw_warmAll (s := U) (U := U.calling g mk a) (State.WarmedH.refl U) qW⟩
end AEC
section AEG
variable {p : Program} {l : Launch} {e : Env} {R : Room} {s : State} {m : MethodId} {args : Array Value} {below : List Frame} {meth : Method} {c : Code} {Q : State → Prop}
variable {D : va_G} {dA : Nat → ClassId} {ro : Nat → Nat} {A : Nat → Prop} {nL : Nat} {B : Nat × Nat} {ad0 : Nat → Nat} {n0 : Nat}
variable {ra : Nat → Nat × (Nat → Int32)} {own nm : String} {cc : ByteArray} {ret : Option FieldType} {KF SF d : Nat} {pc : Nat}
variable {am : ae_Am}
theorem ae_F0 {σ : ae_S} {ad : Nat → Nat} {H : Heap} {locs : List Loc} (hD : va_D A (ae_w ad ro dA σ.2)) (hS : va_S A s.heap H locs) (hA : ∀ q, s.heap.size ≤ q → A q) : ∀ q, va_A (ae_w ad ro dA σ.2) H.size q → A q := fun q h => by
  rcases h with ⟨k, e0, h⟩ | h
  · exact hD.2 k _ h
  · exact hA q (Nat.le_trans hS.1 h)
theorem ae_preU (X : ae_X p l e R s m args below meth c D dA ro A B ra own nm cc nL ret KF SF d) {σ : ae_S} {ad : Nat → Nat} {H : Heap} {locs : List Loc} (hP : va_P D classes (ae_w ad ro dA σ.2) H) (hD : va_D A (ae_w ad ro dA σ.2)) (hS : va_S A s.heap H locs) : ∀ U : State, U.heap = H → s.WarmedH U.vm → ae_pre D dA ro ra ad σ H.size U := by
  obtain ⟨hx, hb, hml, hown, hts, hr, hlk, hnm, hK, hRO, hA, hfr, hlo, hKF, hSF⟩ := X
  intro U hU hW
  have hR1 : ae_RO ra ro (va_A (ae_w ad ro dA σ.2) H.size) U H := ((hRO.kept (fun a h1 h2 => hS.2.1 a h1 h2)).narrow (ae_F0 hD hS hA)).moved hW.alike
  exact ⟨by rw [hU], by rw [hU]; exact hP, va_K.moved hW.alike hK, hD.weaken (fun _ _ _ _ => trivial), by rw [hU]; exact hR1, aw_warmAll hW hts⟩
/-- a call, as the store sees it -/
def ae_Rn (p : Program) (l : Launch) (e : Env) (R : Room) (s : State) (m : MethodId) (args : Array Value) (below : List Frame) (meth : Method) (c : Code) (D : va_G) (dA : Nat → ClassId) (ro : Nat → Nat) (A : Nat → Prop) (nL : Nat) (B : Nat × Nat) (KF SF pc : Nat) (args0 rest : List Value) (σ σ' : ae_S) (L : ae_Ls) (r : Option Value) : Prop :=
  ∀ (ad : Nat → Nat) (H : Heap) (locs : List Loc) (cells slots : Nat) (ls : Array Slot), va_P D classes (ae_w ad ro dA σ.2) H → va_D A (ae_w ad ro dA σ.2) → va_S A s.heap H locs → B.1 + cells = σ.1.1 → B.2 + slots = σ.1.2 → ae_L ad ro nL L ls →
    va_Run p l e R s m args below meth c H locs cells slots (σ'.1.1 - σ.1.1) (σ'.1.2 - σ.1.2) (F0 m pc ls ((args0.reverse ++ rest).map (ae_v ad ro))) (rest.map (ae_v ad ro)) (ae_pst D dA ro ad σ H.size σ' r (args0.map (ae_v ad ro)).toArray) (va_A (ae_w ad ro dA σ.2) H.size)
theorem ae_goCall (X : ae_X p l e R s m args below meth c D dA ro A B ra own nm cc nL ret KF SF d) {σ σ' : ae_S} {L : ae_Ls} {args0 rest : List Value} {r : Option Value} (hrn : ae_Rn p l e R s m args below meth c D dA ro A nL B KF SF pc args0 rest σ σ' L r)
    (hcl : ae_cl σ L (args0.reverse ++ rest)) (hn0 : n0 ≤ σ.2.length) (hg : ae_gd σ σ' (.inl r)) (G0 : ae_Go p l e R s m args below meth c Q D dA ro A nL B ad0 n0 σ' L (r.toList ++ rest) (pc + 3)) : ae_Go p l e R s m args below meth c Q D dA ro A nL B ad0 n0 σ L (args0.reverse ++ rest) pc := by
  obtain ⟨hx, hb, hml, hown, hts, hr, hlk, hnm, hK, hRO, hA, hfr, hlo, hKF, hSF⟩ := X
  intro ad H locs cells slots ls hP hD hS hc hs hl had T hT XS
  obtain ⟨v, st₀, t, T', L2, h0, X', hL, e1, e2, ⟨⟨ad', hag, hv, hP', hD'⟩, hz, hk⟩, st⟩ := hrn ad H locs cells slots ls hP hD hS hc hs hl T hT XS
  cases hv
  rw [h0] at hz hk
  have hF := ae_F0 hD hS hA
  have hS' : va_S A s.heap T'.heap (locs ++ L2) := ⟨Nat.le_trans hS.1 (by rw [e1]; exact hz), fun q h1 h2 => by rw [e1, hk q (Nat.lt_of_lt_of_le h1 hS.1) (fun z => h2 (hF q z))]; exact hS.2.1 q h1 h2, fun q hq => by
      rcases List.mem_append.mp hq with h | h
      · exact hS.2.2 q h
      · exact hF _ (hL q h)⟩
  obtain ⟨g1, g2, g3, g4, g5⟩ := hg
  have hrest : ae_ck σ.2.length rest := fun u hu => hcl.2.2 u (List.mem_append_right _ hu)
  have G2 := G0 ad' T'.heap (locs ++ L2) (cells + (σ'.1.1 - σ.1.1)) (slots + (σ'.1.2 - σ.1.2)) ls (by rw [e1]; exact hP') (hD'.weaken (fun _ _ _ h => hF _ h)) hS' (by omega) (by omega) (ae_L_up hag hcl.2.1 hl) (fun q hq => by rw [hag q (by omega)]; exact had q hq)
  have e3 : (r.toList ++ rest).map (ae_v ad' ro) = (r.map (ae_v ad' ro)).toList ++ rest.map (ae_v ad ro) := by
    rw [List.map_append, ae_k_eq hag hrest]
    cases r <;> rfl
  rw [e3] at G2
  obtain ⟨t2, a1, b1⟩ := G2 T' rfl X'
  exact ⟨t2, st t2 a1, b1⟩
/-- the callee's side of a call -/
theorem ae_cb (X : ae_X p l e R s m args below meth c D dA ro A B ra own nm cc nL ret KF SF d) {mid : Nat} {y : MethodName} {bytes : ByteArray} {maxL n : Nat} {rt : Option FieldType} {σ σ' : ae_S} (hwc : Jvm.Cond.code y bytes maxL rt ∈ aw_all) (hm : maxL ≤ 21) :
    (ae_rm d σ σ').cells = σ'.1.1 - σ.1.1 ∧ (ae_rm d σ σ').slots = σ'.1.2 - σ.1.2 ∧ (ae_rm d σ σ').frames + 1 ≤ R.frames ∧ 8 + (maxL + 11) + (ae_rm d σ σ').locals ≤ R.locals ∧ (∀ w ∈ [Jvm.Cond.code y bytes maxL rt], ∀ (a' : Array Value) (U : State), s.WarmedH U.vm → w.before a' U = true) ∧ Jvm.Cond.code y bytes maxL rt ∈ [Jvm.Cond.code y bytes maxL rt] := by
  obtain ⟨hx, hb, hml, hown, hts, hr, hlk, hnm, hK, hRO, hA, hfr, hlo, hKF, hSF⟩ := X
  refine ⟨rfl, rfl, hfr, ?_, fun w hw a' U hW => ?_, List.mem_singleton.mpr rfl⟩
  · show 8 + (maxL + 11) + 40 * d ≤ R.locals
    omega
  · rw [List.mem_singleton.mp hw]
    exact aw_warm hW (List.mem_filter.mp hwc).2 (hts _ hwc)
theorem ae_par {y : MethodName} {n : Nat} (h : (parseMethodDescriptor y.desc).map (fun d => d.parameters.length) = some n) : ∀ sig, parseMethodDescriptor y.desc = some sig → n = sig.parameters.length := fun sig hs => by
  rw [hs] at h
  exact (Option.some.inj h).symm
def ae_hy (y : MethodName) : Prop := y.cls ≠ "java/lang/invoke/MethodHandle" ∧ y.cls ≠ "java/lang/invoke/VarHandle"
/-- a call of mid at pc -/
def ae_CO (p : Program) (l : Launch) (e : Env) (R : Room) (s : State) (m : MethodId) (args : Array Value) (below : List Frame) (meth : Method) (c : Code) (Q : State → Prop) (D : va_G) (dA : Nat → ClassId) (ro : Nat → Nat) (A : Nat → Prop) (nL : Nat) (B : Nat × Nat) (ad0 : Nat → Nat) (n0 : Nat) (am : ae_Am) (ra : ae_R) (KF SF d pc mid na np : Nat) (rc : Option Nat) : Prop :=
  ∀ (σ : ae_S) (L : ae_Ls) (args0 rest : List Value) (σ' : ae_S) (r : Option Value), args0.length = na → ae_cat rest ≤ 8 → ae_rcv σ rc args0 = true → ae_M l am ra d mid args0 σ σ' r → ae_cl σ L (args0.reverse ++ rest) → n0 ≤ σ.2.length → ae_gd σ σ' (.inl r) → σ'.1.1 ≤ KF ∧ σ'.1.2 ≤ SF → ae_Go p l e R s m args below meth c Q D dA ro A nL B ad0 n0 σ' L (r.toList ++ rest) np → ae_Go p l e R s m args below meth c Q D dA ro A nL B ad0 n0 σ L (args0.reverse ++ rest) pc

theorem ok_callV (X : ae_X p l e R s m args below meth c D dA ro A B ra own nm cc nL ret KF SF d) {mid : Nat} {y : MethodName} {bytes : ByteArray} {maxL n index : Nat} {rt : Option FieldType} (hm : am mid = (y, bytes, maxL, rt)) (hmL : maxL ≤ 21) (hy : ae_hy y) (hpr : (parseMethodDescriptor y.desc).map (fun d => d.parameters.length) = some n) (hwc : Jvm.Cond.code y bytes maxL rt ∈ aw_all) (hwi : Jvm.Cond.initialized y.cls ∈ aw_all) (hwl : Jvm.Cond.methodLink own index y ∈ aw_all) (hwn : Jvm.Cond.instanceMethod y ∈ aw_all) (hws : Jvm.Cond.selects y.cls y y ∈ aw_all) {ci N : Nat} {T0 : u_T} (hci : classes[ci]? = some (y.cls, T0, N)) (hdg : decode cc pc = .ok (.invokevirtual index, 3)) : ae_CO p l e R s m args below meth c Q D dA ro A nL B ad0 n0 am ra KF SF d pc mid (n + 1) (pc + 3) (some ci) := by
  intro σ L args0 rest σ' r hna hcat hrc hM hcl hn0 hg hF G0
  obtain ⟨c1, c2, c3, c4, c5, c6⟩ := ae_cb (mid := mid) (n := n) (σ := σ) (σ' := σ') X hwc hmL
  refine ae_goCall X ?_ hcl hn0 hg G0
  have hpU := @ae_preU p l e R s m args below meth c D dA ro A nL B ra own nm cc ret KF SF d X
  obtain ⟨hx, hb, hml, hown, hts, hr, hlk, hnm, hK, hRO, hA, hfr, hlo, hKF, hSF⟩ := X
  intro ad H locs cells slots ls hP hD hS hc hs hl
  have hM1 := hM D dA ro ad H.size
  rw [hm] at hM1
  have hq2 : ((rest.map (ae_v ad ro)).map fun v => v.category).sum ≤ 8 := by rw [ae_cat_map]; exact hcat
  have hg3 := hg.2.2.1
  have hg4 := hg.2.2.2.1
  have hF1 := hF.1
  have hF2 := hF.2
  cases args0 with
  | nil => cases hrc
  | cons a0 as =>
    cases a0 with
    | ref p0 =>
      have hp0 : ∃ fs, σ.2[p0]? = some (.inr (ci, fs)) := by
        simp only [ae_rcv] at hrc
        split at hrc
        · rename_i cj fs he0
          exact ⟨fs, by rw [he0, beq_iff_eq.mp hrc]⟩
        · cases hrc
      obtain ⟨fs, he0⟩ := hp0
      exact va_runV (As := as.map (ae_v ad ro)) (rest := rest.map (ae_v ad ro)) (b := ad p0) ⟨hx, hb, hml, hown, hts⟩ hM1 ⟨⟨c1, c2, c3, c4, c5, c6, hts _ hwc, hts _ hwi, hy, ae_par hpr, hts _ hwl⟩, hts _ hwn, hts _ hws⟩ ⟨ae_blind, va_recv hK hP hci (ae_w_get he0), fun U hU hW => ⟨rfl, hpU hP hD hS U hU hW⟩⟩ rfl (by simpa using hna) hl.2.1 (by simp [ae_v]) (lv_room hq2) hdg ⟨by omega, by omega⟩
    | _ => cases hrc

theorem ok_callVN (X : ae_X p l e R s m args below meth c D dA ro A B ra own nm cc nL ret KF SF d) {mid : Nat} {y : MethodName} {bytes : ByteArray} {maxL n index : Nat} {rt : Option FieldType} (hm : am mid = (y, bytes, maxL, rt)) (hmL : maxL ≤ 21) (hy : ae_hy y) (hpr : (parseMethodDescriptor y.desc).map (fun d => d.parameters.length) = some n) (hwc : Jvm.Cond.code y bytes maxL rt ∈ aw_all) (hwi : Jvm.Cond.initialized y.cls ∈ aw_all) {host : String} (hwl : Jvm.Cond.methodLinkNest own index y host ∈ aw_all) (hwn : Jvm.Cond.instanceMethod y ∈ aw_all) (hws : Jvm.Cond.selects y.cls y y ∈ aw_all) {ci N : Nat} {T0 : u_T} (hci : classes[ci]? = some (y.cls, T0, N)) (hdg : decode cc pc = .ok (.invokevirtual index, 3)) : ae_CO p l e R s m args below meth c Q D dA ro A nL B ad0 n0 am ra KF SF d pc mid (n + 1) (pc + 3) (some ci) := by
  intro σ L args0 rest σ' r hna hcat hrc hM hcl hn0 hg hF G0
  obtain ⟨c1, c2, c3, c4, c5, c6⟩ := ae_cb (mid := mid) (n := n) (σ := σ) (σ' := σ') X hwc hmL
  refine ae_goCall X ?_ hcl hn0 hg G0
  have hpU := @ae_preU p l e R s m args below meth c D dA ro A nL B ra own nm cc ret KF SF d X
  obtain ⟨hx, hb, hml, hown, hts, hr, hlk, hnm, hK, hRO, hA, hfr, hlo, hKF, hSF⟩ := X
  intro ad H locs cells slots ls hP hD hS hc hs hl
  have hM1 := hM D dA ro ad H.size
  rw [hm] at hM1
  have hq2 : ((rest.map (ae_v ad ro)).map fun v => v.category).sum ≤ 8 := by rw [ae_cat_map]; exact hcat
  have hg3 := hg.2.2.1
  have hg4 := hg.2.2.2.1
  have hF1 := hF.1
  have hF2 := hF.2
  cases args0 with
  | nil => cases hrc
  | cons a0 as =>
    cases a0 with
    | ref p0 =>
      have hp0 : ∃ fs, σ.2[p0]? = some (.inr (ci, fs)) := by
        simp only [ae_rcv] at hrc
        split at hrc
        · rename_i cj fs he0
          exact ⟨fs, by rw [he0, beq_iff_eq.mp hrc]⟩
        · cases hrc
      obtain ⟨fs, he0⟩ := hp0
      exact va_runVN (As := as.map (ae_v ad ro)) (rest := rest.map (ae_v ad ro)) (b := ad p0) ⟨hx, hb, hml, hown, hts⟩ hM1 ⟨⟨⟨c1, c2, c3, c4, c5, c6⟩, hts _ hwc, hts _ hwi, hy, ae_par hpr, hts _ hwl⟩, hts _ hwn, hts _ hws⟩ ⟨ae_blind, va_recv hK hP hci (ae_w_get he0), fun U hU hW => ⟨rfl, hpU hP hD hS U hU hW⟩⟩ rfl (by simpa using hna) hl.2.1 (by simp [ae_v]) (lv_room hq2) hdg ⟨by omega, by omega⟩
    | _ => cases hrc

theorem ok_callS (X : ae_X p l e R s m args below meth c D dA ro A B ra own nm cc nL ret KF SF d) {mid : Nat} {y : MethodName} {bytes : ByteArray} {maxL n index : Nat} {rt : Option FieldType} (hm : am mid = (y, bytes, maxL, rt)) (hmL : maxL ≤ 21) (hy : ae_hy y) (hpr : (parseMethodDescriptor y.desc).map (fun d => d.parameters.length) = some n) (hwc : Jvm.Cond.code y bytes maxL rt ∈ aw_all) (hwi : Jvm.Cond.initialized y.cls ∈ aw_all) (hwl : Jvm.Cond.methodLink own index y ∈ aw_all) (hwn : Jvm.Cond.static y ∈ aw_all) (hdg : decode cc pc = .ok (.invokestatic index, 3)) : ae_CO p l e R s m args below meth c Q D dA ro A nL B ad0 n0 am ra KF SF d pc mid n (pc + 3) none := by
  intro σ L args0 rest σ' r hna hcat hrc hM hcl hn0 hg hF G0
  obtain ⟨c1, c2, c3, c4, c5, c6⟩ := ae_cb (mid := mid) (n := n) (σ := σ) (σ' := σ') X hwc hmL
  refine ae_goCall X ?_ hcl hn0 hg G0
  have hpU := @ae_preU p l e R s m args below meth c D dA ro A nL B ra own nm cc ret KF SF d X
  obtain ⟨hx, hb, hml, hown, hts, hr, hlk, hnm, hK, hRO, hA, hfr, hlo, hKF, hSF⟩ := X
  intro ad H locs cells slots ls hP hD hS hc hs hl
  have hM1 := hM D dA ro ad H.size
  rw [hm] at hM1
  have hq2 : ((rest.map (ae_v ad ro)).map fun v => v.category).sum ≤ 8 := by rw [ae_cat_map]; exact hcat
  have hg3 := hg.2.2.1
  have hg4 := hg.2.2.2.1
  have hF1 := hF.1
  have hF2 := hF.2
  exact va_runS (As := args0.map (ae_v ad ro)) (rest := rest.map (ae_v ad ro)) ⟨hx, hb, hml, hown, hts⟩ hM1 ⟨⟨c1, c2, c3, c4, c5, c6, hts _ hwc, hts _ hwi, hy, ae_par hpr, hts _ hwl⟩, hts _ hwn⟩ ⟨ae_blind, fun U hU hW => ⟨rfl, hpU hP hD hS U hU hW⟩⟩ rfl (by simpa using hna) hl.2.1 (by simp) (lv_room hq2) hdg ⟨by omega, by omega⟩

theorem ok_callSN (X : ae_X p l e R s m args below meth c D dA ro A B ra own nm cc nL ret KF SF d) {mid : Nat} {y : MethodName} {bytes : ByteArray} {maxL n index : Nat} {rt : Option FieldType} (hm : am mid = (y, bytes, maxL, rt)) (hmL : maxL ≤ 21) (hy : ae_hy y) (hpr : (parseMethodDescriptor y.desc).map (fun d => d.parameters.length) = some n) (hwc : Jvm.Cond.code y bytes maxL rt ∈ aw_all) (hwi : Jvm.Cond.initialized y.cls ∈ aw_all) {host : String} (hwl : Jvm.Cond.methodLinkNest own index y host ∈ aw_all) (hwn : Jvm.Cond.static y ∈ aw_all) (hdg : decode cc pc = .ok (.invokestatic index, 3)) : ae_CO p l e R s m args below meth c Q D dA ro A nL B ad0 n0 am ra KF SF d pc mid n (pc + 3) none := by
  intro σ L args0 rest σ' r hna hcat hrc hM hcl hn0 hg hF G0
  obtain ⟨c1, c2, c3, c4, c5, c6⟩ := ae_cb (mid := mid) (n := n) (σ := σ) (σ' := σ') X hwc hmL
  refine ae_goCall X ?_ hcl hn0 hg G0
  have hpU := @ae_preU p l e R s m args below meth c D dA ro A nL B ra own nm cc ret KF SF d X
  obtain ⟨hx, hb, hml, hown, hts, hr, hlk, hnm, hK, hRO, hA, hfr, hlo, hKF, hSF⟩ := X
  intro ad H locs cells slots ls hP hD hS hc hs hl
  have hM1 := hM D dA ro ad H.size
  rw [hm] at hM1
  have hq2 : ((rest.map (ae_v ad ro)).map fun v => v.category).sum ≤ 8 := by rw [ae_cat_map]; exact hcat
  have hg3 := hg.2.2.1
  have hg4 := hg.2.2.2.1
  have hF1 := hF.1
  have hF2 := hF.2
  exact va_runSN (As := args0.map (ae_v ad ro)) (rest := rest.map (ae_v ad ro)) ⟨hx, hb, hml, hown, hts⟩ hM1 ⟨⟨⟨c1, c2, c3, c4, c5, c6⟩, hts _ hwc, hts _ hwi, hy, ae_par hpr, hts _ hwl⟩, hts _ hwn, trivial⟩ ⟨ae_blind, fun U hU hW => ⟨rfl, hpU hP hD hS U hU hW⟩⟩ rfl (by simpa using hna) hl.2.1 (by simp) (lv_room hq2) hdg ⟨by omega, by omega⟩

theorem ok_callI (X : ae_X p l e R s m args below meth c D dA ro A B ra own nm cc nL ret KF SF d) {mid : Nat} {y : MethodName} {bytes : ByteArray} {maxL n index : Nat} {rt : Option FieldType} (hm : am mid = (y, bytes, maxL, rt)) (hmL : maxL ≤ 21) (hy : ae_hy y) (hpr : (parseMethodDescriptor y.desc).map (fun d => d.parameters.length) = some n) (hwc : Jvm.Cond.code y bytes maxL rt ∈ aw_all) (hwi : Jvm.Cond.initialized y.cls ∈ aw_all) (hwl : Jvm.Cond.methodLink own index y ∈ aw_all) (hwn : Jvm.Cond.instanceMethod y ∈ aw_all) (hnm0 : y.name = "<init>") (hrt : rt = none) {ci : Nat} (hdg : decode cc pc = .ok (.invokespecial index, 3)) : ae_CO p l e R s m args below meth c Q D dA ro A nL B ad0 n0 am ra KF SF d pc mid (n + 1) (pc + 3) (some ci) := by
  subst hrt
  intro σ L args0 rest σ' r hna hcat hrc hM hcl hn0 hg hF G0
  obtain ⟨c1, c2, c3, c4, c5, c6⟩ := ae_cb (mid := mid) (n := n) (σ := σ) (σ' := σ') X hwc hmL
  refine ae_goCall X ?_ hcl hn0 hg G0
  have hpU := @ae_preU p l e R s m args below meth c D dA ro A nL B ra own nm cc ret KF SF d X
  obtain ⟨hx, hb, hml, hown, hts, hr, hlk, hnm, hK, hRO, hA, hfr, hlo, hKF, hSF⟩ := X
  intro ad H locs cells slots ls hP hD hS hc hs hl
  have hM1 := hM D dA ro ad H.size
  rw [hm] at hM1
  have hq2 : ((rest.map (ae_v ad ro)).map fun v => v.category).sum ≤ 8 := by rw [ae_cat_map]; exact hcat
  have hg3 := hg.2.2.1
  have hg4 := hg.2.2.2.1
  have hF1 := hF.1
  have hF2 := hF.2
  cases args0 with
  | nil => cases hrc
  | cons a0 as =>
    cases a0 with
    | ref p0 =>
      exact va_runI (As := as.map (ae_v ad ro)) (rest := rest.map (ae_v ad ro)) (b := ad p0) ⟨hx, hb, hml, hown, hts⟩ hM1 ⟨⟨c1, c2, c3, c4, c5, c6, hts _ hwc, hts _ hwi, hy, ae_par hpr, hts _ hwl⟩, hnm0, hts _ hwn⟩ ⟨ae_blind, fun U hU hW => ⟨rfl, hpU hP hD hS U hU hW⟩⟩ rfl (by simpa using hna) hl.2.1 (by simp [ae_v]) (lv_room hq2) hdg ⟨by omega, by omega⟩
    | _ => cases hrc

theorem ok_callIN (X : ae_X p l e R s m args below meth c D dA ro A B ra own nm cc nL ret KF SF d) {mid : Nat} {y : MethodName} {bytes : ByteArray} {maxL n index : Nat} {rt : Option FieldType} (hm : am mid = (y, bytes, maxL, rt)) (hmL : maxL ≤ 21) (hy : ae_hy y) (hpr : (parseMethodDescriptor y.desc).map (fun d => d.parameters.length) = some n) (hwc : Jvm.Cond.code y bytes maxL rt ∈ aw_all) (hwi : Jvm.Cond.initialized y.cls ∈ aw_all) {host : String} (hwl : Jvm.Cond.methodLinkNest own index y host ∈ aw_all) (hwn : Jvm.Cond.instanceMethod y ∈ aw_all) (hnm0 : y.name = "<init>") (hrt : rt = none) {ci : Nat} (hdg : decode cc pc = .ok (.invokespecial index, 3)) : ae_CO p l e R s m args below meth c Q D dA ro A nL B ad0 n0 am ra KF SF d pc mid (n + 1) (pc + 3) (some ci) := by
  subst hrt
  intro σ L args0 rest σ' r hna hcat hrc hM hcl hn0 hg hF G0
  obtain ⟨c1, c2, c3, c4, c5, c6⟩ := ae_cb (mid := mid) (n := n) (σ := σ) (σ' := σ') X hwc hmL
  refine ae_goCall X ?_ hcl hn0 hg G0
  have hpU := @ae_preU p l e R s m args below meth c D dA ro A nL B ra own nm cc ret KF SF d X
  obtain ⟨hx, hb, hml, hown, hts, hr, hlk, hnm, hK, hRO, hA, hfr, hlo, hKF, hSF⟩ := X
  intro ad H locs cells slots ls hP hD hS hc hs hl
  have hM1 := hM D dA ro ad H.size
  rw [hm] at hM1
  have hq2 : ((rest.map (ae_v ad ro)).map fun v => v.category).sum ≤ 8 := by rw [ae_cat_map]; exact hcat
  have hg3 := hg.2.2.1
  have hg4 := hg.2.2.2.1
  have hF1 := hF.1
  have hF2 := hF.2
  cases args0 with
  | nil => cases hrc
  | cons a0 as =>
    cases a0 with
    | ref p0 =>
      exact va_runIN (As := as.map (ae_v ad ro)) (rest := rest.map (ae_v ad ro)) (b := ad p0) ⟨hx, hb, hml, hown, hts⟩ hM1 ⟨⟨⟨c1, c2, c3, c4, c5, c6⟩, hts _ hwc, hts _ hwi, hy, ae_par hpr, hts _ hwl⟩, hnm0, hts _ hwn⟩ ⟨ae_blind, fun U hU hW => ⟨rfl, hpU hP hD hS U hU hW⟩⟩ rfl (by simpa using hna) hl.2.1 (by simp [ae_v]) (lv_room hq2) hdg ⟨by omega, by omega⟩
    | _ => cases hrc

end AEG
end
section
section AES
variable {p : Program} {l : Launch} {e : Env} {R : Room} {s : State} {m : MethodId} {args : Array Value} {below : List Frame} {meth : Method} {c : Code} {Q : State → Prop}
variable {D : va_G} {dA : Nat → ClassId} {ro : Nat → Nat} {A : Nat → Prop} {nL : Nat} {B : Nat × Nat} {ad0 : Nat → Nat} {n0 : Nat}
variable {ra : Nat → Nat × (Nat → Int32)} {own nm : String} {cc : ByteArray} {ret : Option FieldType} {KF SF d : Nat} {pc : Nat}
variable {am : ae_Am}
/-- what a return at pc must be -/
def ae_RTo (cc : ByteArray) (ret : Option FieldType) (pc : Nat) : Option (Value → Bool) → Prop
  | none => ret = none ∧ decode cc pc = .ok (.return_, 1)
  | some ok => (ret = some .int ∧ decode cc pc = .ok (.ireturn, 1) ∧ ∀ v, ok v = true → ∃ x, v = .int x) ∨ (ret = some .boolean ∧ decode cc pc = .ok (.ireturn, 1) ∧ ∀ v, ok v = true → ∃ x, v = .int x ∧ narrow .boolean (.int x) = .int x) ∨ (((∃ n, ret = some (.object n)) ∨ ∃ t, ret = some (.array t)) ∧ decode cc pc = .ok (.areturn, 1) ∧ ∀ v, ok v = true → v = .null ∨ ∃ q, v = .ref q)
/-- an entry of a method's table is sound -/
def ae_E (am : ae_Am) (own nm : String) (cc : ByteArray) (nL : Nat) (ret : Option FieldType) (q : Nat × ae_I) : Prop := match q.2 with
  | .inl f => ae_Pu f ∧ ∀ (p : Program) (l : Launch) (e : Env) (R : Room) (s : State) (m : MethodId) (args : Array Value) (below : List Frame) (meth : Method) (c : Code) (Q : State → Prop) (D : va_G) (dA : Nat → ClassId) (ro : Nat → Nat) (A : Nat → Prop) (B : Nat × Nat) (ad0 : Nat → Nat) (n0 : Nat) (ra : ae_R) (KF SF d : Nat), ae_X p l e R s m args below meth c D dA ro A B ra own nm cc nL ret KF SF d → ae_Ok p l e R s m args below meth c Q D dA ro A nL B ad0 n0 ra KF SF q.1 f
  | .inr (.inl o) => ae_RTo cc ret q.1 o
  | .inr (.inr (.inl (mid, na, np, rc, hs))) => hs = [] ∧ ∀ (p : Program) (l : Launch) (e : Env) (R : Room) (s : State) (m : MethodId) (args : Array Value) (below : List Frame) (meth : Method) (c : Code) (Q : State → Prop) (D : va_G) (dA : Nat → ClassId) (ro : Nat → Nat) (A : Nat → Prop) (B : Nat × Nat) (ad0 : Nat → Nat) (n0 : Nat) (ra : ae_R) (KF SF d : Nat), ae_X p l e R s m args below meth c D dA ro A B ra own nm cc nL ret KF SF d → ae_CO p l e R s m args below meth c Q D dA ro A nL B ad0 n0 am ra KF SF d q.1 mid na np rc
  | .inr (.inr (.inr _)) => False
theorem ae_tab_mem {t : List (Nat × ae_I)} {pc : Nat} {i : ae_I} (h : ae_tab t pc = some i) : (pc, i) ∈ t := by
  unfold ae_tab at h
  cases hf : t.find? (fun q => q.1 == pc) with
  | none => rw [hf] at h; cases h
  | some q =>
    rw [hf] at h
    obtain ⟨a, b⟩ := q
    have h1 : b = i := Option.some.inj h
    have h2 : a = pc := by simpa using List.find?_some hf
    subst h1
    subst h2
    exact List.mem_of_find?_eq_some hf
/-- a return, as the machine does it -/
theorem ae_ret (X : ae_X p l e R s m args below meth c D dA ro A B ra own nm cc nL ret KF SF d) {σ0 : ae_S} (hA0 : A = va_A (ae_w ad0 ro dA σ0.2) s.heap.size) (hn : n0 = σ0.2.length) {o : Option (Value → Bool)} (ho : ae_RTo cc ret pc o) {σ : ae_S} {L : ae_Ls} {k : List Value} {r : Option Value}
    (hr : (o = none ∧ k = [] ∧ r = none) ∨ (∃ ok v, o = some ok ∧ k = [v] ∧ ok v = true ∧ r = some v)) :
    ae_Go p l e R s m args below meth c (MQ below (ae_pst D dA ro ad0 σ0 s.heap.size σ r) args s (σ.1.1 - B.1) (σ.1.2 - B.2) A) D dA ro A nL B ad0 n0 σ L k pc := by
  obtain ⟨hx, hb, hml, hown, hts, hrt, hlk, hnm, hK, hRO, hA, hfr, hlo, hKF, hSF⟩ := X
  intro ad H locs cells slots ls hP hD hS hc hs hl had
  have e1 : σ.1.1 - B.1 = cells := by omega
  have e2 : σ.1.2 - B.2 = slots := by omega
  rw [e1, e2]
  have hq : ∀ (rv : Option Value), rv = r.map (ae_v ad ro) → ∀ t : State, t.heap = H → s.WarmedH t.vm → ae_pst D dA ro ad0 σ0 s.heap.size σ r args s (.returned rv) t := fun rv hrv t ht hW => by
    subst hrv
    refine ⟨⟨ad, fun q hq => had q (by rw [hn]; exact hq), rfl, by rw [ht]; exact hP, by rw [← hA0]; exact hD⟩, ?_⟩
    rw [← hA0]
    exact hS.F ht
  have hf : ∀ q ∈ locs, A q.base := hS.2.2
  rcases hr with ⟨h1, h2, h3⟩ | ⟨ok, v, h1, h2, h3, h4⟩
  · subst h1
    subst h2
    subst h3
    exact W.vret hx hb (hrt.trans ho.1) (hq none rfl) hf ho.2
  · subst h1
    subst h2
    subst h4
    rcases ho with ⟨o1, o2, o3⟩ | ⟨o1, o2, o3⟩ | ⟨o1, o2, o3⟩
    · obtain ⟨x, rfl⟩ := o3 v h3
      exact W.iret hx hb (hrt.trans o1) (hq (some (.int x)) rfl) hf o2
    · obtain ⟨x, rfl, hnx⟩ := o3 v h3
      exact W.zret hx hb (hrt.trans o1) hnx (hq (some (.int x)) rfl) hf o2
    · have hrt2 : ∃ rt, ret = some rt ∧ ((∃ n, rt = .object n) ∨ ∃ t, rt = .array t) := by
        rcases o1 with ⟨n, z⟩ | ⟨t, z⟩
        · exact ⟨_, z, Or.inl ⟨n, rfl⟩⟩
        · exact ⟨_, z, Or.inr ⟨t, rfl⟩⟩
      obtain ⟨rt, z1, z2⟩ := hrt2
      rcases o3 v h3 with hv | ⟨q, hv⟩
      · subst hv
        exact W.aret (v := .null) hx hb (hrt.trans z1) z2 (Or.inl rfl) (hq (some .null) rfl) hf o2
      · subst hv
        exact W.aret (v := .ref (ad q)) hx hb (hrt.trans z1) z2 (Or.inr ⟨_, rfl⟩) (hq (some (.ref (ad q))) rfl) hf o2
/-- what the callees give -/
def ae_HE (l : Launch) (am : ae_Am) (ra : ae_R) (d : Nat) (E : ae_Ev) : Prop :=
  ∀ (mid : Nat) (args : List Value) (σ σ' : ae_S) (o : ae_O), E mid args σ = some (σ', o) → ae_cs σ → ae_ck σ.2.length args → (∀ v ∈ args, v.category = 1) → ae_gd σ σ' o ∧ ∀ r, o = .inl r → ae_M l am ra d mid args σ σ' r
theorem ae_runPure {l : Launch} {t : List (Nat × ae_I)} {E : ae_Ev} (hT : ∀ q ∈ t, ae_E am own nm cc nL ret q) (hE : ae_HE l am ra d E) :
    ∀ (n : Nat) (σ : ae_S) (L : ae_Ls) (k : List Value) (pc : Nat) (σF : ae_S) (o : ae_O), ae_run ra t E n σ L k pc = some (σF, o) → ae_cl σ L k → ae_gd σ σF o := by
  intro n
  induction n with
  | zero => intro σ L k pc σF o h; cases h
  | succ n ih =>
    intro σ L k pc σF o h hcl
    unfold ae_run at h
    split at h
    · cases h
    · rename_i f ht
      have hq := hT _ (ae_tab_mem ht)
      split at h
      · cases h
      · rename_i σ' L' k' pc' hf
        obtain ⟨a1, a2, a3, a4⟩ := hq.1 ra σ L k σ' L' k' pc' hf hcl
        obtain ⟨b1, b2, b3, b4, b5⟩ := ih σ' L' k' pc' σF o h a1
        exact ⟨b1, b2, Nat.le_trans a2 b3, Nat.le_trans a3 b4, Nat.le_trans a4 b5⟩
    · split at h
      · cases h
        exact ⟨hcl.1, (fun v hv => by cases hv), Nat.le_refl _, Nat.le_refl _, Nat.le_refl _⟩
      · cases h
    · split at h
      · split at h
        · cases h
          exact ⟨hcl.1, (fun v hv => by cases hv; exact ck_h hcl.2.2), Nat.le_refl _, Nat.le_refl _, Nat.le_refl _⟩
        · cases h
      · cases h
    · rename_i mid na np rc hs ht
      have hq := hT _ (ae_tab_mem ht)
      obtain ⟨hq1, -⟩ := hq
      subst hq1
      split at h
      · rename_i hc
        obtain ⟨c1, c2, c3, c4⟩ := hc
        split at h
        · cases h
        · rename_i σ' v hev
          have hg := (hE mid _ σ σ' (.inl v) hev hcl.1 (fun u hu => hcl.2.2 u (List.mem_of_mem_take (List.mem_reverse.mp hu))) (fun u hu => by simpa using List.all_eq_true.mp c4 u (List.mem_reverse.mp hu))).1
          obtain ⟨g1, g2, g3, g4, g5⟩ := hg
          have hk : ae_ck σ'.2.length (v.toList ++ k.drop na) := fun u hu => by
            rcases List.mem_append.mp hu with h1 | h1
            · exact g2 u (by rw [Option.mem_toList.mp h1])
            · exact ae_cv_mono g5 (hcl.2.2 u (List.mem_of_mem_drop h1))
          obtain ⟨b1, b2, b3, b4, b5⟩ := ih σ' L _ np σF o h ⟨g1, ae_cL_mono g5 hcl.2.1, hk⟩
          exact ⟨b1, b2, Nat.le_trans g3 b3, Nat.le_trans g4 b4, Nat.le_trans g5 b5⟩
        · cases h
      · cases h
    · rename_i x c1 c2 ht
      exact (hT _ (ae_tab_mem ht)).elim
theorem ae_runGo {t : List (Nat × ae_I)} {E : ae_Ev} (hT : ∀ q ∈ t, ae_E am own nm cc nL ret q) (hE : ae_HE l am ra d E) {σF : ae_S} {r : Option Value} (X : ae_X p l e R s m args below meth c D dA ro A B ra own nm cc nL ret KF SF d) (hKS : σF.1.1 ≤ KF ∧ σF.1.2 ≤ SF) (hFin : ∀ (pc : Nat) (o : Option (Value → Bool)) (L : ae_Ls) (k : List Value), ae_RTo cc ret pc o → (o = none ∧ k = [] ∧ r = none) ∨ (∃ ok v, o = some ok ∧ k = [v] ∧ ok v = true ∧ r = some v) → ae_Go p l e R s m args below meth c Q D dA ro A nL B ad0 n0 σF L k pc) :
    ∀ (n : Nat) (σ : ae_S) (L : ae_Ls) (k : List Value) (pc : Nat), ae_run ra t E n σ L k pc = some (σF, .inl r) → ae_cl σ L k → n0 ≤ σ.2.length → ae_Go p l e R s m args below meth c Q D dA ro A nL B ad0 n0 σ L k pc := by
  intro n
  induction n with
  | zero => intro σ L k pc h; cases h
  | succ n ih =>
    intro σ L k pc h hcl hn0
    unfold ae_run at h
    split at h
    · cases h
    · rename_i f ht
      have hq := hT _ (ae_tab_mem ht)
      split at h
      · cases h
      · rename_i σ' L' k' pc' hf
        obtain ⟨a1, a2, a3, a4⟩ := hq.1 ra σ L k σ' L' k' pc' hf hcl
        obtain ⟨b1, b2, b3, b4, b5⟩ := ae_runPure hT hE n σ' L' k' pc' σF (.inl r) h a1
        exact hq.2 _ _ _ _ _ _ _ _ _ _ Q _ _ _ _ _ ad0 n0 _ _ _ _ X σ L k σ' L' k' pc' hf hcl hn0 ⟨Nat.le_trans b3 hKS.1, Nat.le_trans b4 hKS.2⟩ (ih σ' L' k' pc' h a1 (Nat.le_trans hn0 a4))
    · rename_i ht
      have hq := hT _ (ae_tab_mem ht)
      split at h
      · cases h
        exact hFin pc none L [] hq (Or.inl ⟨rfl, rfl, rfl⟩)
      · cases h
    · rename_i ok ht
      have hq := hT _ (ae_tab_mem ht)
      split at h
      · rename_i v
        split at h
        · rename_i hok
          cases h
          exact hFin pc (some ok) L [v] hq (Or.inr ⟨ok, v, rfl, rfl, hok, rfl⟩)
        · cases h
      · cases h
    · rename_i mid na np rc hs ht
      have hq := hT _ (ae_tab_mem ht)
      obtain ⟨hq1, hq2⟩ := hq
      subst hq1
      split at h
      · rename_i hc
        obtain ⟨c1, c2, c3, c4⟩ := hc
        split at h
        · cases h
        · rename_i σ' v hev
          obtain ⟨hg, hM⟩ := hE mid _ σ σ' (.inl v) hev hcl.1 (fun u hu => hcl.2.2 u (List.mem_of_mem_take (List.mem_reverse.mp hu))) (fun u hu => by simpa using List.all_eq_true.mp c4 u (List.mem_reverse.mp hu))
          have hg0 := hg
          obtain ⟨g1, g2, g3, g4, g5⟩ := hg
          have hk : ae_ck σ'.2.length (v.toList ++ k.drop na) := fun u hu => by
            rcases List.mem_append.mp hu with h1 | h1
            · exact g2 u (by rw [Option.mem_toList.mp h1])
            · exact ae_cv_mono g5 (hcl.2.2 u (List.mem_of_mem_drop h1))
          have hcl' : ae_cl σ' L (v.toList ++ k.drop na) := ⟨g1, ae_cL_mono g5 hcl.2.1, hk⟩
          obtain ⟨b1, b2, b3, b4, b5⟩ := ae_runPure hT hE n σ' L _ np σF (.inl r) h hcl'
          have hkk : (k.take na).reverse.reverse ++ k.drop na = k := by rw [List.reverse_reverse, List.take_append_drop]
          have G1 := ih σ' L _ np h hcl' (Nat.le_trans hn0 g5)
          have G2 := hq2 _ _ _ _ _ _ _ _ _ _ Q _ _ _ _ _ ad0 n0 _ _ _ _ X σ L (k.take na).reverse (k.drop na) σ' v (by simp; omega) c2 c3 (hM v rfl) (by rw [hkk]; exact hcl) hn0 hg0 ⟨Nat.le_trans b3 hKS.1, Nat.le_trans b4 hKS.2⟩ G1
          rw [hkk] at G2
          exact G2
        · cases h
      · cases h
    · rename_i x c1 c2 ht
      exact (hT _ (ae_tab_mem ht)).elim
end AES
section AET
/-- every method's table is sound -/
def ae_TB (am : ae_Am) (at0 : ae_At) : Prop := ∀ mid, at0 mid ≠ [] → plainName (am mid).1.cls = true ∧ ∀ q ∈ at0 mid, ae_E am (am mid).1.cls (am mid).1.name (am mid).2.1 (am mid).2.2.1 (am mid).2.2.2 q
theorem ae_entL {n nL : Nat} {args : List Value} (h : ae_ck n args) (hc : ∀ v ∈ args, v.category = 1) : ae_cL n (ae_ent args nL) := by
  intro i v hv
  unfold ae_ent at hv
  have hm := List.mem_of_getElem? hv
  rcases List.mem_append.mp hm with h1 | h1
  · obtain ⟨u, hu, he⟩ := List.mem_map.mp h1
    cases he
    exact ⟨h v hu, hc v hu⟩
  · have := List.eq_of_mem_replicate h1
    cases this
theorem ae_entS {ad ro : Nat → Nat} : ∀ (args : List Value), (∀ v ∈ args, v.category = 1) → lg_sl (args.map (ae_v ad ro)) = args.map (fun v => Slot.val (ae_v ad ro v)) := by
  intro args
  induction args with
  | nil => intro _; rfl
  | cons a as ih =>
    intro h
    have h1 : (ae_v ad ro a).category = 1 := by rw [ae_v_cat]; exact h a List.mem_cons_self
    have h2 := ih (fun v hv => h v (List.mem_cons_of_mem _ hv))
    simp only [lg_sl, List.map_cons, List.flatMap_cons] at h2 ⊢
    rw [h2]
    simp [h1]
theorem ae_entA {ad ro : Nat → Nat} : ∀ (args : List Value) (i : Nat), (∀ v ∈ args, v.category = 1) → ∀ (j : Nat) (v : Value), args[j]? = some v → (i + j, ae_v ad ro v) ∈ lv_args i (args.map (ae_v ad ro)) := by
  intro args
  induction args with
  | nil => intro i _ j v h; simp at h
  | cons a as ih =>
    intro i hc j v h
    have h1 : (ae_v ad ro a).category = 1 := by rw [ae_v_cat]; exact hc a List.mem_cons_self
    cases j with
    | zero =>
      simp at h
      subst h
      simp [lv_args]
    | succ j =>
      simp at h
      have h2 := ih (i + 1) (fun v hv => hc v (List.mem_cons_of_mem _ hv)) j v h
      simp only [List.map_cons, lv_args, h1]
      simp
      rw [show i + (j + 1) = i + 1 + j by omega]
      exact h2
theorem ae_sound (l : Launch) {am : ae_Am} {at0 : ae_At} (ra : ae_R) (hTB : ae_TB am at0) : ∀ (d n : Nat), ae_HE l am ra d (ae_ev am at0 ra d n) := by
  intro d n
  induction d with
  | zero => intro mid args σ σ' o h; cases h
  | succ d ih =>
    intro mid args0 σ σ' o h hcs hck hcat
    unfold ae_ev at h
    split at h
    · rename_i hlen
      have hne : at0 mid ≠ [] := by
        intro z
        rw [z] at h
        cases n <;> simp [ae_run, ae_tab] at h
      obtain ⟨hpl, hT⟩ := hTB mid hne
      have hcl : ae_cl σ (ae_ent args0 (am mid).2.2.1) [] := ⟨hcs, ae_entL hck hcat, fun v hv => by cases hv⟩
      have hg := ae_runPure hT ih n σ _ [] 0 σ' o h hcl
      refine ⟨hg, fun r hr => ?_⟩
      subst hr
      obtain ⟨g1, g2, g3, g4, g5⟩ := hg
      intro D dA ro ad sz
      refine Met.ofW (cc := (am mid).2.1) (maxL := (am mid).2.2.1) (ret := (am mid).2.2.2) hpl rfl ?_
      intro p e s m args below meth c s₁ BB hml hv
      obtain ⟨rfl, hsz, hP, hK, hD0, hRO, hWd⟩ := hv
      have hown : s.vm.findClass (am mid).1.cls = some m.cls := findClass_of_methodNamed BB.named
      have hnm : meth.name = (am mid).1.name := (name_of_methodNamed BB.named BB.method).1
      subst hsz
      have hD := hD0.self (sz := s.heap.size)
      have hA : ∀ q : Nat, s.heap.size ≤ q → va_A (ae_w ad ro dA σ.2) s.heap.size q := fun q h => Or.inr h
      have X : ae_X p l e (headSpec [Jvm.Cond.code (am mid).1 (am mid).2.1 (am mid).2.2.1 (am mid).2.2.2] (ae_rm (d + 1) σ σ')).room s m (args0.map (ae_v ad ro)).toArray below meth c D dA ro (va_A (ae_w ad ro dA σ.2) s.heap.size) σ.1 ra (am mid).1.cls (am mid).1.name (am mid).2.1 (am mid).2.2.1 (am mid).2.2.2 σ'.1.1 σ'.1.2 d := by
        refine ⟨BB.exec, BB.bytes, hml, hown, ?_, BB.returns, BB.notSynchronized, hnm, hK, hRO, hA, Nat.le_refl _, Nat.le_refl _, ?_, ?_⟩
        · exact aw_warmAll (s := s) (U := s) (State.WarmedH.refl s) hWd
        · show σ'.1.1 ≤ σ.1.1 + (σ'.1.1 - σ.1.1)
          omega
        · show σ'.1.2 ≤ σ.1.2 + (σ'.1.2 - σ.1.2)
          omega
      have GG := ae_runGo (Q := MQ below (ae_pst D dA ro ad σ s.heap.size σ' r) (args0.map (ae_v ad ro)).toArray s (σ'.1.1 - σ.1.1) (σ'.1.2 - σ.1.2) (va_A (ae_w ad ro dA σ.2) s.heap.size)) (ad0 := ad) (n0 := σ.2.length) hT ih (σF := σ') (r := r) X ⟨Nat.le_refl _, Nat.le_refl _⟩ (fun pc o L k ho hk => ae_ret X rfl rfl ho hk) n σ _ [] 0 h hcl (Nat.le_refl _)
      have hlens : (lg_sl (args0.map (ae_v ad ro))).length ≤ (am mid).2.2.1 := by
        rw [ae_entS args0 hcat]
        simpa using hlen
      have hl := lv_entry (args0.map (ae_v ad ro)) (n := (am mid).2.2.1) hlens
      rw [lg_entry_eq]
      refine GG ad s.heap [] 0 0 _ hP hD va_S.rf rfl rfl ⟨?_, hl.1, hl.2.1, ?_⟩ (fun _ _ => rfl)
      · unfold ae_ent
        simp
        omega
      · intro i v hv
        unfold ae_ent at hv
        have hi : args0[i]? = some v := by
          by_cases hlt : i < args0.length
          · rw [List.getElem?_append_left (by simpa using hlt)] at hv
            simpa using hv
          · rw [List.getElem?_append_right (by simpa using hlt)] at hv
            have := List.eq_of_mem_replicate (List.mem_of_getElem? hv)
            cases this
        have hm := ae_entA (ad := ad) (ro := ro) args0 0 hcat i v hi
        rw [Nat.zero_add] at hm
        exact hl.2.2 _ hm
    · cases h
end AET
end
