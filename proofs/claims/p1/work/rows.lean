section
-- ===== PART A: goes FIRST, ahead of the names: the tables' words, and 'selects' of the private methods out of them =====
/-- a private method of a class that the tables say can be made, by its rows of tables_1 -/
def lw_okq (q : MethodName × Nat) : Prop := (q.1.cls ≠ "java/lang/invoke/MethodHandle" ∧ q.1.cls ≠ "java/lang/invoke/VarHandle") ∧ Cond.instantiable q.1.cls q.2 ∈ tables_1 ∧ Cond.privateMethod q.1 ∈ tables_1 ∧ Cond.instanceMethod q.1 ∈ tables_1
theorem lw_p0 : lw_okq (⟨"TwinNetwork", "isQuiet", "()Z"⟩, 6) := ⟨⟨by decide +kernel, by decide +kernel⟩, List.mem_of_getElem? (i := 18) (by decide +kernel), List.mem_of_getElem? (i := 143) (by decide +kernel), List.mem_of_getElem? (i := 144) (by decide +kernel)⟩
theorem lw_p1 : lw_okq (⟨"TwinNetwork", "passTime", "(I)V"⟩, 6) := ⟨⟨by decide +kernel, by decide +kernel⟩, List.mem_of_getElem? (i := 18) (by decide +kernel), List.mem_of_getElem? (i := 151) (by decide +kernel), List.mem_of_getElem? (i := 152) (by decide +kernel)⟩
theorem lw_p2 : lw_okq (⟨"TwinNetwork", "sendFragments", "()V"⟩, 6) := ⟨⟨by decide +kernel, by decide +kernel⟩, List.mem_of_getElem? (i := 18) (by decide +kernel), List.mem_of_getElem? (i := 162) (by decide +kernel), List.mem_of_getElem? (i := 163) (by decide +kernel)⟩
theorem lw_p3 : lw_okq (⟨"TwinNetwork", "sendFragment", "(LTwinNetwork$Link;)V"⟩, 6) := ⟨⟨by decide +kernel, by decide +kernel⟩, List.mem_of_getElem? (i := 18) (by decide +kernel), List.mem_of_getElem? (i := 166) (by decide +kernel), List.mem_of_getElem? (i := 167) (by decide +kernel)⟩
theorem lw_p4 : lw_okq (⟨"TwinNetwork$Frame", "sum", "()I"⟩, 2) := ⟨⟨by decide +kernel, by decide +kernel⟩, List.mem_of_getElem? (i := 30) (by decide +kernel), List.mem_of_getElem? (i := 210) (by decide +kernel), List.mem_of_getElem? (i := 211) (by decide +kernel)⟩
theorem lw_p5 : lw_okq (⟨"TwinNetwork$Frame", "check", "()I"⟩, 2) := ⟨⟨by decide +kernel, by decide +kernel⟩, List.mem_of_getElem? (i := 30) (by decide +kernel), List.mem_of_getElem? (i := 219) (by decide +kernel), List.mem_of_getElem? (i := 220) (by decide +kernel)⟩
theorem lw_p6 : lw_okq (⟨"TwinNetwork", "enqueue", "(IIZLTwinNetwork$Frame;)Z"⟩, 6) := ⟨⟨by decide +kernel, by decide +kernel⟩, List.mem_of_getElem? (i := 18) (by decide +kernel), List.mem_of_getElem? (i := 225) (by decide +kernel), List.mem_of_getElem? (i := 226) (by decide +kernel)⟩
theorem lw_p7 : lw_okq (⟨"TwinNetwork", "lineAt", "(II)LTwinNetwork$Line;"⟩, 6) := ⟨⟨by decide +kernel, by decide +kernel⟩, List.mem_of_getElem? (i := 18) (by decide +kernel), List.mem_of_getElem? (i := 229) (by decide +kernel), List.mem_of_getElem? (i := 230) (by decide +kernel)⟩
theorem lw_p8 : lw_okq (⟨"TwinNetwork", "moveFrames", "()V"⟩, 6) := ⟨⟨by decide +kernel, by decide +kernel⟩, List.mem_of_getElem? (i := 18) (by decide +kernel), List.mem_of_getElem? (i := 252) (by decide +kernel), List.mem_of_getElem? (i := 253) (by decide +kernel)⟩
theorem lw_p9 : lw_okq (⟨"TwinNetwork", "enterSystem", "(IILTwinNetwork$Frame;)I"⟩, 6) := ⟨⟨by decide +kernel, by decide +kernel⟩, List.mem_of_getElem? (i := 18) (by decide +kernel), List.mem_of_getElem? (i := 262) (by decide +kernel), List.mem_of_getElem? (i := 263) (by decide +kernel)⟩
theorem lw_p10 : lw_okq (⟨"TwinNetwork", "linkAt", "(I)LTwinNetwork$Link;"⟩, 6) := ⟨⟨by decide +kernel, by decide +kernel⟩, List.mem_of_getElem? (i := 18) (by decide +kernel), List.mem_of_getElem? (i := 278) (by decide +kernel), List.mem_of_getElem? (i := 279) (by decide +kernel)⟩
theorem lw_p11 : lw_okq (⟨"TwinNetwork$Port", "isToBeTaken", "(II)Z"⟩, 12) := ⟨⟨by decide +kernel, by decide +kernel⟩, List.mem_of_getElem? (i := 314) (by decide +kernel), List.mem_of_getElem? (i := 312) (by decide +kernel), List.mem_of_getElem? (i := 313) (by decide +kernel)⟩
theorem lw_p12 : lw_okq (⟨"TwinNetwork$Port", "keepBegun", "(I)I"⟩, 12) := ⟨⟨by decide +kernel, by decide +kernel⟩, List.mem_of_getElem? (i := 314) (by decide +kernel), List.mem_of_getElem? (i := 347) (by decide +kernel), List.mem_of_getElem? (i := 348) (by decide +kernel)⟩
theorem lw_p13 : lw_okq (⟨"TwinNetwork", "passSwitch", "(IILTwinNetwork$Frame;)I"⟩, 6) := ⟨⟨by decide +kernel, by decide +kernel⟩, List.mem_of_getElem? (i := 18) (by decide +kernel), List.mem_of_getElem? (i := 353) (by decide +kernel), List.mem_of_getElem? (i := 354) (by decide +kernel)⟩
theorem lw_p14 : lw_okq (⟨"TwinNetwork", "takeFrames", "()V"⟩, 6) := ⟨⟨by decide +kernel, by decide +kernel⟩, List.mem_of_getElem? (i := 18) (by decide +kernel), List.mem_of_getElem? (i := 367) (by decide +kernel), List.mem_of_getElem? (i := 368) (by decide +kernel)⟩
theorem lw_p15 : lw_okq (⟨"TwinNetwork$Line", "takeFirst", "()V"⟩, 9) := ⟨⟨by decide +kernel, by decide +kernel⟩, List.mem_of_getElem? (i := 61) (by decide +kernel), List.mem_of_getElem? (i := 375) (by decide +kernel), List.mem_of_getElem? (i := 376) (by decide +kernel)⟩
def lw_privs_1 : List (MethodName × Nat) := [(⟨"TwinNetwork", "isQuiet", "()Z"⟩, 6), (⟨"TwinNetwork", "passTime", "(I)V"⟩, 6), (⟨"TwinNetwork", "sendFragments", "()V"⟩, 6), (⟨"TwinNetwork", "sendFragment", "(LTwinNetwork$Link;)V"⟩, 6), (⟨"TwinNetwork$Frame", "sum", "()I"⟩, 2), (⟨"TwinNetwork$Frame", "check", "()I"⟩, 2), (⟨"TwinNetwork", "enqueue", "(IIZLTwinNetwork$Frame;)Z"⟩, 6), (⟨"TwinNetwork", "lineAt", "(II)LTwinNetwork$Line;"⟩, 6), (⟨"TwinNetwork", "moveFrames", "()V"⟩, 6), (⟨"TwinNetwork", "enterSystem", "(IILTwinNetwork$Frame;)I"⟩, 6), (⟨"TwinNetwork", "linkAt", "(I)LTwinNetwork$Link;"⟩, 6), (⟨"TwinNetwork$Port", "isToBeTaken", "(II)Z"⟩, 12), (⟨"TwinNetwork$Port", "keepBegun", "(I)I"⟩, 12), (⟨"TwinNetwork", "passSwitch", "(IILTwinNetwork$Frame;)I"⟩, 6), (⟨"TwinNetwork", "takeFrames", "()V"⟩, 6), (⟨"TwinNetwork$Line", "takeFirst", "()V"⟩, 9)]
theorem lw_r1 : ∀ q ∈ lw_privs_1, lw_okq q := List.forall_mem_cons.mpr ⟨lw_p0, List.forall_mem_cons.mpr ⟨lw_p1, List.forall_mem_cons.mpr ⟨lw_p2, List.forall_mem_cons.mpr ⟨lw_p3, List.forall_mem_cons.mpr ⟨lw_p4, List.forall_mem_cons.mpr ⟨lw_p5, List.forall_mem_cons.mpr ⟨lw_p6, List.forall_mem_cons.mpr ⟨lw_p7, List.forall_mem_cons.mpr ⟨lw_p8, List.forall_mem_cons.mpr ⟨lw_p9, List.forall_mem_cons.mpr ⟨lw_p10, List.forall_mem_cons.mpr ⟨lw_p11, List.forall_mem_cons.mpr ⟨lw_p12, List.forall_mem_cons.mpr ⟨lw_p13, List.forall_mem_cons.mpr ⟨lw_p14, List.forall_mem_cons.mpr ⟨lw_p15, fun _ h => absurd h List.not_mem_nil⟩⟩⟩⟩⟩⟩⟩⟩⟩⟩⟩⟩⟩⟩⟩⟩
theorem lw_p16 : lw_okq (⟨"TwinNetwork", "portAt", "(II)LTwinNetwork$Port;"⟩, 6) := ⟨⟨by decide +kernel, by decide +kernel⟩, List.mem_of_getElem? (i := 18) (by decide +kernel), List.mem_of_getElem? (i := 397) (by decide +kernel), List.mem_of_getElem? (i := 398) (by decide +kernel)⟩
theorem lw_p17 : lw_okq (⟨"TwinNetwork", "ticksOfAllLinks", "(I)I"⟩, 6) := ⟨⟨by decide +kernel, by decide +kernel⟩, List.mem_of_getElem? (i := 18) (by decide +kernel), List.mem_of_getElem? (i := 451) (by decide +kernel), List.mem_of_getElem? (i := 452) (by decide +kernel)⟩
theorem lw_p18 : lw_okq (⟨"java/lang/Throwable", "fillInStackTrace", "(I)Ljava/lang/Throwable;"⟩, 6) := ⟨⟨by decide +kernel, by decide +kernel⟩, List.mem_of_getElem? (i := 507) (by decide +kernel), List.mem_of_getElem? (i := 505) (by decide +kernel), List.mem_of_getElem? (i := 506) (by decide +kernel)⟩
theorem lw_p19 : lw_okq (⟨"TwinNetwork$Link", "fragmentRoom", "()I"⟩, 15) := ⟨⟨by decide +kernel, by decide +kernel⟩, List.mem_of_getElem? (i := 546) (by decide +kernel), List.mem_of_getElem? (i := 698) (by decide +kernel), List.mem_of_getElem? (i := 699) (by decide +kernel)⟩
theorem lw_p20 : lw_okq (⟨"TwinNetworkModel", "isLink", "(I)Z"⟩, 41) := ⟨⟨by decide +kernel, by decide +kernel⟩, List.mem_of_getElem? (i := 724) (by decide +kernel), List.mem_of_getElem? (i := 869) (by decide +kernel), List.mem_of_getElem? (i := 870) (by decide +kernel)⟩
theorem lw_p21 : lw_okq (⟨"TwinNetworkModel", "piece", "(I)I"⟩, 41) := ⟨⟨by decide +kernel, by decide +kernel⟩, List.mem_of_getElem? (i := 724) (by decide +kernel), List.mem_of_getElem? (i := 873) (by decide +kernel), List.mem_of_getElem? (i := 874) (by decide +kernel)⟩
theorem lw_p22 : lw_okq (⟨"TwinNetworkModel", "shape", "(I)V"⟩, 41) := ⟨⟨by decide +kernel, by decide +kernel⟩, List.mem_of_getElem? (i := 724) (by decide +kernel), List.mem_of_getElem? (i := 882) (by decide +kernel), List.mem_of_getElem? (i := 883) (by decide +kernel)⟩
theorem lw_p23 : lw_okq (⟨"TwinNetworkModel", "frame", "(IIIIIIZ)I"⟩, 41) := ⟨⟨by decide +kernel, by decide +kernel⟩, List.mem_of_getElem? (i := 724) (by decide +kernel), List.mem_of_getElem? (i := 886) (by decide +kernel), List.mem_of_getElem? (i := 887) (by decide +kernel)⟩
theorem lw_p24 : lw_okq (⟨"TwinNetworkModel", "take", "()I"⟩, 41) := ⟨⟨by decide +kernel, by decide +kernel⟩, List.mem_of_getElem? (i := 724) (by decide +kernel), List.mem_of_getElem? (i := 890) (by decide +kernel), List.mem_of_getElem? (i := 891) (by decide +kernel)⟩
theorem lw_p25 : lw_okq (⟨"TwinNetworkModel", "put", "(III)V"⟩, 41) := ⟨⟨by decide +kernel, by decide +kernel⟩, List.mem_of_getElem? (i := 724) (by decide +kernel), List.mem_of_getElem? (i := 894) (by decide +kernel), List.mem_of_getElem? (i := 895) (by decide +kernel)⟩
theorem lw_p26 : lw_okq (⟨"TwinNetworkModel", "sum", "(I)I"⟩, 41) := ⟨⟨by decide +kernel, by decide +kernel⟩, List.mem_of_getElem? (i := 724) (by decide +kernel), List.mem_of_getElem? (i := 898) (by decide +kernel), List.mem_of_getElem? (i := 899) (by decide +kernel)⟩
theorem lw_p27 : lw_okq (⟨"TwinNetworkModel", "two", "(II)I"⟩, 41) := ⟨⟨by decide +kernel, by decide +kernel⟩, List.mem_of_getElem? (i := 724) (by decide +kernel), List.mem_of_getElem? (i := 902) (by decide +kernel), List.mem_of_getElem? (i := 903) (by decide +kernel)⟩
theorem lw_p28 : lw_okq (⟨"TwinNetworkModel", "cell", "(II)I"⟩, 41) := ⟨⟨by decide +kernel, by decide +kernel⟩, List.mem_of_getElem? (i := 724) (by decide +kernel), List.mem_of_getElem? (i := 906) (by decide +kernel), List.mem_of_getElem? (i := 907) (by decide +kernel)⟩
theorem lw_p29 : lw_okq (⟨"TwinNetworkModel", "close", "(II)V"⟩, 41) := ⟨⟨by decide +kernel, by decide +kernel⟩, List.mem_of_getElem? (i := 724) (by decide +kernel), List.mem_of_getElem? (i := 914) (by decide +kernel), List.mem_of_getElem? (i := 915) (by decide +kernel)⟩
theorem lw_p30 : lw_okq (⟨"TwinNetworkModel", "check", "(I)I"⟩, 41) := ⟨⟨by decide +kernel, by decide +kernel⟩, List.mem_of_getElem? (i := 724) (by decide +kernel), List.mem_of_getElem? (i := 918) (by decide +kernel), List.mem_of_getElem? (i := 919) (by decide +kernel)⟩
theorem lw_p31 : lw_okq (⟨"TwinNetworkModel", "enter", "(IIZ)V"⟩, 41) := ⟨⟨by decide +kernel, by decide +kernel⟩, List.mem_of_getElem? (i := 724) (by decide +kernel), List.mem_of_getElem? (i := 923) (by decide +kernel), List.mem_of_getElem? (i := 924) (by decide +kernel)⟩
def lw_privs_2 : List (MethodName × Nat) := [(⟨"TwinNetwork", "portAt", "(II)LTwinNetwork$Port;"⟩, 6), (⟨"TwinNetwork", "ticksOfAllLinks", "(I)I"⟩, 6), (⟨"java/lang/Throwable", "fillInStackTrace", "(I)Ljava/lang/Throwable;"⟩, 6), (⟨"TwinNetwork$Link", "fragmentRoom", "()I"⟩, 15), (⟨"TwinNetworkModel", "isLink", "(I)Z"⟩, 41), (⟨"TwinNetworkModel", "piece", "(I)I"⟩, 41), (⟨"TwinNetworkModel", "shape", "(I)V"⟩, 41), (⟨"TwinNetworkModel", "frame", "(IIIIIIZ)I"⟩, 41), (⟨"TwinNetworkModel", "take", "()I"⟩, 41), (⟨"TwinNetworkModel", "put", "(III)V"⟩, 41), (⟨"TwinNetworkModel", "sum", "(I)I"⟩, 41), (⟨"TwinNetworkModel", "two", "(II)I"⟩, 41), (⟨"TwinNetworkModel", "cell", "(II)I"⟩, 41), (⟨"TwinNetworkModel", "close", "(II)V"⟩, 41), (⟨"TwinNetworkModel", "check", "(I)I"⟩, 41), (⟨"TwinNetworkModel", "enter", "(IIZ)V"⟩, 41)]
theorem lw_r2 : ∀ q ∈ lw_privs_2, lw_okq q := List.forall_mem_cons.mpr ⟨lw_p16, List.forall_mem_cons.mpr ⟨lw_p17, List.forall_mem_cons.mpr ⟨lw_p18, List.forall_mem_cons.mpr ⟨lw_p19, List.forall_mem_cons.mpr ⟨lw_p20, List.forall_mem_cons.mpr ⟨lw_p21, List.forall_mem_cons.mpr ⟨lw_p22, List.forall_mem_cons.mpr ⟨lw_p23, List.forall_mem_cons.mpr ⟨lw_p24, List.forall_mem_cons.mpr ⟨lw_p25, List.forall_mem_cons.mpr ⟨lw_p26, List.forall_mem_cons.mpr ⟨lw_p27, List.forall_mem_cons.mpr ⟨lw_p28, List.forall_mem_cons.mpr ⟨lw_p29, List.forall_mem_cons.mpr ⟨lw_p30, List.forall_mem_cons.mpr ⟨lw_p31, fun _ h => absurd h List.not_mem_nil⟩⟩⟩⟩⟩⟩⟩⟩⟩⟩⟩⟩⟩⟩⟩⟩
theorem lw_p32 : lw_okq (⟨"TwinNetworkModel", "drop", "(II)V"⟩, 41) := ⟨⟨by decide +kernel, by decide +kernel⟩, List.mem_of_getElem? (i := 724) (by decide +kernel), List.mem_of_getElem? (i := 927) (by decide +kernel), List.mem_of_getElem? (i := 928) (by decide +kernel)⟩
theorem lw_p33 : lw_okq (⟨"TwinNetworkModel", "move", "(I)V"⟩, 41) := ⟨⟨by decide +kernel, by decide +kernel⟩, List.mem_of_getElem? (i := 724) (by decide +kernel), List.mem_of_getElem? (i := 931) (by decide +kernel), List.mem_of_getElem? (i := 932) (by decide +kernel)⟩
theorem lw_p34 : lw_okq (⟨"TwinNetworkModel", "atEnd", "(III)V"⟩, 41) := ⟨⟨by decide +kernel, by decide +kernel⟩, List.mem_of_getElem? (i := 724) (by decide +kernel), List.mem_of_getElem? (i := 938) (by decide +kernel), List.mem_of_getElem? (i := 939) (by decide +kernel)⟩
theorem lw_p35 : lw_okq (⟨"TwinNetworkModel", "linkOf", "(I)I"⟩, 41) := ⟨⟨by decide +kernel, by decide +kernel⟩, List.mem_of_getElem? (i := 724) (by decide +kernel), List.mem_of_getElem? (i := 942) (by decide +kernel), List.mem_of_getElem? (i := 943) (by decide +kernel)⟩
theorem lw_p36 : lw_okq (⟨"TwinNetworkModel", "isSound", "(I)Z"⟩, 41) := ⟨⟨by decide +kernel, by decide +kernel⟩, List.mem_of_getElem? (i := 724) (by decide +kernel), List.mem_of_getElem? (i := 946) (by decide +kernel), List.mem_of_getElem? (i := 947) (by decide +kernel)⟩
theorem lw_p37 : lw_okq (⟨"TwinNetworkModel", "isTarget", "(II)Z"⟩, 41) := ⟨⟨by decide +kernel, by decide +kernel⟩, List.mem_of_getElem? (i := 724) (by decide +kernel), List.mem_of_getElem? (i := 950) (by decide +kernel), List.mem_of_getElem? (i := 951) (by decide +kernel)⟩
theorem lw_p38 : lw_okq (⟨"TwinNetworkModel", "hasHead", "(I)Z"⟩, 41) := ⟨⟨by decide +kernel, by decide +kernel⟩, List.mem_of_getElem? (i := 724) (by decide +kernel), List.mem_of_getElem? (i := 954) (by decide +kernel), List.mem_of_getElem? (i := 955) (by decide +kernel)⟩
theorem lw_p39 : lw_okq (⟨"TwinNetworkModel", "arrive", "(IIII)I"⟩, 41) := ⟨⟨by decide +kernel, by decide +kernel⟩, List.mem_of_getElem? (i := 724) (by decide +kernel), List.mem_of_getElem? (i := 958) (by decide +kernel), List.mem_of_getElem? (i := 959) (by decide +kernel)⟩
theorem lw_p40 : lw_okq (⟨"TwinNetworkModel", "join", "(II)I"⟩, 41) := ⟨⟨by decide +kernel, by decide +kernel⟩, List.mem_of_getElem? (i := 724) (by decide +kernel), List.mem_of_getElem? (i := 965) (by decide +kernel), List.mem_of_getElem? (i := 966) (by decide +kernel)⟩
theorem lw_p41 : lw_okq (⟨"TwinNetworkModel", "atSwitch", "(III)V"⟩, 41) := ⟨⟨by decide +kernel, by decide +kernel⟩, List.mem_of_getElem? (i := 724) (by decide +kernel), List.mem_of_getElem? (i := 969) (by decide +kernel), List.mem_of_getElem? (i := 970) (by decide +kernel)⟩
theorem lw_p42 : lw_okq (⟨"TwinNetworkModel", "isOnPath", "(II)Z"⟩, 41) := ⟨⟨by decide +kernel, by decide +kernel⟩, List.mem_of_getElem? (i := 724) (by decide +kernel), List.mem_of_getElem? (i := 973) (by decide +kernel), List.mem_of_getElem? (i := 974) (by decide +kernel)⟩
theorem lw_p43 : lw_okq (⟨"TwinNetworkModel", "load", "(I)V"⟩, 41) := ⟨⟨by decide +kernel, by decide +kernel⟩, List.mem_of_getElem? (i := 724) (by decide +kernel), List.mem_of_getElem? (i := 983) (by decide +kernel), List.mem_of_getElem? (i := 984) (by decide +kernel)⟩
theorem lw_p44 : lw_okq (⟨"TwinNetworkModel", "pull", "(I)I"⟩, 41) := ⟨⟨by decide +kernel, by decide +kernel⟩, List.mem_of_getElem? (i := 724) (by decide +kernel), List.mem_of_getElem? (i := 987) (by decide +kernel), List.mem_of_getElem? (i := 988) (by decide +kernel)⟩
def lw_privs_3 : List (MethodName × Nat) := [(⟨"TwinNetworkModel", "drop", "(II)V"⟩, 41), (⟨"TwinNetworkModel", "move", "(I)V"⟩, 41), (⟨"TwinNetworkModel", "atEnd", "(III)V"⟩, 41), (⟨"TwinNetworkModel", "linkOf", "(I)I"⟩, 41), (⟨"TwinNetworkModel", "isSound", "(I)Z"⟩, 41), (⟨"TwinNetworkModel", "isTarget", "(II)Z"⟩, 41), (⟨"TwinNetworkModel", "hasHead", "(I)Z"⟩, 41), (⟨"TwinNetworkModel", "arrive", "(IIII)I"⟩, 41), (⟨"TwinNetworkModel", "join", "(II)I"⟩, 41), (⟨"TwinNetworkModel", "atSwitch", "(III)V"⟩, 41), (⟨"TwinNetworkModel", "isOnPath", "(II)Z"⟩, 41), (⟨"TwinNetworkModel", "load", "(I)V"⟩, 41), (⟨"TwinNetworkModel", "pull", "(I)I"⟩, 41)]
theorem lw_r3 : ∀ q ∈ lw_privs_3, lw_okq q := List.forall_mem_cons.mpr ⟨lw_p32, List.forall_mem_cons.mpr ⟨lw_p33, List.forall_mem_cons.mpr ⟨lw_p34, List.forall_mem_cons.mpr ⟨lw_p35, List.forall_mem_cons.mpr ⟨lw_p36, List.forall_mem_cons.mpr ⟨lw_p37, List.forall_mem_cons.mpr ⟨lw_p38, List.forall_mem_cons.mpr ⟨lw_p39, List.forall_mem_cons.mpr ⟨lw_p40, List.forall_mem_cons.mpr ⟨lw_p41, List.forall_mem_cons.mpr ⟨lw_p42, List.forall_mem_cons.mpr ⟨lw_p43, List.forall_mem_cons.mpr ⟨lw_p44, fun _ h => absurd h List.not_mem_nil⟩⟩⟩⟩⟩⟩⟩⟩⟩⟩⟩⟩⟩
def lw_privs : List (MethodName × Nat) := lw_privs_1 ++ (lw_privs_2 ++ (lw_privs_3))
def lw_tbl : List Cond := k2_sels lw_privs ++ tables_1
theorem lw_privs_ok : ∀ q ∈ lw_privs, lw_okq q := by
  show ∀ q ∈ lw_privs_1 ++ (lw_privs_2 ++ (lw_privs_3)), lw_okq q
  exact List.forall_mem_append.mpr ⟨lw_r1, List.forall_mem_append.mpr ⟨lw_r2, lw_r3⟩⟩

/-! classes, their fields -/
def cn_Datagram : String := "TwinNetwork$Datagram"
def cT_Datagram : u_T := fun k => match k with
  | 0 => ("TwinNetwork$Datagram", "bytes", "[B", true)
  | _ => ("TwinNetwork$Datagram", "length", "I", false)
def cy_Datagram : Nat → FieldType := fun k => match k with
  | 0 => .array .byte
  | _ => .int
theorem cn_Datagram_nm : ∀ a, a < 2 → ∀ b, b < 2 → a ≠ b → (cT_Datagram a).2.1 ≠ (cT_Datagram b).2.1 := by decide +kernel
theorem cn_Datagram_ty : ∀ k, k < 2 → parseFieldDescriptor (cT_Datagram k).2.2.1 = some (cy_Datagram k) := by decide +kernel
def cn_Fragment : String := "TwinNetwork$Fragment"
def cT_Fragment : u_T := fun k => match k with
  | 0 => ("TwinNetwork$Fragment", "messageNumber", "I", false)
  | 1 => ("TwinNetwork$Fragment", "messageSize", "I", false)
  | 2 => ("TwinNetwork$Fragment", "seed", "I", false)
  | 3 => ("TwinNetwork$Fragment", "place", "I", false)
  | 4 => ("TwinNetwork$Fragment", "length", "I", false)
  | _ => ("TwinNetwork$Fragment", "moreFollow", "Z", false)
def cy_Fragment : Nat → FieldType := fun k => match k with
  | 0 => .int
  | 1 => .int
  | 2 => .int
  | 3 => .int
  | 4 => .int
  | _ => .boolean
theorem cn_Fragment_nm : ∀ a, a < 6 → ∀ b, b < 6 → a ≠ b → (cT_Fragment a).2.1 ≠ (cT_Fragment b).2.1 := by decide +kernel
theorem cn_Fragment_ty : ∀ k, k < 6 → parseFieldDescriptor (cT_Fragment k).2.2.1 = some (cy_Fragment k) := by decide +kernel
def cn_Frame : String := "TwinNetwork$Frame"
def cT_Frame : u_T := fun k => match k with
  | 0 => ("TwinNetwork$Frame", "bytes", "[B", true)
  | _ => ("TwinNetwork$Frame", "size", "I", false)
def cy_Frame : Nat → FieldType := fun k => match k with
  | 0 => .array .byte
  | _ => .int
theorem cn_Frame_nm : ∀ a, a < 2 → ∀ b, b < 2 → a ≠ b → (cT_Frame a).2.1 ≠ (cT_Frame b).2.1 := by decide +kernel
theorem cn_Frame_ty : ∀ k, k < 2 → parseFieldDescriptor (cT_Frame k).2.2.1 = some (cy_Frame k) := by decide +kernel
def cn_Line : String := "TwinNetwork$Line"
def cT_Line : u_T := fun k => match k with
  | 0 => ("TwinNetwork$Line", "plainRow", "LTwinNetwork$Row;", true)
  | 1 => ("TwinNetwork$Line", "highRow", "LTwinNetwork$Row;", true)
  | 2 => ("TwinNetwork$Line", "hasOneRow", "Z", true)
  | 3 => ("TwinNetwork$Line", "frame", "LTwinNetwork$Frame;", false)
  | 4 => ("TwinNetwork$Line", "isBusy", "Z", false)
  | 5 => ("TwinNetwork$Line", "gone", "I", false)
  | 6 => ("TwinNetwork$Line", "expectsHarm", "Z", false)
  | 7 => ("TwinNetwork$Line", "harmPlace", "I", false)
  | _ => ("TwinNetwork$Line", "harmMask", "I", false)
def cy_Line : Nat → FieldType := fun k => match k with
  | 0 => .object "TwinNetwork$Row"
  | 1 => .object "TwinNetwork$Row"
  | 2 => .boolean
  | 3 => .object "TwinNetwork$Frame"
  | 4 => .boolean
  | 5 => .int
  | 6 => .boolean
  | 7 => .int
  | _ => .int
theorem cn_Line_nm : ∀ a, a < 9 → ∀ b, b < 9 → a ≠ b → (cT_Line a).2.1 ≠ (cT_Line b).2.1 := by decide +kernel
theorem cn_Line_ty : ∀ k, k < 9 → parseFieldDescriptor (cT_Line k).2.2.1 = some (cy_Line k) := by decide +kernel
def cn_Link : String := "TwinNetwork$Link"
def cT_Link : u_T := fun k => match k with
  | 0 => ("TwinNetwork$Link", "number", "I", true)
  | 1 => ("TwinNetwork$Link", "source", "I", true)
  | 2 => ("TwinNetwork$Link", "gap", "I", true)
  | 3 => ("TwinNetwork$Link", "most", "I", true)
  | 4 => ("TwinNetwork$Link", "isHigh", "Z", true)
  | 5 => ("TwinNetwork$Link", "isQueuing", "Z", true)
  | 6 => ("TwinNetwork$Link", "paths", "I", true)
  | 7 => ("TwinNetwork$Link", "ports", "[LTwinNetwork$Port;", true)
  | 8 => ("TwinNetwork$Link", "accounts", "[I", true)
  | 9 => ("TwinNetwork$Link", "waitingOnes", "[LTwinNetwork$Fragment;", true)
  | 10 => ("TwinNetwork$Link", "firstFragment", "I", false)
  | 11 => ("TwinNetwork$Link", "fragmentCount", "I", false)
  | 12 => ("TwinNetwork$Link", "messageCount", "I", false)
  | 13 => ("TwinNetwork$Link", "sequence", "I", false)
  | _ => ("TwinNetwork$Link", "openAt", "I", false)
def cy_Link : Nat → FieldType := fun k => match k with
  | 0 => .int
  | 1 => .int
  | 2 => .int
  | 3 => .int
  | 4 => .boolean
  | 5 => .boolean
  | 6 => .int
  | 7 => .array (.object "TwinNetwork$Port")
  | 8 => .array .int
  | 9 => .array (.object "TwinNetwork$Fragment")
  | 10 => .int
  | 11 => .int
  | 12 => .int
  | 13 => .int
  | _ => .int
theorem cn_Link_nm : ∀ a, a < 15 → ∀ b, b < 15 → a ≠ b → (cT_Link a).2.1 ≠ (cT_Link b).2.1 := by decide +kernel
theorem cn_Link_ty : ∀ k, k < 15 → parseFieldDescriptor (cT_Link k).2.2.1 = some (cy_Link k) := by decide +kernel
def cn_Port : String := "TwinNetwork$Port"
def cT_Port : u_T := fun k => match k with
  | 0 => ("TwinNetwork$Port", "isQueuing", "Z", true)
  | 1 => ("TwinNetwork$Port", "skew", "I", true)
  | 2 => ("TwinNetwork$Port", "lastSequences", "[I", true)
  | 3 => ("TwinNetwork$Port", "takenSequence", "I", false)
  | 4 => ("TwinNetwork$Port", "takenAt", "I", false)
  | 5 => ("TwinNetwork$Port", "isBegun", "Z", false)
  | 6 => ("TwinNetwork$Port", "begunNumber", "I", false)
  | 7 => ("TwinNetwork$Port", "begun", "LTwinNetwork$Datagram;", false)
  | 8 => ("TwinNetwork$Port", "kept", "[LTwinNetwork$Datagram;", true)
  | 9 => ("TwinNetwork$Port", "firstKept", "I", false)
  | 10 => ("TwinNetwork$Port", "keptCount", "I", false)
  | _ => ("TwinNetwork$Port", "cameAt", "I", false)
def cy_Port : Nat → FieldType := fun k => match k with
  | 0 => .boolean
  | 1 => .int
  | 2 => .array .int
  | 3 => .int
  | 4 => .int
  | 5 => .boolean
  | 6 => .int
  | 7 => .object "TwinNetwork$Datagram"
  | 8 => .array (.object "TwinNetwork$Datagram")
  | 9 => .int
  | 10 => .int
  | _ => .int
theorem cn_Port_nm : ∀ a, a < 12 → ∀ b, b < 12 → a ≠ b → (cT_Port a).2.1 ≠ (cT_Port b).2.1 := by decide +kernel
theorem cn_Port_ty : ∀ k, k < 12 → parseFieldDescriptor (cT_Port k).2.2.1 = some (cy_Port k) := by decide +kernel
def cn_Row : String := "TwinNetwork$Row"
def cT_Row : u_T := fun k => match k with
  | 0 => ("TwinNetwork$Row", "slots", "[LTwinNetwork$Frame;", true)
  | 1 => ("TwinNetwork$Row", "first", "I", false)
  | _ => ("TwinNetwork$Row", "count", "I", false)
def cy_Row : Nat → FieldType := fun k => match k with
  | 0 => .array (.object "TwinNetwork$Frame")
  | 1 => .int
  | _ => .int
theorem cn_Row_nm : ∀ a, a < 3 → ∀ b, b < 3 → a ≠ b → (cT_Row a).2.1 ≠ (cT_Row b).2.1 := by decide +kernel
theorem cn_Row_ty : ∀ k, k < 3 → parseFieldDescriptor (cT_Row k).2.2.1 = some (cy_Row k) := by decide +kernel
def cn_Net : String := "TwinNetwork"
def cT_Net : u_T := fun k => match k with
  | 0 => ("TwinNetwork", "links", "[LTwinNetwork$Link;", true)
  | 1 => ("TwinNetwork", "lines", "[LTwinNetwork$Line;", true)
  | 2 => ("TwinNetwork", "dropCounts", "[I", true)
  | 3 => ("TwinNetwork", "draft", "LTwinNetwork$Frame;", true)
  | 4 => ("TwinNetwork", "lastRead", "LTwinNetwork$Datagram;", true)
  | _ => ("TwinNetwork", "time", "I", false)
def cy_Net : Nat → FieldType := fun k => match k with
  | 0 => .array (.object "TwinNetwork$Link")
  | 1 => .array (.object "TwinNetwork$Line")
  | 2 => .array .int
  | 3 => .object "TwinNetwork$Frame"
  | 4 => .object "TwinNetwork$Datagram"
  | _ => .int
theorem cn_Net_nm : ∀ a, a < 6 → ∀ b, b < 6 → a ≠ b → (cT_Net a).2.1 ≠ (cT_Net b).2.1 := by decide +kernel
theorem cn_Net_ty : ∀ k, k < 6 → parseFieldDescriptor (cT_Net k).2.2.1 = some (cy_Net k) := by decide +kernel
def cn_Model : String := "TwinNetworkModel"
def cT_Model : u_T := fun k => match k with
  | 0 => ("TwinNetworkModel", "code", "I", false)
  | 1 => ("TwinNetworkModel", "time", "I", false)
  | 2 => ("TwinNetworkModel", "is", "[Z", true)
  | 3 => ("TwinNetworkModel", "high", "[Z", true)
  | 4 => ("TwinNetworkModel", "queuing", "[Z", true)
  | 5 => ("TwinNetworkModel", "source", "[I", true)
  | 6 => ("TwinNetworkModel", "gap", "[I", true)
  | 7 => ("TwinNetworkModel", "most", "[I", true)
  | 8 => ("TwinNetworkModel", "targets", "[I", true)
  | 9 => ("TwinNetworkModel", "skew", "[I", true)
  | 10 => ("TwinNetworkModel", "open", "[I", true)
  | 11 => ("TwinNetworkModel", "number", "[I", true)
  | 12 => ("TwinNetworkModel", "sequence", "[I", true)
  | 13 => ("TwinNetworkModel", "account", "[I", true)
  | 14 => ("TwinNetworkModel", "waits", "[I", true)
  | 15 => ("TwinNetworkModel", "waitSize", "[I", true)
  | 16 => ("TwinNetworkModel", "waitSeed", "[I", true)
  | 17 => ("TwinNetworkModel", "waitNumber", "[I", true)
  | 18 => ("TwinNetworkModel", "waitPlace", "[I", true)
  | 19 => ("TwinNetworkModel", "bytes", "[I", true)
  | 20 => ("TwinNetworkModel", "sizes", "[I", true)
  | 21 => ("TwinNetworkModel", "used", "[Z", true)
  | 22 => ("TwinNetworkModel", "row", "[I", true)
  | 23 => ("TwinNetworkModel", "rowSize", "[I", true)
  | 24 => ("TwinNetworkModel", "on", "[I", true)
  | 25 => ("TwinNetworkModel", "gone", "[I", true)
  | 26 => ("TwinNetworkModel", "harmPlace", "[I", true)
  | 27 => ("TwinNetworkModel", "harmMask", "[I", true)
  | 28 => ("TwinNetworkModel", "last", "[I", true)
  | 29 => ("TwinNetworkModel", "taken", "[I", true)
  | 30 => ("TwinNetworkModel", "takenAt", "[I", true)
  | 31 => ("TwinNetworkModel", "begunNumber", "[I", true)
  | 32 => ("TwinNetworkModel", "begunSize", "[I", true)
  | 33 => ("TwinNetworkModel", "begun", "[I", true)
  | 34 => ("TwinNetworkModel", "messages", "[I", true)
  | 35 => ("TwinNetworkModel", "messageSize", "[I", true)
  | 36 => ("TwinNetworkModel", "message", "[I", true)
  | 37 => ("TwinNetworkModel", "cameAt", "[I", true)
  | 38 => ("TwinNetworkModel", "dropped", "[I", true)
  | 39 => ("TwinNetworkModel", "given", "[I", true)
  | _ => ("TwinNetworkModel", "givenSize", "I", false)
def cy_Model : Nat → FieldType := fun k => match k with
  | 0 => .int
  | 1 => .int
  | 2 => .array .boolean
  | 3 => .array .boolean
  | 4 => .array .boolean
  | 5 => .array .int
  | 6 => .array .int
  | 7 => .array .int
  | 8 => .array .int
  | 9 => .array .int
  | 10 => .array .int
  | 11 => .array .int
  | 12 => .array .int
  | 13 => .array .int
  | 14 => .array .int
  | 15 => .array .int
  | 16 => .array .int
  | 17 => .array .int
  | 18 => .array .int
  | 19 => .array .int
  | 20 => .array .int
  | 21 => .array .boolean
  | 22 => .array .int
  | 23 => .array .int
  | 24 => .array .int
  | 25 => .array .int
  | 26 => .array .int
  | 27 => .array .int
  | 28 => .array .int
  | 29 => .array .int
  | 30 => .array .int
  | 31 => .array .int
  | 32 => .array .int
  | 33 => .array .int
  | 34 => .array .int
  | 35 => .array .int
  | 36 => .array .int
  | 37 => .array .int
  | 38 => .array .int
  | 39 => .array .int
  | _ => .int
theorem cn_Model_nm : ∀ a, a < 41 → ∀ b, b < 41 → a ≠ b → (cT_Model a).2.1 ≠ (cT_Model b).2.1 := by decide +kernel
theorem cn_Model_ty : ∀ k, k < 41 → parseFieldDescriptor (cT_Model k).2.2.1 = some (cy_Model k) := by decide +kernel
abbrev classes : List vw_C := [(cn_Datagram, cT_Datagram, 2), (cn_Fragment, cT_Fragment, 6), (cn_Frame, cT_Frame, 2), (cn_Line, cT_Line, 9), (cn_Link, cT_Link, 15), (cn_Port, cT_Port, 12), (cn_Row, cT_Row, 3), (cn_Net, cT_Net, 6), (cn_Model, cT_Model, 41)]
def ae_ty (dA : Nat → ClassId) : List (ClassId × FieldType) := [(dA 0, .int), (dA 1, .byte), (dA 2, .boolean), (dA 3, .long), (dA 4, .object "TwinNetwork$Link"), (dA 5, .object "TwinNetwork$Line"), (dA 6, .object "TwinNetwork$Frame"), (dA 7, .object "TwinNetwork$Port"), (dA 8, .object "TwinNetwork$Fragment"), (dA 9, .object "TwinNetwork$Datagram")]
def aw_ec : List Nat := [4, 3, 2, 5, 1, 0]
/-- the words that go from a state to the next by themselves -/
def aw_ok : Cond → Bool
  | .arrayClass _ => true
  | .fieldLinkNest _ _ _ _ _ _ => true
  | .methodLinkNest _ _ _ _ => true
  | .arrayOver (.object _) => true
  | .castable _ _ => true
  | .declares _ => true
  | w => w.onTables && w.keeps
def aw_all : List Cond := lw_tbl.filter aw_ok
theorem aw_i (i : Nat) {w : Cond} (h : lw_tbl[i]? = some w) (ho : aw_ok w = true) : w ∈ aw_all := List.mem_filter.mpr ⟨List.mem_of_getElem? h, ho⟩
theorem aw_warm {a a' : Array Value} {s U : State} (hW : s.WarmedH U.vm) {w : Cond} (ho : aw_ok w = true) (h : w.before a s = true) : w.before a' U = true := by
  by_cases hg : goodWord w = true
  · exact word_at hW (good_of_word hg) h
  · cases w with
    | fieldLinkNest x1 x2 x3 x4 x5 x6 => exact va_Nw.use rfl (va_Nw.warmF hW (va_Nw.of rfl h))
    | methodLinkNest x1 x2 x3 x4 => exact va_Nw.use rfl (va_Nw.warmM hW (va_Nw.of rfl h))
    | castable x1 x2 => exact va_Nw.use rfl (va_Nw.warmC hW (va_Nw.of rfl h))
    | declares x1 => exact va_Nw.use rfl (va_Nw.warmD hW (va_Nw.of rfl h))
    | arrayOver t =>
      cases t with
      | object C => exact va_AO.use ((va_AO.of h).moved hW.alike)
      | _ => exact absurd ho hg
    | _ => exact absurd ho hg
theorem aw_warmAll {a a' : Array Value} {s U : State} (hW : s.WarmedH U.vm) (h : ∀ w ∈ aw_all, w.before a s = true) : ∀ w ∈ aw_all, w.before a' U = true := fun w hw => aw_warm hW (List.mem_filter.mp hw).2 (h w hw)
end
section
theorem aw_oi2 : Jvm.Cond.instanceMethod Lib.objectInit ∈ aw_all := aw_i 68 (by decide +kernel) (by decide +kernel)
theorem aw_oi3 : Jvm.Cond.code Lib.objectInit ⟨#[0xb1]⟩ 1 none ∈ aw_all := aw_i 69 (by decide +kernel) (by decide +kernel)
theorem aw_mn2 : Jvm.Cond.static Lib.Math.min.name ∈ aw_all := aw_i 204 (by decide +kernel) (by decide +kernel)
theorem aw_mn4 : Jvm.Cond.code Lib.Math.min.name Lib.Math.min.code 2 (some .int) ∈ aw_all := aw_i 205 (by decide +kernel) (by decide +kernel)
theorem aw_mx2 : Jvm.Cond.static Lib.Math.max.name ∈ aw_all := aw_i 230 (by decide +kernel) (by decide +kernel)
theorem aw_mx4 : Jvm.Cond.code Lib.Math.max.name Lib.Math.max.code 2 (some .int) ∈ aw_all := aw_i 231 (by decide +kernel) (by decide +kernel)
theorem aw_mt3 : Jvm.Cond.initialized "java/lang/Math" ∈ aw_all := aw_i 60 (by decide +kernel) (by decide +kernel)
theorem aw_cp2 : Jvm.Cond.native arraycopyName ∈ aw_all := aw_i 295 (by decide +kernel) (by decide +kernel)
theorem aw_cp3 : Jvm.Cond.static arraycopyName ∈ aw_all := aw_i 294 (by decide +kernel) (by decide +kernel)
theorem aw_cp4 : Jvm.Cond.initialized "java/lang/System" ∈ aw_all := aw_i 61 (by decide +kernel) (by decide +kernel)
theorem wd_0 : Jvm.Cond.selects "TwinNetwork" (⟨"TwinNetwork", "isQuiet", "()Z"⟩ : MethodName) (⟨"TwinNetwork", "isQuiet", "()Z"⟩ : MethodName) ∈ aw_all := aw_i 0 (by decide +kernel) (by decide +kernel)
theorem wd_1 : Jvm.Cond.selects "TwinNetwork" (⟨"TwinNetwork", "passTime", "(I)V"⟩ : MethodName) (⟨"TwinNetwork", "passTime", "(I)V"⟩ : MethodName) ∈ aw_all := aw_i 1 (by decide +kernel) (by decide +kernel)
theorem wd_2 : Jvm.Cond.selects "TwinNetwork" (⟨"TwinNetwork", "sendFragments", "()V"⟩ : MethodName) (⟨"TwinNetwork", "sendFragments", "()V"⟩ : MethodName) ∈ aw_all := aw_i 2 (by decide +kernel) (by decide +kernel)
theorem wd_3 : Jvm.Cond.selects "TwinNetwork" (⟨"TwinNetwork", "sendFragment", "(LTwinNetwork$Link;)V"⟩ : MethodName) (⟨"TwinNetwork", "sendFragment", "(LTwinNetwork$Link;)V"⟩ : MethodName) ∈ aw_all := aw_i 3 (by decide +kernel) (by decide +kernel)
theorem wd_4 : Jvm.Cond.selects "TwinNetwork$Frame" (⟨"TwinNetwork$Frame", "sum", "()I"⟩ : MethodName) (⟨"TwinNetwork$Frame", "sum", "()I"⟩ : MethodName) ∈ aw_all := aw_i 4 (by decide +kernel) (by decide +kernel)
theorem wd_5 : Jvm.Cond.selects "TwinNetwork$Frame" (⟨"TwinNetwork$Frame", "check", "()I"⟩ : MethodName) (⟨"TwinNetwork$Frame", "check", "()I"⟩ : MethodName) ∈ aw_all := aw_i 5 (by decide +kernel) (by decide +kernel)
theorem wd_6 : Jvm.Cond.selects "TwinNetwork" (⟨"TwinNetwork", "enqueue", "(IIZLTwinNetwork$Frame;)Z"⟩ : MethodName) (⟨"TwinNetwork", "enqueue", "(IIZLTwinNetwork$Frame;)Z"⟩ : MethodName) ∈ aw_all := aw_i 6 (by decide +kernel) (by decide +kernel)
theorem wd_7 : Jvm.Cond.selects "TwinNetwork" (⟨"TwinNetwork", "lineAt", "(II)LTwinNetwork$Line;"⟩ : MethodName) (⟨"TwinNetwork", "lineAt", "(II)LTwinNetwork$Line;"⟩ : MethodName) ∈ aw_all := aw_i 7 (by decide +kernel) (by decide +kernel)
theorem wd_8 : Jvm.Cond.selects "TwinNetwork" (⟨"TwinNetwork", "moveFrames", "()V"⟩ : MethodName) (⟨"TwinNetwork", "moveFrames", "()V"⟩ : MethodName) ∈ aw_all := aw_i 8 (by decide +kernel) (by decide +kernel)
theorem wd_9 : Jvm.Cond.selects "TwinNetwork" (⟨"TwinNetwork", "enterSystem", "(IILTwinNetwork$Frame;)I"⟩ : MethodName) (⟨"TwinNetwork", "enterSystem", "(IILTwinNetwork$Frame;)I"⟩ : MethodName) ∈ aw_all := aw_i 9 (by decide +kernel) (by decide +kernel)
theorem wd_10 : Jvm.Cond.selects "TwinNetwork" (⟨"TwinNetwork", "linkAt", "(I)LTwinNetwork$Link;"⟩ : MethodName) (⟨"TwinNetwork", "linkAt", "(I)LTwinNetwork$Link;"⟩ : MethodName) ∈ aw_all := aw_i 10 (by decide +kernel) (by decide +kernel)
theorem wd_11 : Jvm.Cond.selects "TwinNetwork$Port" (⟨"TwinNetwork$Port", "isToBeTaken", "(II)Z"⟩ : MethodName) (⟨"TwinNetwork$Port", "isToBeTaken", "(II)Z"⟩ : MethodName) ∈ aw_all := aw_i 11 (by decide +kernel) (by decide +kernel)
theorem wd_12 : Jvm.Cond.selects "TwinNetwork$Port" (⟨"TwinNetwork$Port", "keepBegun", "(I)I"⟩ : MethodName) (⟨"TwinNetwork$Port", "keepBegun", "(I)I"⟩ : MethodName) ∈ aw_all := aw_i 12 (by decide +kernel) (by decide +kernel)
theorem wd_13 : Jvm.Cond.selects "TwinNetwork" (⟨"TwinNetwork", "passSwitch", "(IILTwinNetwork$Frame;)I"⟩ : MethodName) (⟨"TwinNetwork", "passSwitch", "(IILTwinNetwork$Frame;)I"⟩ : MethodName) ∈ aw_all := aw_i 13 (by decide +kernel) (by decide +kernel)
theorem wd_14 : Jvm.Cond.selects "TwinNetwork" (⟨"TwinNetwork", "takeFrames", "()V"⟩ : MethodName) (⟨"TwinNetwork", "takeFrames", "()V"⟩ : MethodName) ∈ aw_all := aw_i 14 (by decide +kernel) (by decide +kernel)
theorem wd_15 : Jvm.Cond.selects "TwinNetwork$Line" (⟨"TwinNetwork$Line", "takeFirst", "()V"⟩ : MethodName) (⟨"TwinNetwork$Line", "takeFirst", "()V"⟩ : MethodName) ∈ aw_all := aw_i 15 (by decide +kernel) (by decide +kernel)
theorem wd_16 : Jvm.Cond.selects "TwinNetwork" (⟨"TwinNetwork", "portAt", "(II)LTwinNetwork$Port;"⟩ : MethodName) (⟨"TwinNetwork", "portAt", "(II)LTwinNetwork$Port;"⟩ : MethodName) ∈ aw_all := aw_i 16 (by decide +kernel) (by decide +kernel)
theorem wd_17 : Jvm.Cond.selects "TwinNetwork" (⟨"TwinNetwork", "ticksOfAllLinks", "(I)I"⟩ : MethodName) (⟨"TwinNetwork", "ticksOfAllLinks", "(I)I"⟩ : MethodName) ∈ aw_all := aw_i 17 (by decide +kernel) (by decide +kernel)
theorem wd_19 : Jvm.Cond.selects "TwinNetwork$Link" (⟨"TwinNetwork$Link", "fragmentRoom", "()I"⟩ : MethodName) (⟨"TwinNetwork$Link", "fragmentRoom", "()I"⟩ : MethodName) ∈ aw_all := aw_i 19 (by decide +kernel) (by decide +kernel)
theorem wd_20 : Jvm.Cond.selects "TwinNetworkModel" (⟨"TwinNetworkModel", "isLink", "(I)Z"⟩ : MethodName) (⟨"TwinNetworkModel", "isLink", "(I)Z"⟩ : MethodName) ∈ aw_all := aw_i 20 (by decide +kernel) (by decide +kernel)
theorem wd_21 : Jvm.Cond.selects "TwinNetworkModel" (⟨"TwinNetworkModel", "piece", "(I)I"⟩ : MethodName) (⟨"TwinNetworkModel", "piece", "(I)I"⟩ : MethodName) ∈ aw_all := aw_i 21 (by decide +kernel) (by decide +kernel)
theorem wd_22 : Jvm.Cond.selects "TwinNetworkModel" (⟨"TwinNetworkModel", "shape", "(I)V"⟩ : MethodName) (⟨"TwinNetworkModel", "shape", "(I)V"⟩ : MethodName) ∈ aw_all := aw_i 22 (by decide +kernel) (by decide +kernel)
theorem wd_23 : Jvm.Cond.selects "TwinNetworkModel" (⟨"TwinNetworkModel", "frame", "(IIIIIIZ)I"⟩ : MethodName) (⟨"TwinNetworkModel", "frame", "(IIIIIIZ)I"⟩ : MethodName) ∈ aw_all := aw_i 23 (by decide +kernel) (by decide +kernel)
theorem wd_24 : Jvm.Cond.selects "TwinNetworkModel" (⟨"TwinNetworkModel", "take", "()I"⟩ : MethodName) (⟨"TwinNetworkModel", "take", "()I"⟩ : MethodName) ∈ aw_all := aw_i 24 (by decide +kernel) (by decide +kernel)
theorem wd_25 : Jvm.Cond.selects "TwinNetworkModel" (⟨"TwinNetworkModel", "put", "(III)V"⟩ : MethodName) (⟨"TwinNetworkModel", "put", "(III)V"⟩ : MethodName) ∈ aw_all := aw_i 25 (by decide +kernel) (by decide +kernel)
theorem wd_26 : Jvm.Cond.selects "TwinNetworkModel" (⟨"TwinNetworkModel", "sum", "(I)I"⟩ : MethodName) (⟨"TwinNetworkModel", "sum", "(I)I"⟩ : MethodName) ∈ aw_all := aw_i 26 (by decide +kernel) (by decide +kernel)
theorem wd_27 : Jvm.Cond.selects "TwinNetworkModel" (⟨"TwinNetworkModel", "two", "(II)I"⟩ : MethodName) (⟨"TwinNetworkModel", "two", "(II)I"⟩ : MethodName) ∈ aw_all := aw_i 27 (by decide +kernel) (by decide +kernel)
theorem wd_28 : Jvm.Cond.selects "TwinNetworkModel" (⟨"TwinNetworkModel", "cell", "(II)I"⟩ : MethodName) (⟨"TwinNetworkModel", "cell", "(II)I"⟩ : MethodName) ∈ aw_all := aw_i 28 (by decide +kernel) (by decide +kernel)
theorem wd_29 : Jvm.Cond.selects "TwinNetworkModel" (⟨"TwinNetworkModel", "close", "(II)V"⟩ : MethodName) (⟨"TwinNetworkModel", "close", "(II)V"⟩ : MethodName) ∈ aw_all := aw_i 29 (by decide +kernel) (by decide +kernel)
theorem wd_30 : Jvm.Cond.selects "TwinNetworkModel" (⟨"TwinNetworkModel", "check", "(I)I"⟩ : MethodName) (⟨"TwinNetworkModel", "check", "(I)I"⟩ : MethodName) ∈ aw_all := aw_i 30 (by decide +kernel) (by decide +kernel)
theorem wd_31 : Jvm.Cond.selects "TwinNetworkModel" (⟨"TwinNetworkModel", "enter", "(IIZ)V"⟩ : MethodName) (⟨"TwinNetworkModel", "enter", "(IIZ)V"⟩ : MethodName) ∈ aw_all := aw_i 31 (by decide +kernel) (by decide +kernel)
theorem wd_32 : Jvm.Cond.selects "TwinNetworkModel" (⟨"TwinNetworkModel", "drop", "(II)V"⟩ : MethodName) (⟨"TwinNetworkModel", "drop", "(II)V"⟩ : MethodName) ∈ aw_all := aw_i 32 (by decide +kernel) (by decide +kernel)
theorem wd_33 : Jvm.Cond.selects "TwinNetworkModel" (⟨"TwinNetworkModel", "move", "(I)V"⟩ : MethodName) (⟨"TwinNetworkModel", "move", "(I)V"⟩ : MethodName) ∈ aw_all := aw_i 33 (by decide +kernel) (by decide +kernel)
theorem wd_34 : Jvm.Cond.selects "TwinNetworkModel" (⟨"TwinNetworkModel", "atEnd", "(III)V"⟩ : MethodName) (⟨"TwinNetworkModel", "atEnd", "(III)V"⟩ : MethodName) ∈ aw_all := aw_i 34 (by decide +kernel) (by decide +kernel)
theorem wd_35 : Jvm.Cond.selects "TwinNetworkModel" (⟨"TwinNetworkModel", "linkOf", "(I)I"⟩ : MethodName) (⟨"TwinNetworkModel", "linkOf", "(I)I"⟩ : MethodName) ∈ aw_all := aw_i 35 (by decide +kernel) (by decide +kernel)
theorem wd_36 : Jvm.Cond.selects "TwinNetworkModel" (⟨"TwinNetworkModel", "isSound", "(I)Z"⟩ : MethodName) (⟨"TwinNetworkModel", "isSound", "(I)Z"⟩ : MethodName) ∈ aw_all := aw_i 36 (by decide +kernel) (by decide +kernel)
theorem wd_37 : Jvm.Cond.selects "TwinNetworkModel" (⟨"TwinNetworkModel", "isTarget", "(II)Z"⟩ : MethodName) (⟨"TwinNetworkModel", "isTarget", "(II)Z"⟩ : MethodName) ∈ aw_all := aw_i 37 (by decide +kernel) (by decide +kernel)
theorem wd_38 : Jvm.Cond.selects "TwinNetworkModel" (⟨"TwinNetworkModel", "hasHead", "(I)Z"⟩ : MethodName) (⟨"TwinNetworkModel", "hasHead", "(I)Z"⟩ : MethodName) ∈ aw_all := aw_i 38 (by decide +kernel) (by decide +kernel)
theorem wd_39 : Jvm.Cond.selects "TwinNetworkModel" (⟨"TwinNetworkModel", "arrive", "(IIII)I"⟩ : MethodName) (⟨"TwinNetworkModel", "arrive", "(IIII)I"⟩ : MethodName) ∈ aw_all := aw_i 39 (by decide +kernel) (by decide +kernel)
theorem wd_40 : Jvm.Cond.selects "TwinNetworkModel" (⟨"TwinNetworkModel", "join", "(II)I"⟩ : MethodName) (⟨"TwinNetworkModel", "join", "(II)I"⟩ : MethodName) ∈ aw_all := aw_i 40 (by decide +kernel) (by decide +kernel)
theorem wd_41 : Jvm.Cond.selects "TwinNetworkModel" (⟨"TwinNetworkModel", "atSwitch", "(III)V"⟩ : MethodName) (⟨"TwinNetworkModel", "atSwitch", "(III)V"⟩ : MethodName) ∈ aw_all := aw_i 41 (by decide +kernel) (by decide +kernel)
theorem wd_42 : Jvm.Cond.selects "TwinNetworkModel" (⟨"TwinNetworkModel", "isOnPath", "(II)Z"⟩ : MethodName) (⟨"TwinNetworkModel", "isOnPath", "(II)Z"⟩ : MethodName) ∈ aw_all := aw_i 42 (by decide +kernel) (by decide +kernel)
theorem wd_43 : Jvm.Cond.selects "TwinNetworkModel" (⟨"TwinNetworkModel", "load", "(I)V"⟩ : MethodName) (⟨"TwinNetworkModel", "load", "(I)V"⟩ : MethodName) ∈ aw_all := aw_i 43 (by decide +kernel) (by decide +kernel)
theorem wd_44 : Jvm.Cond.selects "TwinNetworkModel" (⟨"TwinNetworkModel", "pull", "(I)I"⟩ : MethodName) (⟨"TwinNetworkModel", "pull", "(I)I"⟩ : MethodName) ∈ aw_all := aw_i 44 (by decide +kernel) (by decide +kernel)
theorem wd_45 : Jvm.Cond.initialized "TwinNetworkLaw" ∈ aw_all := aw_i 45 (by decide +kernel) (by decide +kernel)
theorem wd_46 : Jvm.Cond.initialized "TwinNetwork" ∈ aw_all := aw_i 46 (by decide +kernel) (by decide +kernel)
theorem wd_47 : Jvm.Cond.initialized "TwinNetwork$Frame" ∈ aw_all := aw_i 47 (by decide +kernel) (by decide +kernel)
theorem wd_48 : Jvm.Cond.initialized "TwinNetwork$Datagram" ∈ aw_all := aw_i 48 (by decide +kernel) (by decide +kernel)
theorem wd_49 : Jvm.Cond.initialized "TwinNetwork$Line" ∈ aw_all := aw_i 49 (by decide +kernel) (by decide +kernel)
theorem wd_50 : Jvm.Cond.initialized "TwinNetwork$Row" ∈ aw_all := aw_i 50 (by decide +kernel) (by decide +kernel)
theorem wd_51 : Jvm.Cond.initialized "TwinNetworkModel" ∈ aw_all := aw_i 51 (by decide +kernel) (by decide +kernel)
theorem wd_57 : Jvm.Cond.initialized "TwinNetwork$Link" ∈ aw_all := aw_i 57 (by decide +kernel) (by decide +kernel)
theorem wd_58 : Jvm.Cond.initialized "TwinNetwork$Port" ∈ aw_all := aw_i 58 (by decide +kernel) (by decide +kernel)
theorem wd_59 : Jvm.Cond.initialized "TwinNetwork$Fragment" ∈ aw_all := aw_i 59 (by decide +kernel) (by decide +kernel)
theorem wd_62 : Jvm.Cond.classLink "TwinNetworkLaw" 8 "TwinNetwork" ∈ aw_all := aw_i 62 (by decide +kernel) (by decide +kernel)
theorem wd_63 : Jvm.Cond.instantiable "TwinNetwork" 6 ∈ aw_all := aw_i 63 (by decide +kernel) (by decide +kernel)
theorem wd_64 : Jvm.Cond.methodLink "TwinNetworkLaw" 25 (⟨"TwinNetwork", "<init>", "()V"⟩ : MethodName) ∈ aw_all := aw_i 64 (by decide +kernel) (by decide +kernel)
theorem wd_65 : Jvm.Cond.instanceMethod (⟨"TwinNetwork", "<init>", "()V"⟩ : MethodName) ∈ aw_all := aw_i 65 (by decide +kernel) (by decide +kernel)
theorem wd_66 : Jvm.Cond.code (⟨"TwinNetwork", "<init>", "()V"⟩ : MethodName) prog_1_method_1_code 2 (Option.none : Option Jvm.ClassFile.FieldType) ∈ aw_all := aw_i 66 (by decide +kernel) (by decide +kernel)
theorem wd_67 : Jvm.Cond.methodLink "TwinNetwork" 1 (⟨"java/lang/Object", "<init>", "()V"⟩ : MethodName) ∈ aw_all := aw_i 67 (by decide +kernel) (by decide +kernel)
theorem wd_70 : Jvm.Cond.classLink "TwinNetwork" 9 "TwinNetwork$Link" ∈ aw_all := aw_i 70 (by decide +kernel) (by decide +kernel)
theorem wd_71 : Jvm.Cond.arrayOver (Jvm.ClassFile.FieldType.object "TwinNetwork$Link") ∈ aw_all := aw_i 71 (by decide +kernel) (by decide +kernel)
theorem wd_72 : Jvm.Cond.classLink "TwinNetwork" 15 "TwinNetwork$Line" ∈ aw_all := aw_i 72 (by decide +kernel) (by decide +kernel)
theorem wd_73 : Jvm.Cond.arrayOver (Jvm.ClassFile.FieldType.object "TwinNetwork$Line") ∈ aw_all := aw_i 73 (by decide +kernel) (by decide +kernel)
theorem wd_74 : Jvm.Cond.classLink "TwinNetwork" 25 "TwinNetwork$Frame" ∈ aw_all := aw_i 74 (by decide +kernel) (by decide +kernel)
theorem wd_75 : Jvm.Cond.instantiable "TwinNetwork$Frame" 2 ∈ aw_all := aw_i 75 (by decide +kernel) (by decide +kernel)
theorem wd_76 : Jvm.Cond.methodLinkNest "TwinNetwork" 27 (⟨"TwinNetwork$Frame", "<init>", "()V"⟩ : MethodName) "TwinNetwork" ∈ aw_all := aw_i 76 (by decide +kernel) (by decide +kernel)
theorem wd_77 : Jvm.Cond.instanceMethod (⟨"TwinNetwork$Frame", "<init>", "()V"⟩ : MethodName) ∈ aw_all := aw_i 77 (by decide +kernel) (by decide +kernel)
theorem wd_78 : Jvm.Cond.code (⟨"TwinNetwork$Frame", "<init>", "()V"⟩ : MethodName) prog_4_method_1_code 1 (Option.none : Option Jvm.ClassFile.FieldType) ∈ aw_all := aw_i 78 (by decide +kernel) (by decide +kernel)
theorem wd_79 : Jvm.Cond.methodLink "TwinNetwork$Frame" 3 (⟨"java/lang/Object", "<init>", "()V"⟩ : MethodName) ∈ aw_all := aw_i 79 (by decide +kernel) (by decide +kernel)
theorem wd_80 : Jvm.Cond.fieldLink "TwinNetwork$Frame" 9 "TwinNetwork$Frame" "bytes" "[B" ∈ aw_all := aw_i 80 (by decide +kernel) (by decide +kernel)
theorem wd_81 : Jvm.Cond.fieldLink "TwinNetwork$Frame" 15 "TwinNetwork$Frame" "size" "I" ∈ aw_all := aw_i 81 (by decide +kernel) (by decide +kernel)
theorem wd_82 : Jvm.Cond.fieldLinkNest "TwinNetwork$Line" 50 "TwinNetwork$Frame" "size" "I" "TwinNetwork" ∈ aw_all := aw_i 82 (by decide +kernel) (by decide +kernel)
theorem wd_83 : Jvm.Cond.fieldLinkNest "TwinNetwork" 158 "TwinNetwork$Frame" "size" "I" "TwinNetwork" ∈ aw_all := aw_i 83 (by decide +kernel) (by decide +kernel)
theorem wd_89 : Jvm.Cond.arrayClass Jvm.ClassFile.FieldType.int ∈ aw_all := aw_i 89 (by decide +kernel) (by decide +kernel)
theorem wd_90 : Jvm.Cond.arrayClass Jvm.ClassFile.FieldType.byte ∈ aw_all := aw_i 90 (by decide +kernel) (by decide +kernel)
theorem wd_91 : Jvm.Cond.classLink "TwinNetwork" 32 "TwinNetwork$Datagram" ∈ aw_all := aw_i 91 (by decide +kernel) (by decide +kernel)
theorem wd_92 : Jvm.Cond.instantiable "TwinNetwork$Datagram" 2 ∈ aw_all := aw_i 92 (by decide +kernel) (by decide +kernel)
theorem wd_93 : Jvm.Cond.methodLinkNest "TwinNetwork" 34 (⟨"TwinNetwork$Datagram", "<init>", "()V"⟩ : MethodName) "TwinNetwork" ∈ aw_all := aw_i 93 (by decide +kernel) (by decide +kernel)
theorem wd_94 : Jvm.Cond.instanceMethod (⟨"TwinNetwork$Datagram", "<init>", "()V"⟩ : MethodName) ∈ aw_all := aw_i 94 (by decide +kernel) (by decide +kernel)
theorem wd_95 : Jvm.Cond.code (⟨"TwinNetwork$Datagram", "<init>", "()V"⟩ : MethodName) prog_2_method_1_code 1 (Option.none : Option Jvm.ClassFile.FieldType) ∈ aw_all := aw_i 95 (by decide +kernel) (by decide +kernel)
theorem wd_96 : Jvm.Cond.methodLink "TwinNetwork$Datagram" 3 (⟨"java/lang/Object", "<init>", "()V"⟩ : MethodName) ∈ aw_all := aw_i 96 (by decide +kernel) (by decide +kernel)
theorem wd_97 : Jvm.Cond.fieldLink "TwinNetwork$Datagram" 9 "TwinNetwork$Datagram" "bytes" "[B" ∈ aw_all := aw_i 97 (by decide +kernel) (by decide +kernel)
theorem wd_98 : Jvm.Cond.fieldLink "TwinNetwork$Datagram" 15 "TwinNetwork$Datagram" "length" "I" ∈ aw_all := aw_i 98 (by decide +kernel) (by decide +kernel)
theorem wd_99 : Jvm.Cond.fieldLinkNest "TwinNetwork" 115 "TwinNetwork$Datagram" "length" "I" "TwinNetwork" ∈ aw_all := aw_i 99 (by decide +kernel) (by decide +kernel)
theorem wd_100 : Jvm.Cond.fieldLinkNest "TwinNetwork$Port" 78 "TwinNetwork$Datagram" "length" "I" "TwinNetwork" ∈ aw_all := aw_i 100 (by decide +kernel) (by decide +kernel)
theorem wd_106 : Jvm.Cond.instantiable "TwinNetwork$Line" 9 ∈ aw_all := aw_i 106 (by decide +kernel) (by decide +kernel)
theorem wd_107 : Jvm.Cond.methodLink "TwinNetwork" 43 (⟨"TwinNetwork$Line", "<init>", "(Z)V"⟩ : MethodName) ∈ aw_all := aw_i 107 (by decide +kernel) (by decide +kernel)
theorem wd_108 : Jvm.Cond.instanceMethod (⟨"TwinNetwork$Line", "<init>", "(Z)V"⟩ : MethodName) ∈ aw_all := aw_i 108 (by decide +kernel) (by decide +kernel)
theorem wd_109 : Jvm.Cond.code (⟨"TwinNetwork$Line", "<init>", "(Z)V"⟩ : MethodName) prog_5_method_1_code 2 (Option.none : Option Jvm.ClassFile.FieldType) ∈ aw_all := aw_i 109 (by decide +kernel) (by decide +kernel)
theorem wd_110 : Jvm.Cond.methodLink "TwinNetwork$Line" 3 (⟨"java/lang/Object", "<init>", "()V"⟩ : MethodName) ∈ aw_all := aw_i 110 (by decide +kernel) (by decide +kernel)
theorem wd_111 : Jvm.Cond.classLink "TwinNetwork$Line" 9 "TwinNetwork$Frame" ∈ aw_all := aw_i 111 (by decide +kernel) (by decide +kernel)
theorem wd_112 : Jvm.Cond.methodLinkNest "TwinNetwork$Line" 11 (⟨"TwinNetwork$Frame", "<init>", "()V"⟩ : MethodName) "TwinNetwork" ∈ aw_all := aw_i 112 (by decide +kernel) (by decide +kernel)
theorem wd_113 : Jvm.Cond.classLink "TwinNetwork$Line" 38 "TwinNetwork$Row" ∈ aw_all := aw_i 113 (by decide +kernel) (by decide +kernel)
theorem wd_114 : Jvm.Cond.instantiable "TwinNetwork$Row" 3 ∈ aw_all := aw_i 114 (by decide +kernel) (by decide +kernel)
theorem wd_115 : Jvm.Cond.methodLink "TwinNetwork$Line" 40 (⟨"TwinNetwork$Row", "<init>", "(I)V"⟩ : MethodName) ∈ aw_all := aw_i 115 (by decide +kernel) (by decide +kernel)
theorem wd_116 : Jvm.Cond.instanceMethod (⟨"TwinNetwork$Row", "<init>", "(I)V"⟩ : MethodName) ∈ aw_all := aw_i 116 (by decide +kernel) (by decide +kernel)
theorem wd_117 : Jvm.Cond.code (⟨"TwinNetwork$Row", "<init>", "(I)V"⟩ : MethodName) prog_8_method_1_code 2 (Option.none : Option Jvm.ClassFile.FieldType) ∈ aw_all := aw_i 117 (by decide +kernel) (by decide +kernel)
theorem wd_118 : Jvm.Cond.methodLink "TwinNetwork$Row" 1 (⟨"java/lang/Object", "<init>", "()V"⟩ : MethodName) ∈ aw_all := aw_i 118 (by decide +kernel) (by decide +kernel)
theorem wd_119 : Jvm.Cond.classLink "TwinNetwork$Row" 16 "TwinNetwork$Frame" ∈ aw_all := aw_i 119 (by decide +kernel) (by decide +kernel)
theorem wd_120 : Jvm.Cond.arrayOver (Jvm.ClassFile.FieldType.object "TwinNetwork$Frame") ∈ aw_all := aw_i 120 (by decide +kernel) (by decide +kernel)
theorem wd_121 : Jvm.Cond.fieldLink "TwinNetwork$Row" 18 "TwinNetwork$Row" "slots" "[LTwinNetwork$Frame;" ∈ aw_all := aw_i 121 (by decide +kernel) (by decide +kernel)
theorem wd_122 : Jvm.Cond.fieldLink "TwinNetwork$Row" 7 "TwinNetwork$Row" "first" "I" ∈ aw_all := aw_i 122 (by decide +kernel) (by decide +kernel)
theorem wd_123 : Jvm.Cond.fieldLink "TwinNetwork$Row" 13 "TwinNetwork$Row" "count" "I" ∈ aw_all := aw_i 123 (by decide +kernel) (by decide +kernel)
theorem wd_124 : Jvm.Cond.fieldLinkNest "TwinNetwork" 166 "TwinNetwork$Row" "count" "I" "TwinNetwork" ∈ aw_all := aw_i 124 (by decide +kernel) (by decide +kernel)
theorem wd_132 : Jvm.Cond.fieldLink "TwinNetwork$Line" 43 "TwinNetwork$Line" "plainRow" "LTwinNetwork$Row;" ∈ aw_all := aw_i 132 (by decide +kernel) (by decide +kernel)
theorem wd_133 : Jvm.Cond.fieldLinkNest "TwinNetwork" 171 "TwinNetwork$Line" "plainRow" "LTwinNetwork$Row;" "TwinNetwork" ∈ aw_all := aw_i 133 (by decide +kernel) (by decide +kernel)
theorem wd_134 : Jvm.Cond.fieldLink "TwinNetwork$Line" 47 "TwinNetwork$Line" "highRow" "LTwinNetwork$Row;" ∈ aw_all := aw_i 134 (by decide +kernel) (by decide +kernel)
theorem wd_135 : Jvm.Cond.fieldLinkNest "TwinNetwork" 162 "TwinNetwork$Line" "highRow" "LTwinNetwork$Row;" "TwinNetwork" ∈ aw_all := aw_i 135 (by decide +kernel) (by decide +kernel)
theorem wd_136 : Jvm.Cond.fieldLink "TwinNetwork$Line" 35 "TwinNetwork$Line" "hasOneRow" "Z" ∈ aw_all := aw_i 136 (by decide +kernel) (by decide +kernel)
theorem wd_137 : Jvm.Cond.fieldLink "TwinNetwork$Line" 12 "TwinNetwork$Line" "frame" "LTwinNetwork$Frame;" ∈ aw_all := aw_i 137 (by decide +kernel) (by decide +kernel)
theorem wd_138 : Jvm.Cond.fieldLinkNest "TwinNetwork" 155 "TwinNetwork$Line" "frame" "LTwinNetwork$Frame;" "TwinNetwork" ∈ aw_all := aw_i 138 (by decide +kernel) (by decide +kernel)
theorem wd_139 : Jvm.Cond.fieldLink "TwinNetwork$Line" 18 "TwinNetwork$Line" "isBusy" "Z" ∈ aw_all := aw_i 139 (by decide +kernel) (by decide +kernel)
theorem wd_140 : Jvm.Cond.fieldLinkNest "TwinNetwork" 151 "TwinNetwork$Line" "isBusy" "Z" "TwinNetwork" ∈ aw_all := aw_i 140 (by decide +kernel) (by decide +kernel)
theorem wd_141 : Jvm.Cond.fieldLink "TwinNetwork$Line" 22 "TwinNetwork$Line" "gone" "I" ∈ aw_all := aw_i 141 (by decide +kernel) (by decide +kernel)
theorem wd_142 : Jvm.Cond.fieldLink "TwinNetwork$Line" 26 "TwinNetwork$Line" "expectsHarm" "Z" ∈ aw_all := aw_i 142 (by decide +kernel) (by decide +kernel)
theorem wd_143 : Jvm.Cond.fieldLink "TwinNetwork$Line" 29 "TwinNetwork$Line" "harmPlace" "I" ∈ aw_all := aw_i 143 (by decide +kernel) (by decide +kernel)
theorem wd_144 : Jvm.Cond.fieldLink "TwinNetwork$Line" 32 "TwinNetwork$Line" "harmMask" "I" ∈ aw_all := aw_i 144 (by decide +kernel) (by decide +kernel)
theorem wd_164 : Jvm.Cond.fieldLink "TwinNetwork" 11 "TwinNetwork" "links" "[LTwinNetwork$Link;" ∈ aw_all := aw_i 164 (by decide +kernel) (by decide +kernel)
theorem wd_165 : Jvm.Cond.fieldLink "TwinNetwork" 17 "TwinNetwork" "lines" "[LTwinNetwork$Line;" ∈ aw_all := aw_i 165 (by decide +kernel) (by decide +kernel)
theorem wd_166 : Jvm.Cond.fieldLink "TwinNetwork" 21 "TwinNetwork" "dropCounts" "[I" ∈ aw_all := aw_i 166 (by decide +kernel) (by decide +kernel)
theorem wd_167 : Jvm.Cond.fieldLink "TwinNetwork" 28 "TwinNetwork" "draft" "LTwinNetwork$Frame;" ∈ aw_all := aw_i 167 (by decide +kernel) (by decide +kernel)
theorem wd_168 : Jvm.Cond.fieldLink "TwinNetwork" 35 "TwinNetwork" "lastRead" "LTwinNetwork$Datagram;" ∈ aw_all := aw_i 168 (by decide +kernel) (by decide +kernel)
theorem wd_169 : Jvm.Cond.fieldLink "TwinNetwork" 39 "TwinNetwork" "time" "I" ∈ aw_all := aw_i 169 (by decide +kernel) (by decide +kernel)
theorem wd_183 : Jvm.Cond.methodLink "TwinNetworkLaw" 43 (⟨"TwinNetwork", "tick", "(I)I"⟩ : MethodName) ∈ aw_all := aw_i 183 (by decide +kernel) (by decide +kernel)
theorem wd_184 : Jvm.Cond.instanceMethod (⟨"TwinNetwork", "tick", "(I)I"⟩ : MethodName) ∈ aw_all := aw_i 184 (by decide +kernel) (by decide +kernel)
theorem wd_185 : Jvm.Cond.selects "TwinNetwork" (⟨"TwinNetwork", "tick", "(I)I"⟩ : MethodName) (⟨"TwinNetwork", "tick", "(I)I"⟩ : MethodName) ∈ aw_all := aw_i 185 (by decide +kernel) (by decide +kernel)
theorem wd_186 : Jvm.Cond.code (⟨"TwinNetwork", "tick", "(I)I"⟩ : MethodName) prog_1_method_4_code 4 (Option.some Jvm.ClassFile.FieldType.int) ∈ aw_all := aw_i 186 (by decide +kernel) (by decide +kernel)
theorem wd_187 : Jvm.Cond.methodLink "TwinNetwork" 84 (⟨"TwinNetwork", "isQuiet", "()Z"⟩ : MethodName) ∈ aw_all := aw_i 187 (by decide +kernel) (by decide +kernel)
theorem wd_189 : Jvm.Cond.instanceMethod (⟨"TwinNetwork", "isQuiet", "()Z"⟩ : MethodName) ∈ aw_all := aw_i 189 (by decide +kernel) (by decide +kernel)
theorem wd_190 : Jvm.Cond.code (⟨"TwinNetwork", "isQuiet", "()Z"⟩ : MethodName) prog_1_method_27_code 5 (Option.some Jvm.ClassFile.FieldType.boolean) ∈ aw_all := aw_i 190 (by decide +kernel) (by decide +kernel)
theorem wd_191 : Jvm.Cond.methodLink "TwinNetwork" 200 (⟨"TwinNetwork$Row", "isEmpty", "()Z"⟩ : MethodName) ∈ aw_all := aw_i 191 (by decide +kernel) (by decide +kernel)
theorem wd_192 : Jvm.Cond.instanceMethod (⟨"TwinNetwork$Row", "isEmpty", "()Z"⟩ : MethodName) ∈ aw_all := aw_i 192 (by decide +kernel) (by decide +kernel)
theorem wd_193 : Jvm.Cond.selects "TwinNetwork$Row" (⟨"TwinNetwork$Row", "isEmpty", "()Z"⟩ : MethodName) (⟨"TwinNetwork$Row", "isEmpty", "()Z"⟩ : MethodName) ∈ aw_all := aw_i 193 (by decide +kernel) (by decide +kernel)
theorem wd_194 : Jvm.Cond.code (⟨"TwinNetwork$Row", "isEmpty", "()Z"⟩ : MethodName) prog_8_method_2_code 1 (Option.some Jvm.ClassFile.FieldType.boolean) ∈ aw_all := aw_i 194 (by decide +kernel) (by decide +kernel)
theorem wd_195 : Jvm.Cond.methodLink "TwinNetwork" 88 (⟨"TwinNetwork", "passTime", "(I)V"⟩ : MethodName) ∈ aw_all := aw_i 195 (by decide +kernel) (by decide +kernel)
theorem wd_197 : Jvm.Cond.instanceMethod (⟨"TwinNetwork", "passTime", "(I)V"⟩ : MethodName) ∈ aw_all := aw_i 197 (by decide +kernel) (by decide +kernel)
theorem wd_198 : Jvm.Cond.code (⟨"TwinNetwork", "passTime", "(I)V"⟩ : MethodName) prog_1_method_35_code 6 (Option.none : Option Jvm.ClassFile.FieldType) ∈ aw_all := aw_i 198 (by decide +kernel) (by decide +kernel)
theorem wd_199 : Jvm.Cond.methodLink "TwinNetwork" 295 (⟨"TwinNetwork$Link", "growAccounts", "(I)V"⟩ : MethodName) ∈ aw_all := aw_i 199 (by decide +kernel) (by decide +kernel)
theorem wd_200 : Jvm.Cond.instanceMethod (⟨"TwinNetwork$Link", "growAccounts", "(I)V"⟩ : MethodName) ∈ aw_all := aw_i 200 (by decide +kernel) (by decide +kernel)
theorem wd_201 : Jvm.Cond.selects "TwinNetwork$Link" (⟨"TwinNetwork$Link", "growAccounts", "(I)V"⟩ : MethodName) (⟨"TwinNetwork$Link", "growAccounts", "(I)V"⟩ : MethodName) ∈ aw_all := aw_i 201 (by decide +kernel) (by decide +kernel)
theorem wd_202 : Jvm.Cond.code (⟨"TwinNetwork$Link", "growAccounts", "(I)V"⟩ : MethodName) prog_6_method_10_code 3 (Option.none : Option Jvm.ClassFile.FieldType) ∈ aw_all := aw_i 202 (by decide +kernel) (by decide +kernel)
theorem wd_203 : Jvm.Cond.methodLink "TwinNetwork$Link" 97 (⟨"java/lang/Math", "min", "(II)I"⟩ : MethodName) ∈ aw_all := aw_i 203 (by decide +kernel) (by decide +kernel)
theorem wd_206 : Jvm.Cond.methodLink "TwinNetwork" 92 (⟨"TwinNetwork", "sendFragments", "()V"⟩ : MethodName) ∈ aw_all := aw_i 206 (by decide +kernel) (by decide +kernel)
theorem wd_208 : Jvm.Cond.instanceMethod (⟨"TwinNetwork", "sendFragments", "()V"⟩ : MethodName) ∈ aw_all := aw_i 208 (by decide +kernel) (by decide +kernel)
theorem wd_209 : Jvm.Cond.code (⟨"TwinNetwork", "sendFragments", "()V"⟩ : MethodName) prog_1_method_28_code 5 (Option.none : Option Jvm.ClassFile.FieldType) ∈ aw_all := aw_i 209 (by decide +kernel) (by decide +kernel)
theorem wd_210 : Jvm.Cond.methodLink "TwinNetwork" 206 (⟨"TwinNetwork", "sendFragment", "(LTwinNetwork$Link;)V"⟩ : MethodName) ∈ aw_all := aw_i 210 (by decide +kernel) (by decide +kernel)
theorem wd_212 : Jvm.Cond.instanceMethod (⟨"TwinNetwork", "sendFragment", "(LTwinNetwork$Link;)V"⟩ : MethodName) ∈ aw_all := aw_i 212 (by decide +kernel) (by decide +kernel)
theorem wd_213 : Jvm.Cond.code (⟨"TwinNetwork", "sendFragment", "(LTwinNetwork$Link;)V"⟩ : MethodName) prog_1_method_29_code 6 (Option.none : Option Jvm.ClassFile.FieldType) ∈ aw_all := aw_i 213 (by decide +kernel) (by decide +kernel)
theorem wd_214 : Jvm.Cond.methodLink "TwinNetwork" 210 (⟨"TwinNetwork$Link", "removeFragment", "()LTwinNetwork$Fragment;"⟩ : MethodName) ∈ aw_all := aw_i 214 (by decide +kernel) (by decide +kernel)
theorem wd_215 : Jvm.Cond.instanceMethod (⟨"TwinNetwork$Link", "removeFragment", "()LTwinNetwork$Fragment;"⟩ : MethodName) ∈ aw_all := aw_i 215 (by decide +kernel) (by decide +kernel)
theorem wd_216 : Jvm.Cond.selects "TwinNetwork$Link" (⟨"TwinNetwork$Link", "removeFragment", "()LTwinNetwork$Fragment;"⟩ : MethodName) (⟨"TwinNetwork$Link", "removeFragment", "()LTwinNetwork$Fragment;"⟩ : MethodName) ∈ aw_all := aw_i 216 (by decide +kernel) (by decide +kernel)
theorem wd_217 : Jvm.Cond.code (⟨"TwinNetwork$Link", "removeFragment", "()LTwinNetwork$Fragment;"⟩ : MethodName) prog_6_method_7_code 2 (Option.some (Jvm.ClassFile.FieldType.object "TwinNetwork$Fragment")) ∈ aw_all := aw_i 217 (by decide +kernel) (by decide +kernel)
theorem wd_218 : Jvm.Cond.methodLink "TwinNetwork" 214 (⟨"TwinNetwork$Link", "nextSequence", "()I"⟩ : MethodName) ∈ aw_all := aw_i 218 (by decide +kernel) (by decide +kernel)
theorem wd_219 : Jvm.Cond.instanceMethod (⟨"TwinNetwork$Link", "nextSequence", "()I"⟩ : MethodName) ∈ aw_all := aw_i 219 (by decide +kernel) (by decide +kernel)
theorem wd_220 : Jvm.Cond.selects "TwinNetwork$Link" (⟨"TwinNetwork$Link", "nextSequence", "()I"⟩ : MethodName) (⟨"TwinNetwork$Link", "nextSequence", "()I"⟩ : MethodName) ∈ aw_all := aw_i 220 (by decide +kernel) (by decide +kernel)
theorem wd_221 : Jvm.Cond.code (⟨"TwinNetwork$Link", "nextSequence", "()I"⟩ : MethodName) prog_6_method_8_code 1 (Option.some Jvm.ClassFile.FieldType.int) ∈ aw_all := aw_i 221 (by decide +kernel) (by decide +kernel)
theorem wd_222 : Jvm.Cond.methodLink "TwinNetwork$Link" 109 (⟨"TwinNetwork$Port", "following", "(I)I"⟩ : MethodName) ∈ aw_all := aw_i 222 (by decide +kernel) (by decide +kernel)
theorem wd_223 : Jvm.Cond.static (⟨"TwinNetwork$Port", "following", "(I)I"⟩ : MethodName) ∈ aw_all := aw_i 223 (by decide +kernel) (by decide +kernel)
theorem wd_224 : Jvm.Cond.code (⟨"TwinNetwork$Port", "following", "(I)I"⟩ : MethodName) prog_7_method_2_code 1 (Option.some Jvm.ClassFile.FieldType.int) ∈ aw_all := aw_i 224 (by decide +kernel) (by decide +kernel)
theorem wd_225 : Jvm.Cond.methodLink "TwinNetwork" 135 (⟨"TwinNetwork$Frame", "begin", "(IIII)V"⟩ : MethodName) ∈ aw_all := aw_i 225 (by decide +kernel) (by decide +kernel)
theorem wd_226 : Jvm.Cond.instanceMethod (⟨"TwinNetwork$Frame", "begin", "(IIII)V"⟩ : MethodName) ∈ aw_all := aw_i 226 (by decide +kernel) (by decide +kernel)
theorem wd_227 : Jvm.Cond.selects "TwinNetwork$Frame" (⟨"TwinNetwork$Frame", "begin", "(IIII)V"⟩ : MethodName) (⟨"TwinNetwork$Frame", "begin", "(IIII)V"⟩ : MethodName) ∈ aw_all := aw_i 227 (by decide +kernel) (by decide +kernel)
theorem wd_228 : Jvm.Cond.code (⟨"TwinNetwork$Frame", "begin", "(IIII)V"⟩ : MethodName) prog_4_method_7_code 6 (Option.none : Option Jvm.ClassFile.FieldType) ∈ aw_all := aw_i 228 (by decide +kernel) (by decide +kernel)
theorem wd_229 : Jvm.Cond.methodLink "TwinNetwork$Frame" 29 (⟨"java/lang/Math", "max", "(II)I"⟩ : MethodName) ∈ aw_all := aw_i 229 (by decide +kernel) (by decide +kernel)
theorem wd_232 : Jvm.Cond.methodLink "TwinNetwork$Frame" 35 (⟨"java/lang/Math", "min", "(II)I"⟩ : MethodName) ∈ aw_all := aw_i 232 (by decide +kernel) (by decide +kernel)
theorem wd_233 : Jvm.Cond.methodLink "TwinNetwork$Frame" 19 (⟨"TwinNetwork$Frame", "set", "(II)V"⟩ : MethodName) ∈ aw_all := aw_i 233 (by decide +kernel) (by decide +kernel)
theorem wd_234 : Jvm.Cond.instanceMethod (⟨"TwinNetwork$Frame", "set", "(II)V"⟩ : MethodName) ∈ aw_all := aw_i 234 (by decide +kernel) (by decide +kernel)
theorem wd_235 : Jvm.Cond.selects "TwinNetwork$Frame" (⟨"TwinNetwork$Frame", "set", "(II)V"⟩ : MethodName) (⟨"TwinNetwork$Frame", "set", "(II)V"⟩ : MethodName) ∈ aw_all := aw_i 235 (by decide +kernel) (by decide +kernel)
theorem wd_236 : Jvm.Cond.code (⟨"TwinNetwork$Frame", "set", "(II)V"⟩ : MethodName) prog_4_method_4_code 3 (Option.none : Option Jvm.ClassFile.FieldType) ∈ aw_all := aw_i 236 (by decide +kernel) (by decide +kernel)
theorem wd_237 : Jvm.Cond.methodLink "TwinNetwork$Frame" 38 (⟨"TwinNetwork$Frame", "setPair", "(II)V"⟩ : MethodName) ∈ aw_all := aw_i 237 (by decide +kernel) (by decide +kernel)
theorem wd_238 : Jvm.Cond.instanceMethod (⟨"TwinNetwork$Frame", "setPair", "(II)V"⟩ : MethodName) ∈ aw_all := aw_i 238 (by decide +kernel) (by decide +kernel)
theorem wd_239 : Jvm.Cond.selects "TwinNetwork$Frame" (⟨"TwinNetwork$Frame", "setPair", "(II)V"⟩ : MethodName) (⟨"TwinNetwork$Frame", "setPair", "(II)V"⟩ : MethodName) ∈ aw_all := aw_i 239 (by decide +kernel) (by decide +kernel)
theorem wd_240 : Jvm.Cond.code (⟨"TwinNetwork$Frame", "setPair", "(II)V"⟩ : MethodName) prog_4_method_5_code 3 (Option.none : Option Jvm.ClassFile.FieldType) ∈ aw_all := aw_i 240 (by decide +kernel) (by decide +kernel)
theorem wd_241 : Jvm.Cond.methodLink "TwinNetwork" 140 (⟨"TwinNetwork$Frame", "tellFragment", "(IIZ)V"⟩ : MethodName) ∈ aw_all := aw_i 241 (by decide +kernel) (by decide +kernel)
theorem wd_242 : Jvm.Cond.instanceMethod (⟨"TwinNetwork$Frame", "tellFragment", "(IIZ)V"⟩ : MethodName) ∈ aw_all := aw_i 242 (by decide +kernel) (by decide +kernel)
theorem wd_243 : Jvm.Cond.selects "TwinNetwork$Frame" (⟨"TwinNetwork$Frame", "tellFragment", "(IIZ)V"⟩ : MethodName) (⟨"TwinNetwork$Frame", "tellFragment", "(IIZ)V"⟩ : MethodName) ∈ aw_all := aw_i 243 (by decide +kernel) (by decide +kernel)
theorem wd_244 : Jvm.Cond.code (⟨"TwinNetwork$Frame", "tellFragment", "(IIZ)V"⟩ : MethodName) prog_4_method_8_code 4 (Option.none : Option Jvm.ClassFile.FieldType) ∈ aw_all := aw_i 244 (by decide +kernel) (by decide +kernel)
theorem wd_245 : Jvm.Cond.methodLink "TwinNetwork" 233 (⟨"TwinNetwork$Fragment", "datagramByte", "(II)I"⟩ : MethodName) ∈ aw_all := aw_i 245 (by decide +kernel) (by decide +kernel)
theorem wd_246 : Jvm.Cond.instanceMethod (⟨"TwinNetwork$Fragment", "datagramByte", "(II)I"⟩ : MethodName) ∈ aw_all := aw_i 246 (by decide +kernel) (by decide +kernel)
theorem wd_247 : Jvm.Cond.selects "TwinNetwork$Fragment" (⟨"TwinNetwork$Fragment", "datagramByte", "(II)I"⟩ : MethodName) (⟨"TwinNetwork$Fragment", "datagramByte", "(II)I"⟩ : MethodName) ∈ aw_all := aw_i 247 (by decide +kernel) (by decide +kernel)
theorem wd_248 : Jvm.Cond.code (⟨"TwinNetwork$Fragment", "datagramByte", "(II)I"⟩ : MethodName) prog_3_method_2_code 4 (Option.some Jvm.ClassFile.FieldType.int) ∈ aw_all := aw_i 248 (by decide +kernel) (by decide +kernel)
theorem wd_249 : Jvm.Cond.methodLink "TwinNetwork" 236 (⟨"TwinNetwork$Frame", "set", "(II)V"⟩ : MethodName) ∈ aw_all := aw_i 249 (by decide +kernel) (by decide +kernel)
theorem wd_250 : Jvm.Cond.methodLink "TwinNetwork" 144 (⟨"TwinNetwork$Frame", "seal", "(I)V"⟩ : MethodName) ∈ aw_all := aw_i 250 (by decide +kernel) (by decide +kernel)
theorem wd_251 : Jvm.Cond.instanceMethod (⟨"TwinNetwork$Frame", "seal", "(I)V"⟩ : MethodName) ∈ aw_all := aw_i 251 (by decide +kernel) (by decide +kernel)
theorem wd_252 : Jvm.Cond.selects "TwinNetwork$Frame" (⟨"TwinNetwork$Frame", "seal", "(I)V"⟩ : MethodName) (⟨"TwinNetwork$Frame", "seal", "(I)V"⟩ : MethodName) ∈ aw_all := aw_i 252 (by decide +kernel) (by decide +kernel)
theorem wd_253 : Jvm.Cond.code (⟨"TwinNetwork$Frame", "seal", "(I)V"⟩ : MethodName) prog_4_method_9_code 4 (Option.none : Option Jvm.ClassFile.FieldType) ∈ aw_all := aw_i 253 (by decide +kernel) (by decide +kernel)
theorem wd_254 : Jvm.Cond.methodLink "TwinNetwork$Frame" 41 (⟨"TwinNetwork$Frame", "sum", "()I"⟩ : MethodName) ∈ aw_all := aw_i 254 (by decide +kernel) (by decide +kernel)
theorem wd_256 : Jvm.Cond.instanceMethod (⟨"TwinNetwork$Frame", "sum", "()I"⟩ : MethodName) ∈ aw_all := aw_i 256 (by decide +kernel) (by decide +kernel)
theorem wd_257 : Jvm.Cond.code (⟨"TwinNetwork$Frame", "sum", "()I"⟩ : MethodName) prog_4_method_19_code 3 (Option.some Jvm.ClassFile.FieldType.int) ∈ aw_all := aw_i 257 (by decide +kernel) (by decide +kernel)
theorem wd_258 : Jvm.Cond.methodLink "TwinNetwork$Frame" 52 (⟨"TwinNetwork$Frame", "pairAt", "(I)I"⟩ : MethodName) ∈ aw_all := aw_i 258 (by decide +kernel) (by decide +kernel)
theorem wd_259 : Jvm.Cond.instanceMethod (⟨"TwinNetwork$Frame", "pairAt", "(I)I"⟩ : MethodName) ∈ aw_all := aw_i 259 (by decide +kernel) (by decide +kernel)
theorem wd_260 : Jvm.Cond.selects "TwinNetwork$Frame" (⟨"TwinNetwork$Frame", "pairAt", "(I)I"⟩ : MethodName) (⟨"TwinNetwork$Frame", "pairAt", "(I)I"⟩ : MethodName) ∈ aw_all := aw_i 260 (by decide +kernel) (by decide +kernel)
theorem wd_261 : Jvm.Cond.code (⟨"TwinNetwork$Frame", "pairAt", "(I)I"⟩ : MethodName) prog_4_method_3_code 2 (Option.some Jvm.ClassFile.FieldType.int) ∈ aw_all := aw_i 261 (by decide +kernel) (by decide +kernel)
theorem wd_262 : Jvm.Cond.constant "TwinNetwork$Frame" 58 (65535 : Int32) ∈ aw_all := aw_i 262 (by decide +kernel) (by decide +kernel)
theorem wd_263 : Jvm.Cond.methodLink "TwinNetwork$Frame" 45 (⟨"TwinNetwork$Frame", "check", "()I"⟩ : MethodName) ∈ aw_all := aw_i 263 (by decide +kernel) (by decide +kernel)
theorem wd_265 : Jvm.Cond.instanceMethod (⟨"TwinNetwork$Frame", "check", "()I"⟩ : MethodName) ∈ aw_all := aw_i 265 (by decide +kernel) (by decide +kernel)
theorem wd_266 : Jvm.Cond.code (⟨"TwinNetwork$Frame", "check", "()I"⟩ : MethodName) prog_4_method_20_code 3 (Option.some Jvm.ClassFile.FieldType.int) ∈ aw_all := aw_i 266 (by decide +kernel) (by decide +kernel)
theorem wd_267 : Jvm.Cond.fieldLinkNest "TwinNetwork$Frame" 59 "TwinNetwork" "CHECK_STEPS" "[I" "TwinNetwork" ∈ aw_all := aw_i 267 (by decide +kernel) (by decide +kernel)
theorem wd_269 : Jvm.Cond.methodLink "TwinNetwork" 147 (⟨"TwinNetwork", "enqueue", "(IIZLTwinNetwork$Frame;)Z"⟩ : MethodName) ∈ aw_all := aw_i 269 (by decide +kernel) (by decide +kernel)
theorem wd_271 : Jvm.Cond.instanceMethod (⟨"TwinNetwork", "enqueue", "(IIZLTwinNetwork$Frame;)Z"⟩ : MethodName) ∈ aw_all := aw_i 271 (by decide +kernel) (by decide +kernel)
theorem wd_272 : Jvm.Cond.code (⟨"TwinNetwork", "enqueue", "(IIZLTwinNetwork$Frame;)Z"⟩ : MethodName) prog_1_method_30_code 7 (Option.some Jvm.ClassFile.FieldType.boolean) ∈ aw_all := aw_i 272 (by decide +kernel) (by decide +kernel)
theorem wd_273 : Jvm.Cond.methodLink "TwinNetwork" 124 (⟨"TwinNetwork", "lineAt", "(II)LTwinNetwork$Line;"⟩ : MethodName) ∈ aw_all := aw_i 273 (by decide +kernel) (by decide +kernel)
theorem wd_275 : Jvm.Cond.instanceMethod (⟨"TwinNetwork", "lineAt", "(II)LTwinNetwork$Line;"⟩ : MethodName) ∈ aw_all := aw_i 275 (by decide +kernel) (by decide +kernel)
theorem wd_276 : Jvm.Cond.code (⟨"TwinNetwork", "lineAt", "(II)LTwinNetwork$Line;"⟩ : MethodName) prog_1_method_23_code 3 (Option.some (Jvm.ClassFile.FieldType.object "TwinNetwork$Line")) ∈ aw_all := aw_i 276 (by decide +kernel) (by decide +kernel)
theorem wd_277 : Jvm.Cond.methodLink "TwinNetwork" 132 (⟨"TwinNetwork", "isNetwork", "(I)Z"⟩ : MethodName) ∈ aw_all := aw_i 277 (by decide +kernel) (by decide +kernel)
theorem wd_278 : Jvm.Cond.static (⟨"TwinNetwork", "isNetwork", "(I)Z"⟩ : MethodName) ∈ aw_all := aw_i 278 (by decide +kernel) (by decide +kernel)
theorem wd_279 : Jvm.Cond.code (⟨"TwinNetwork", "isNetwork", "(I)Z"⟩ : MethodName) prog_1_method_16_code 1 (Option.some Jvm.ClassFile.FieldType.boolean) ∈ aw_all := aw_i 279 (by decide +kernel) (by decide +kernel)
theorem wd_280 : Jvm.Cond.methodLink "TwinNetwork" 245 (⟨"TwinNetwork$Line", "rowFor", "(Z)LTwinNetwork$Row;"⟩ : MethodName) ∈ aw_all := aw_i 280 (by decide +kernel) (by decide +kernel)
theorem wd_281 : Jvm.Cond.instanceMethod (⟨"TwinNetwork$Line", "rowFor", "(Z)LTwinNetwork$Row;"⟩ : MethodName) ∈ aw_all := aw_i 281 (by decide +kernel) (by decide +kernel)
theorem wd_282 : Jvm.Cond.selects "TwinNetwork$Line" (⟨"TwinNetwork$Line", "rowFor", "(Z)LTwinNetwork$Row;"⟩ : MethodName) (⟨"TwinNetwork$Line", "rowFor", "(Z)LTwinNetwork$Row;"⟩ : MethodName) ∈ aw_all := aw_i 282 (by decide +kernel) (by decide +kernel)
theorem wd_283 : Jvm.Cond.code (⟨"TwinNetwork$Line", "rowFor", "(Z)LTwinNetwork$Row;"⟩ : MethodName) prog_5_method_2_code 2 (Option.some (Jvm.ClassFile.FieldType.object "TwinNetwork$Row")) ∈ aw_all := aw_i 283 (by decide +kernel) (by decide +kernel)
theorem wd_284 : Jvm.Cond.methodLink "TwinNetwork" 249 (⟨"TwinNetwork$Row", "add", "(LTwinNetwork$Frame;)Z"⟩ : MethodName) ∈ aw_all := aw_i 284 (by decide +kernel) (by decide +kernel)
theorem wd_285 : Jvm.Cond.instanceMethod (⟨"TwinNetwork$Row", "add", "(LTwinNetwork$Frame;)Z"⟩ : MethodName) ∈ aw_all := aw_i 285 (by decide +kernel) (by decide +kernel)
theorem wd_286 : Jvm.Cond.selects "TwinNetwork$Row" (⟨"TwinNetwork$Row", "add", "(LTwinNetwork$Frame;)Z"⟩ : MethodName) (⟨"TwinNetwork$Row", "add", "(LTwinNetwork$Frame;)Z"⟩ : MethodName) ∈ aw_all := aw_i 286 (by decide +kernel) (by decide +kernel)
theorem wd_287 : Jvm.Cond.code (⟨"TwinNetwork$Row", "add", "(LTwinNetwork$Frame;)Z"⟩ : MethodName) prog_8_method_3_code 3 (Option.some Jvm.ClassFile.FieldType.boolean) ∈ aw_all := aw_i 287 (by decide +kernel) (by decide +kernel)
theorem wd_288 : Jvm.Cond.methodLinkNest "TwinNetwork$Row" 22 (⟨"TwinNetwork$Frame", "<init>", "()V"⟩ : MethodName) "TwinNetwork" ∈ aw_all := aw_i 288 (by decide +kernel) (by decide +kernel)
theorem wd_289 : Jvm.Cond.methodLink "TwinNetwork$Row" 23 (⟨"TwinNetwork$Frame", "copyFrom", "(LTwinNetwork$Frame;)V"⟩ : MethodName) ∈ aw_all := aw_i 289 (by decide +kernel) (by decide +kernel)
theorem wd_290 : Jvm.Cond.instanceMethod (⟨"TwinNetwork$Frame", "copyFrom", "(LTwinNetwork$Frame;)V"⟩ : MethodName) ∈ aw_all := aw_i 290 (by decide +kernel) (by decide +kernel)
theorem wd_291 : Jvm.Cond.selects "TwinNetwork$Frame" (⟨"TwinNetwork$Frame", "copyFrom", "(LTwinNetwork$Frame;)V"⟩ : MethodName) (⟨"TwinNetwork$Frame", "copyFrom", "(LTwinNetwork$Frame;)V"⟩ : MethodName) ∈ aw_all := aw_i 291 (by decide +kernel) (by decide +kernel)
theorem wd_292 : Jvm.Cond.code (⟨"TwinNetwork$Frame", "copyFrom", "(LTwinNetwork$Frame;)V"⟩ : MethodName) prog_4_method_6_code 2 (Option.none : Option Jvm.ClassFile.FieldType) ∈ aw_all := aw_i 292 (by decide +kernel) (by decide +kernel)
theorem wd_293 : Jvm.Cond.methodLink "TwinNetwork$Frame" 23 (⟨"java/lang/System", "arraycopy", "(Ljava/lang/Object;ILjava/lang/Object;II)V"⟩ : MethodName) ∈ aw_all := aw_i 293 (by decide +kernel) (by decide +kernel)
theorem wd_296 : Jvm.Cond.methodLink "TwinNetwork" 95 (⟨"TwinNetwork", "moveFrames", "()V"⟩ : MethodName) ∈ aw_all := aw_i 296 (by decide +kernel) (by decide +kernel)
theorem wd_298 : Jvm.Cond.instanceMethod (⟨"TwinNetwork", "moveFrames", "()V"⟩ : MethodName) ∈ aw_all := aw_i 298 (by decide +kernel) (by decide +kernel)
theorem wd_299 : Jvm.Cond.code (⟨"TwinNetwork", "moveFrames", "()V"⟩ : MethodName) prog_1_method_31_code 4 (Option.none : Option Jvm.ClassFile.FieldType) ∈ aw_all := aw_i 299 (by decide +kernel) (by decide +kernel)
theorem wd_300 : Jvm.Cond.methodLink "TwinNetwork" 253 (⟨"TwinNetwork$Line", "moves", "()Z"⟩ : MethodName) ∈ aw_all := aw_i 300 (by decide +kernel) (by decide +kernel)
theorem wd_301 : Jvm.Cond.instanceMethod (⟨"TwinNetwork$Line", "moves", "()Z"⟩ : MethodName) ∈ aw_all := aw_i 301 (by decide +kernel) (by decide +kernel)
theorem wd_302 : Jvm.Cond.selects "TwinNetwork$Line" (⟨"TwinNetwork$Line", "moves", "()Z"⟩ : MethodName) (⟨"TwinNetwork$Line", "moves", "()Z"⟩ : MethodName) ∈ aw_all := aw_i 302 (by decide +kernel) (by decide +kernel)
theorem wd_303 : Jvm.Cond.code (⟨"TwinNetwork$Line", "moves", "()Z"⟩ : MethodName) prog_5_method_4_code 1 (Option.some Jvm.ClassFile.FieldType.boolean) ∈ aw_all := aw_i 303 (by decide +kernel) (by decide +kernel)
theorem wd_304 : Jvm.Cond.fieldLink "TwinNetwork" 256 "TwinNetwork" "ENDS_AT_SWITCH" "[I" ∈ aw_all := aw_i 304 (by decide +kernel) (by decide +kernel)
theorem wd_306 : Jvm.Cond.methodLink "TwinNetwork" 259 (⟨"TwinNetwork", "enterSystem", "(IILTwinNetwork$Frame;)I"⟩ : MethodName) ∈ aw_all := aw_i 306 (by decide +kernel) (by decide +kernel)
theorem wd_308 : Jvm.Cond.instanceMethod (⟨"TwinNetwork", "enterSystem", "(IILTwinNetwork$Frame;)I"⟩ : MethodName) ∈ aw_all := aw_i 308 (by decide +kernel) (by decide +kernel)
theorem wd_309 : Jvm.Cond.code (⟨"TwinNetwork", "enterSystem", "(IILTwinNetwork$Frame;)I"⟩ : MethodName) prog_1_method_33_code 7 (Option.some Jvm.ClassFile.FieldType.int) ∈ aw_all := aw_i 309 (by decide +kernel) (by decide +kernel)
theorem wd_310 : Jvm.Cond.methodLink "TwinNetwork" 266 (⟨"TwinNetwork$Frame", "hasRightCheck", "()Z"⟩ : MethodName) ∈ aw_all := aw_i 310 (by decide +kernel) (by decide +kernel)
theorem wd_311 : Jvm.Cond.instanceMethod (⟨"TwinNetwork$Frame", "hasRightCheck", "()Z"⟩ : MethodName) ∈ aw_all := aw_i 311 (by decide +kernel) (by decide +kernel)
theorem wd_312 : Jvm.Cond.selects "TwinNetwork$Frame" (⟨"TwinNetwork$Frame", "hasRightCheck", "()Z"⟩ : MethodName) (⟨"TwinNetwork$Frame", "hasRightCheck", "()Z"⟩ : MethodName) ∈ aw_all := aw_i 312 (by decide +kernel) (by decide +kernel)
theorem wd_313 : Jvm.Cond.code (⟨"TwinNetwork$Frame", "hasRightCheck", "()Z"⟩ : MethodName) prog_4_method_18_code 3 (Option.some Jvm.ClassFile.FieldType.boolean) ∈ aw_all := aw_i 313 (by decide +kernel) (by decide +kernel)
theorem wd_314 : Jvm.Cond.methodLink "TwinNetwork$Frame" 48 (⟨"TwinNetwork$Frame", "at", "(I)I"⟩ : MethodName) ∈ aw_all := aw_i 314 (by decide +kernel) (by decide +kernel)
theorem wd_315 : Jvm.Cond.instanceMethod (⟨"TwinNetwork$Frame", "at", "(I)I"⟩ : MethodName) ∈ aw_all := aw_i 315 (by decide +kernel) (by decide +kernel)
theorem wd_316 : Jvm.Cond.selects "TwinNetwork$Frame" (⟨"TwinNetwork$Frame", "at", "(I)I"⟩ : MethodName) (⟨"TwinNetwork$Frame", "at", "(I)I"⟩ : MethodName) ∈ aw_all := aw_i 316 (by decide +kernel) (by decide +kernel)
theorem wd_317 : Jvm.Cond.code (⟨"TwinNetwork$Frame", "at", "(I)I"⟩ : MethodName) prog_4_method_2_code 2 (Option.some Jvm.ClassFile.FieldType.int) ∈ aw_all := aw_i 317 (by decide +kernel) (by decide +kernel)
theorem wd_318 : Jvm.Cond.methodLink "TwinNetwork" 269 (⟨"TwinNetwork$Frame", "linkNumber", "()I"⟩ : MethodName) ∈ aw_all := aw_i 318 (by decide +kernel) (by decide +kernel)
theorem wd_319 : Jvm.Cond.instanceMethod (⟨"TwinNetwork$Frame", "linkNumber", "()I"⟩ : MethodName) ∈ aw_all := aw_i 319 (by decide +kernel) (by decide +kernel)
theorem wd_320 : Jvm.Cond.selects "TwinNetwork$Frame" (⟨"TwinNetwork$Frame", "linkNumber", "()I"⟩ : MethodName) (⟨"TwinNetwork$Frame", "linkNumber", "()I"⟩ : MethodName) ∈ aw_all := aw_i 320 (by decide +kernel) (by decide +kernel)
theorem wd_321 : Jvm.Cond.code (⟨"TwinNetwork$Frame", "linkNumber", "()I"⟩ : MethodName) prog_4_method_11_code 2 (Option.some Jvm.ClassFile.FieldType.int) ∈ aw_all := aw_i 321 (by decide +kernel) (by decide +kernel)
theorem wd_322 : Jvm.Cond.methodLink "TwinNetwork" 69 (⟨"TwinNetwork", "linkAt", "(I)LTwinNetwork$Link;"⟩ : MethodName) ∈ aw_all := aw_i 322 (by decide +kernel) (by decide +kernel)
theorem wd_324 : Jvm.Cond.instanceMethod (⟨"TwinNetwork", "linkAt", "(I)LTwinNetwork$Link;"⟩ : MethodName) ∈ aw_all := aw_i 324 (by decide +kernel) (by decide +kernel)
theorem wd_325 : Jvm.Cond.code (⟨"TwinNetwork", "linkAt", "(I)LTwinNetwork$Link;"⟩ : MethodName) prog_1_method_21_code 2 (Option.some (Jvm.ClassFile.FieldType.object "TwinNetwork$Link")) ∈ aw_all := aw_i 325 (by decide +kernel) (by decide +kernel)
theorem wd_326 : Jvm.Cond.methodLink "TwinNetwork" 46 (⟨"TwinNetwork", "isLinkNumber", "(I)Z"⟩ : MethodName) ∈ aw_all := aw_i 326 (by decide +kernel) (by decide +kernel)
theorem wd_327 : Jvm.Cond.static (⟨"TwinNetwork", "isLinkNumber", "(I)Z"⟩ : MethodName) ∈ aw_all := aw_i 327 (by decide +kernel) (by decide +kernel)
theorem wd_328 : Jvm.Cond.code (⟨"TwinNetwork", "isLinkNumber", "(I)Z"⟩ : MethodName) prog_1_method_18_code 1 (Option.some Jvm.ClassFile.FieldType.boolean) ∈ aw_all := aw_i 328 (by decide +kernel) (by decide +kernel)
theorem wd_329 : Jvm.Cond.methodLink "TwinNetwork" 177 (⟨"TwinNetwork$Link", "portOf", "(I)LTwinNetwork$Port;"⟩ : MethodName) ∈ aw_all := aw_i 329 (by decide +kernel) (by decide +kernel)
theorem wd_330 : Jvm.Cond.instanceMethod (⟨"TwinNetwork$Link", "portOf", "(I)LTwinNetwork$Port;"⟩ : MethodName) ∈ aw_all := aw_i 330 (by decide +kernel) (by decide +kernel)
theorem wd_331 : Jvm.Cond.selects "TwinNetwork$Link" (⟨"TwinNetwork$Link", "portOf", "(I)LTwinNetwork$Port;"⟩ : MethodName) (⟨"TwinNetwork$Link", "portOf", "(I)LTwinNetwork$Port;"⟩ : MethodName) ∈ aw_all := aw_i 331 (by decide +kernel) (by decide +kernel)
theorem wd_332 : Jvm.Cond.code (⟨"TwinNetwork$Link", "portOf", "(I)LTwinNetwork$Port;"⟩ : MethodName) prog_6_method_3_code 2 (Option.some (Jvm.ClassFile.FieldType.object "TwinNetwork$Port")) ∈ aw_all := aw_i 332 (by decide +kernel) (by decide +kernel)
theorem wd_333 : Jvm.Cond.methodLinkNest "TwinNetwork$Link" 73 (⟨"TwinNetwork", "isSystem", "(I)Z"⟩ : MethodName) "TwinNetwork" ∈ aw_all := aw_i 333 (by decide +kernel) (by decide +kernel)
theorem wd_334 : Jvm.Cond.static (⟨"TwinNetwork", "isSystem", "(I)Z"⟩ : MethodName) ∈ aw_all := aw_i 334 (by decide +kernel) (by decide +kernel)
theorem wd_335 : Jvm.Cond.code (⟨"TwinNetwork", "isSystem", "(I)Z"⟩ : MethodName) prog_1_method_17_code 1 (Option.some Jvm.ClassFile.FieldType.boolean) ∈ aw_all := aw_i 335 (by decide +kernel) (by decide +kernel)
theorem wd_336 : Jvm.Cond.methodLink "TwinNetwork" 278 (⟨"TwinNetwork$Frame", "hasRightForm", "()Z"⟩ : MethodName) ∈ aw_all := aw_i 336 (by decide +kernel) (by decide +kernel)
theorem wd_337 : Jvm.Cond.instanceMethod (⟨"TwinNetwork$Frame", "hasRightForm", "()Z"⟩ : MethodName) ∈ aw_all := aw_i 337 (by decide +kernel) (by decide +kernel)
theorem wd_338 : Jvm.Cond.selects "TwinNetwork$Frame" (⟨"TwinNetwork$Frame", "hasRightForm", "()Z"⟩ : MethodName) (⟨"TwinNetwork$Frame", "hasRightForm", "()Z"⟩ : MethodName) ∈ aw_all := aw_i 338 (by decide +kernel) (by decide +kernel)
theorem wd_339 : Jvm.Cond.code (⟨"TwinNetwork$Frame", "hasRightForm", "()Z"⟩ : MethodName) prog_4_method_17_code 1 (Option.some Jvm.ClassFile.FieldType.boolean) ∈ aw_all := aw_i 339 (by decide +kernel) (by decide +kernel)
theorem wd_340 : Jvm.Cond.methodLink "TwinNetwork$Frame" 55 (⟨"TwinNetwork$Frame", "fragmentLength", "()I"⟩ : MethodName) ∈ aw_all := aw_i 340 (by decide +kernel) (by decide +kernel)
theorem wd_341 : Jvm.Cond.instanceMethod (⟨"TwinNetwork$Frame", "fragmentLength", "()I"⟩ : MethodName) ∈ aw_all := aw_i 341 (by decide +kernel) (by decide +kernel)
theorem wd_342 : Jvm.Cond.selects "TwinNetwork$Frame" (⟨"TwinNetwork$Frame", "fragmentLength", "()I"⟩ : MethodName) (⟨"TwinNetwork$Frame", "fragmentLength", "()I"⟩ : MethodName) ∈ aw_all := aw_i 342 (by decide +kernel) (by decide +kernel)
theorem wd_343 : Jvm.Cond.code (⟨"TwinNetwork$Frame", "fragmentLength", "()I"⟩ : MethodName) prog_4_method_12_code 1 (Option.some Jvm.ClassFile.FieldType.int) ∈ aw_all := aw_i 343 (by decide +kernel) (by decide +kernel)
theorem wd_344 : Jvm.Cond.methodLink "TwinNetwork" 281 (⟨"TwinNetwork$Frame", "sequence", "()I"⟩ : MethodName) ∈ aw_all := aw_i 344 (by decide +kernel) (by decide +kernel)
theorem wd_345 : Jvm.Cond.instanceMethod (⟨"TwinNetwork$Frame", "sequence", "()I"⟩ : MethodName) ∈ aw_all := aw_i 345 (by decide +kernel) (by decide +kernel)
theorem wd_346 : Jvm.Cond.selects "TwinNetwork$Frame" (⟨"TwinNetwork$Frame", "sequence", "()I"⟩ : MethodName) (⟨"TwinNetwork$Frame", "sequence", "()I"⟩ : MethodName) ∈ aw_all := aw_i 346 (by decide +kernel) (by decide +kernel)
theorem wd_347 : Jvm.Cond.code (⟨"TwinNetwork$Frame", "sequence", "()I"⟩ : MethodName) prog_4_method_16_code 1 (Option.some Jvm.ClassFile.FieldType.int) ∈ aw_all := aw_i 347 (by decide +kernel) (by decide +kernel)
theorem wd_348 : Jvm.Cond.methodLink "TwinNetwork" 284 (⟨"TwinNetwork$Port", "receive", "(III)I"⟩ : MethodName) ∈ aw_all := aw_i 348 (by decide +kernel) (by decide +kernel)
theorem wd_349 : Jvm.Cond.instanceMethod (⟨"TwinNetwork$Port", "receive", "(III)I"⟩ : MethodName) ∈ aw_all := aw_i 349 (by decide +kernel) (by decide +kernel)
theorem wd_350 : Jvm.Cond.selects "TwinNetwork$Port" (⟨"TwinNetwork$Port", "receive", "(III)I"⟩ : MethodName) (⟨"TwinNetwork$Port", "receive", "(III)I"⟩ : MethodName) ∈ aw_all := aw_i 350 (by decide +kernel) (by decide +kernel)
theorem wd_351 : Jvm.Cond.code (⟨"TwinNetwork$Port", "receive", "(III)I"⟩ : MethodName) prog_7_method_3_code 5 (Option.some Jvm.ClassFile.FieldType.int) ∈ aw_all := aw_i 351 (by decide +kernel) (by decide +kernel)
theorem wd_352 : Jvm.Cond.methodLink "TwinNetwork$Port" 55 (⟨"TwinNetwork$Port", "isInOrder", "(II)Z"⟩ : MethodName) ∈ aw_all := aw_i 352 (by decide +kernel) (by decide +kernel)
theorem wd_353 : Jvm.Cond.static (⟨"TwinNetwork$Port", "isInOrder", "(II)Z"⟩ : MethodName) ∈ aw_all := aw_i 353 (by decide +kernel) (by decide +kernel)
theorem wd_354 : Jvm.Cond.code (⟨"TwinNetwork$Port", "isInOrder", "(II)Z"⟩ : MethodName) prog_7_method_4_code 2 (Option.some Jvm.ClassFile.FieldType.boolean) ∈ aw_all := aw_i 354 (by decide +kernel) (by decide +kernel)
theorem wd_355 : Jvm.Cond.methodLink "TwinNetwork$Port" 62 (⟨"TwinNetwork$Port", "following", "(I)I"⟩ : MethodName) ∈ aw_all := aw_i 355 (by decide +kernel) (by decide +kernel)
theorem wd_356 : Jvm.Cond.methodLink "TwinNetwork$Port" 59 (⟨"TwinNetwork$Port", "isToBeTaken", "(II)Z"⟩ : MethodName) ∈ aw_all := aw_i 356 (by decide +kernel) (by decide +kernel)
theorem wd_358 : Jvm.Cond.instanceMethod (⟨"TwinNetwork$Port", "isToBeTaken", "(II)Z"⟩ : MethodName) ∈ aw_all := aw_i 358 (by decide +kernel) (by decide +kernel)
theorem wd_359 : Jvm.Cond.instantiable "TwinNetwork$Port" 12 ∈ aw_all := aw_i 359 (by decide +kernel) (by decide +kernel)
theorem wd_360 : Jvm.Cond.code (⟨"TwinNetwork$Port", "isToBeTaken", "(II)Z"⟩ : MethodName) prog_7_method_5_code 4 (Option.some Jvm.ClassFile.FieldType.boolean) ∈ aw_all := aw_i 360 (by decide +kernel) (by decide +kernel)
theorem wd_361 : Jvm.Cond.methodLink "TwinNetwork" 288 (⟨"TwinNetwork$Port", "putTogether", "(LTwinNetwork$Frame;I)I"⟩ : MethodName) ∈ aw_all := aw_i 361 (by decide +kernel) (by decide +kernel)
theorem wd_362 : Jvm.Cond.instanceMethod (⟨"TwinNetwork$Port", "putTogether", "(LTwinNetwork$Frame;I)I"⟩ : MethodName) ∈ aw_all := aw_i 362 (by decide +kernel) (by decide +kernel)
theorem wd_363 : Jvm.Cond.selects "TwinNetwork$Port" (⟨"TwinNetwork$Port", "putTogether", "(LTwinNetwork$Frame;I)I"⟩ : MethodName) (⟨"TwinNetwork$Port", "putTogether", "(LTwinNetwork$Frame;I)I"⟩ : MethodName) ∈ aw_all := aw_i 363 (by decide +kernel) (by decide +kernel)
theorem wd_364 : Jvm.Cond.code (⟨"TwinNetwork$Port", "putTogether", "(LTwinNetwork$Frame;I)I"⟩ : MethodName) prog_7_method_6_code 6 (Option.some Jvm.ClassFile.FieldType.int) ∈ aw_all := aw_i 364 (by decide +kernel) (by decide +kernel)
theorem wd_365 : Jvm.Cond.methodLink "TwinNetwork$Port" 66 (⟨"TwinNetwork$Frame", "place", "()I"⟩ : MethodName) ∈ aw_all := aw_i 365 (by decide +kernel) (by decide +kernel)
theorem wd_366 : Jvm.Cond.instanceMethod (⟨"TwinNetwork$Frame", "place", "()I"⟩ : MethodName) ∈ aw_all := aw_i 366 (by decide +kernel) (by decide +kernel)
theorem wd_367 : Jvm.Cond.selects "TwinNetwork$Frame" (⟨"TwinNetwork$Frame", "place", "()I"⟩ : MethodName) (⟨"TwinNetwork$Frame", "place", "()I"⟩ : MethodName) ∈ aw_all := aw_i 367 (by decide +kernel) (by decide +kernel)
theorem wd_368 : Jvm.Cond.code (⟨"TwinNetwork$Frame", "place", "()I"⟩ : MethodName) prog_4_method_15_code 1 (Option.some Jvm.ClassFile.FieldType.int) ∈ aw_all := aw_i 368 (by decide +kernel) (by decide +kernel)
theorem wd_369 : Jvm.Cond.methodLink "TwinNetwork$Port" 72 (⟨"TwinNetwork$Frame", "fragmentLength", "()I"⟩ : MethodName) ∈ aw_all := aw_i 369 (by decide +kernel) (by decide +kernel)
theorem wd_370 : Jvm.Cond.methodLink "TwinNetwork$Port" 75 (⟨"TwinNetwork$Frame", "messageNumber", "()I"⟩ : MethodName) ∈ aw_all := aw_i 370 (by decide +kernel) (by decide +kernel)
theorem wd_371 : Jvm.Cond.instanceMethod (⟨"TwinNetwork$Frame", "messageNumber", "()I"⟩ : MethodName) ∈ aw_all := aw_i 371 (by decide +kernel) (by decide +kernel)
theorem wd_372 : Jvm.Cond.selects "TwinNetwork$Frame" (⟨"TwinNetwork$Frame", "messageNumber", "()I"⟩ : MethodName) (⟨"TwinNetwork$Frame", "messageNumber", "()I"⟩ : MethodName) ∈ aw_all := aw_i 372 (by decide +kernel) (by decide +kernel)
theorem wd_373 : Jvm.Cond.code (⟨"TwinNetwork$Frame", "messageNumber", "()I"⟩ : MethodName) prog_4_method_13_code 1 (Option.some Jvm.ClassFile.FieldType.int) ∈ aw_all := aw_i 373 (by decide +kernel) (by decide +kernel)
theorem wd_374 : Jvm.Cond.methodLink "TwinNetwork$Port" 81 (⟨"TwinNetwork$Datagram", "append", "(LTwinNetwork$Frame;I)V"⟩ : MethodName) ∈ aw_all := aw_i 374 (by decide +kernel) (by decide +kernel)
theorem wd_375 : Jvm.Cond.instanceMethod (⟨"TwinNetwork$Datagram", "append", "(LTwinNetwork$Frame;I)V"⟩ : MethodName) ∈ aw_all := aw_i 375 (by decide +kernel) (by decide +kernel)
theorem wd_376 : Jvm.Cond.selects "TwinNetwork$Datagram" (⟨"TwinNetwork$Datagram", "append", "(LTwinNetwork$Frame;I)V"⟩ : MethodName) (⟨"TwinNetwork$Datagram", "append", "(LTwinNetwork$Frame;I)V"⟩ : MethodName) ∈ aw_all := aw_i 376 (by decide +kernel) (by decide +kernel)
theorem wd_377 : Jvm.Cond.code (⟨"TwinNetwork$Datagram", "append", "(LTwinNetwork$Frame;I)V"⟩ : MethodName) prog_2_method_4_code 4 (Option.none : Option Jvm.ClassFile.FieldType) ∈ aw_all := aw_i 377 (by decide +kernel) (by decide +kernel)
theorem wd_378 : Jvm.Cond.methodLink "TwinNetwork$Datagram" 25 (⟨"TwinNetwork$Frame", "at", "(I)I"⟩ : MethodName) ∈ aw_all := aw_i 378 (by decide +kernel) (by decide +kernel)
theorem wd_379 : Jvm.Cond.methodLink "TwinNetwork$Port" 85 (⟨"TwinNetwork$Frame", "moreFollow", "()Z"⟩ : MethodName) ∈ aw_all := aw_i 379 (by decide +kernel) (by decide +kernel)
theorem wd_380 : Jvm.Cond.instanceMethod (⟨"TwinNetwork$Frame", "moreFollow", "()Z"⟩ : MethodName) ∈ aw_all := aw_i 380 (by decide +kernel) (by decide +kernel)
theorem wd_381 : Jvm.Cond.selects "TwinNetwork$Frame" (⟨"TwinNetwork$Frame", "moreFollow", "()Z"⟩ : MethodName) (⟨"TwinNetwork$Frame", "moreFollow", "()Z"⟩ : MethodName) ∈ aw_all := aw_i 381 (by decide +kernel) (by decide +kernel)
theorem wd_382 : Jvm.Cond.code (⟨"TwinNetwork$Frame", "moreFollow", "()Z"⟩ : MethodName) prog_4_method_14_code 1 (Option.some Jvm.ClassFile.FieldType.boolean) ∈ aw_all := aw_i 382 (by decide +kernel) (by decide +kernel)
theorem wd_383 : Jvm.Cond.methodLink "TwinNetwork$Port" 89 (⟨"TwinNetwork$Datagram", "isWhole", "()Z"⟩ : MethodName) ∈ aw_all := aw_i 383 (by decide +kernel) (by decide +kernel)
theorem wd_384 : Jvm.Cond.instanceMethod (⟨"TwinNetwork$Datagram", "isWhole", "()Z"⟩ : MethodName) ∈ aw_all := aw_i 384 (by decide +kernel) (by decide +kernel)
theorem wd_385 : Jvm.Cond.selects "TwinNetwork$Datagram" (⟨"TwinNetwork$Datagram", "isWhole", "()Z"⟩ : MethodName) (⟨"TwinNetwork$Datagram", "isWhole", "()Z"⟩ : MethodName) ∈ aw_all := aw_i 385 (by decide +kernel) (by decide +kernel)
theorem wd_386 : Jvm.Cond.code (⟨"TwinNetwork$Datagram", "isWhole", "()Z"⟩ : MethodName) prog_2_method_5_code 1 (Option.some Jvm.ClassFile.FieldType.boolean) ∈ aw_all := aw_i 386 (by decide +kernel) (by decide +kernel)
theorem wd_387 : Jvm.Cond.methodLink "TwinNetwork$Datagram" 31 (⟨"TwinNetwork$Datagram", "at", "(I)I"⟩ : MethodName) ∈ aw_all := aw_i 387 (by decide +kernel) (by decide +kernel)
theorem wd_388 : Jvm.Cond.instanceMethod (⟨"TwinNetwork$Datagram", "at", "(I)I"⟩ : MethodName) ∈ aw_all := aw_i 388 (by decide +kernel) (by decide +kernel)
theorem wd_389 : Jvm.Cond.selects "TwinNetwork$Datagram" (⟨"TwinNetwork$Datagram", "at", "(I)I"⟩ : MethodName) (⟨"TwinNetwork$Datagram", "at", "(I)I"⟩ : MethodName) ∈ aw_all := aw_i 389 (by decide +kernel) (by decide +kernel)
theorem wd_390 : Jvm.Cond.code (⟨"TwinNetwork$Datagram", "at", "(I)I"⟩ : MethodName) prog_2_method_2_code 2 (Option.some Jvm.ClassFile.FieldType.int) ∈ aw_all := aw_i 390 (by decide +kernel) (by decide +kernel)
theorem wd_391 : Jvm.Cond.methodLink "TwinNetwork$Port" 92 (⟨"TwinNetwork$Port", "keepBegun", "(I)I"⟩ : MethodName) ∈ aw_all := aw_i 391 (by decide +kernel) (by decide +kernel)
theorem wd_393 : Jvm.Cond.instanceMethod (⟨"TwinNetwork$Port", "keepBegun", "(I)I"⟩ : MethodName) ∈ aw_all := aw_i 393 (by decide +kernel) (by decide +kernel)
theorem wd_394 : Jvm.Cond.code (⟨"TwinNetwork$Port", "keepBegun", "(I)I"⟩ : MethodName) prog_7_method_7_code 4 (Option.some Jvm.ClassFile.FieldType.int) ∈ aw_all := aw_i 394 (by decide +kernel) (by decide +kernel)
theorem wd_395 : Jvm.Cond.classLink "TwinNetwork$Port" 29 "TwinNetwork$Datagram" ∈ aw_all := aw_i 395 (by decide +kernel) (by decide +kernel)
theorem wd_396 : Jvm.Cond.methodLinkNest "TwinNetwork$Port" 31 (⟨"TwinNetwork$Datagram", "<init>", "()V"⟩ : MethodName) "TwinNetwork" ∈ aw_all := aw_i 396 (by decide +kernel) (by decide +kernel)
theorem wd_397 : Jvm.Cond.methodLink "TwinNetwork" 263 (⟨"TwinNetwork", "passSwitch", "(IILTwinNetwork$Frame;)I"⟩ : MethodName) ∈ aw_all := aw_i 397 (by decide +kernel) (by decide +kernel)
theorem wd_399 : Jvm.Cond.instanceMethod (⟨"TwinNetwork", "passSwitch", "(IILTwinNetwork$Frame;)I"⟩ : MethodName) ∈ aw_all := aw_i 399 (by decide +kernel) (by decide +kernel)
theorem wd_400 : Jvm.Cond.code (⟨"TwinNetwork", "passSwitch", "(IILTwinNetwork$Frame;)I"⟩ : MethodName) prog_1_method_32_code 6 (Option.some Jvm.ClassFile.FieldType.int) ∈ aw_all := aw_i 400 (by decide +kernel) (by decide +kernel)
theorem wd_401 : Jvm.Cond.methodLink "TwinNetwork" 194 (⟨"TwinNetwork$Link", "uses", "(I)Z"⟩ : MethodName) ∈ aw_all := aw_i 401 (by decide +kernel) (by decide +kernel)
theorem wd_402 : Jvm.Cond.instanceMethod (⟨"TwinNetwork$Link", "uses", "(I)Z"⟩ : MethodName) ∈ aw_all := aw_i 402 (by decide +kernel) (by decide +kernel)
theorem wd_403 : Jvm.Cond.selects "TwinNetwork$Link" (⟨"TwinNetwork$Link", "uses", "(I)Z"⟩ : MethodName) (⟨"TwinNetwork$Link", "uses", "(I)Z"⟩ : MethodName) ∈ aw_all := aw_i 403 (by decide +kernel) (by decide +kernel)
theorem wd_404 : Jvm.Cond.code (⟨"TwinNetwork$Link", "uses", "(I)Z"⟩ : MethodName) prog_6_method_2_code 2 (Option.some Jvm.ClassFile.FieldType.boolean) ∈ aw_all := aw_i 404 (by decide +kernel) (by decide +kernel)
theorem wd_405 : Jvm.Cond.methodLink "TwinNetwork" 272 (⟨"TwinNetwork$Link", "pays", "(II)Z"⟩ : MethodName) ∈ aw_all := aw_i 405 (by decide +kernel) (by decide +kernel)
theorem wd_406 : Jvm.Cond.instanceMethod (⟨"TwinNetwork$Link", "pays", "(II)Z"⟩ : MethodName) ∈ aw_all := aw_i 406 (by decide +kernel) (by decide +kernel)
theorem wd_407 : Jvm.Cond.selects "TwinNetwork$Link" (⟨"TwinNetwork$Link", "pays", "(II)Z"⟩ : MethodName) (⟨"TwinNetwork$Link", "pays", "(II)Z"⟩ : MethodName) ∈ aw_all := aw_i 407 (by decide +kernel) (by decide +kernel)
theorem wd_408 : Jvm.Cond.code (⟨"TwinNetwork$Link", "pays", "(II)Z"⟩ : MethodName) prog_6_method_9_code 4 (Option.some Jvm.ClassFile.FieldType.boolean) ∈ aw_all := aw_i 408 (by decide +kernel) (by decide +kernel)
theorem wd_409 : Jvm.Cond.fieldLink "TwinNetwork" 275 "TwinNetwork" "LEAVES_SWITCH" "[I" ∈ aw_all := aw_i 409 (by decide +kernel) (by decide +kernel)
theorem wd_411 : Jvm.Cond.methodLink "TwinNetwork" 98 (⟨"TwinNetwork", "takeFrames", "()V"⟩ : MethodName) ∈ aw_all := aw_i 411 (by decide +kernel) (by decide +kernel)
theorem wd_413 : Jvm.Cond.instanceMethod (⟨"TwinNetwork", "takeFrames", "()V"⟩ : MethodName) ∈ aw_all := aw_i 413 (by decide +kernel) (by decide +kernel)
theorem wd_414 : Jvm.Cond.code (⟨"TwinNetwork", "takeFrames", "()V"⟩ : MethodName) prog_1_method_34_code 5 (Option.none : Option Jvm.ClassFile.FieldType) ∈ aw_all := aw_i 414 (by decide +kernel) (by decide +kernel)
theorem wd_415 : Jvm.Cond.methodLink "TwinNetwork" 292 (⟨"TwinNetwork$Line", "takesAfterLoss", "()Z"⟩ : MethodName) ∈ aw_all := aw_i 415 (by decide +kernel) (by decide +kernel)
theorem wd_416 : Jvm.Cond.instanceMethod (⟨"TwinNetwork$Line", "takesAfterLoss", "()Z"⟩ : MethodName) ∈ aw_all := aw_i 416 (by decide +kernel) (by decide +kernel)
theorem wd_417 : Jvm.Cond.selects "TwinNetwork$Line" (⟨"TwinNetwork$Line", "takesAfterLoss", "()Z"⟩ : MethodName) (⟨"TwinNetwork$Line", "takesAfterLoss", "()Z"⟩ : MethodName) ∈ aw_all := aw_i 417 (by decide +kernel) (by decide +kernel)
theorem wd_418 : Jvm.Cond.code (⟨"TwinNetwork$Line", "takesAfterLoss", "()Z"⟩ : MethodName) prog_5_method_5_code 1 (Option.some Jvm.ClassFile.FieldType.boolean) ∈ aw_all := aw_i 418 (by decide +kernel) (by decide +kernel)
theorem wd_419 : Jvm.Cond.methodLink "TwinNetwork$Line" 53 (⟨"TwinNetwork$Line", "takeFirst", "()V"⟩ : MethodName) ∈ aw_all := aw_i 419 (by decide +kernel) (by decide +kernel)
theorem wd_421 : Jvm.Cond.instanceMethod (⟨"TwinNetwork$Line", "takeFirst", "()V"⟩ : MethodName) ∈ aw_all := aw_i 421 (by decide +kernel) (by decide +kernel)
theorem wd_422 : Jvm.Cond.code (⟨"TwinNetwork$Line", "takeFirst", "()V"⟩ : MethodName) prog_5_method_6_code 2 (Option.none : Option Jvm.ClassFile.FieldType) ∈ aw_all := aw_i 422 (by decide +kernel) (by decide +kernel)
theorem wd_423 : Jvm.Cond.methodLink "TwinNetwork$Line" 60 (⟨"TwinNetwork$Row", "isEmpty", "()Z"⟩ : MethodName) ∈ aw_all := aw_i 423 (by decide +kernel) (by decide +kernel)
theorem wd_424 : Jvm.Cond.methodLink "TwinNetwork$Line" 64 (⟨"TwinNetwork$Row", "exchangeFirst", "(LTwinNetwork$Frame;)LTwinNetwork$Frame;"⟩ : MethodName) ∈ aw_all := aw_i 424 (by decide +kernel) (by decide +kernel)
theorem wd_425 : Jvm.Cond.instanceMethod (⟨"TwinNetwork$Row", "exchangeFirst", "(LTwinNetwork$Frame;)LTwinNetwork$Frame;"⟩ : MethodName) ∈ aw_all := aw_i 425 (by decide +kernel) (by decide +kernel)
theorem wd_426 : Jvm.Cond.selects "TwinNetwork$Row" (⟨"TwinNetwork$Row", "exchangeFirst", "(LTwinNetwork$Frame;)LTwinNetwork$Frame;"⟩ : MethodName) (⟨"TwinNetwork$Row", "exchangeFirst", "(LTwinNetwork$Frame;)LTwinNetwork$Frame;"⟩ : MethodName) ∈ aw_all := aw_i 426 (by decide +kernel) (by decide +kernel)
theorem wd_427 : Jvm.Cond.code (⟨"TwinNetwork$Row", "exchangeFirst", "(LTwinNetwork$Frame;)LTwinNetwork$Frame;"⟩ : MethodName) prog_8_method_4_code 3 (Option.some (Jvm.ClassFile.FieldType.object "TwinNetwork$Frame")) ∈ aw_all := aw_i 427 (by decide +kernel) (by decide +kernel)
theorem wd_428 : Jvm.Cond.methodLink "TwinNetwork$Line" 56 (⟨"TwinNetwork$Frame", "spoil", "(II)V"⟩ : MethodName) ∈ aw_all := aw_i 428 (by decide +kernel) (by decide +kernel)
theorem wd_429 : Jvm.Cond.instanceMethod (⟨"TwinNetwork$Frame", "spoil", "(II)V"⟩ : MethodName) ∈ aw_all := aw_i 429 (by decide +kernel) (by decide +kernel)
theorem wd_430 : Jvm.Cond.selects "TwinNetwork$Frame" (⟨"TwinNetwork$Frame", "spoil", "(II)V"⟩ : MethodName) (⟨"TwinNetwork$Frame", "spoil", "(II)V"⟩ : MethodName) ∈ aw_all := aw_i 430 (by decide +kernel) (by decide +kernel)
theorem wd_431 : Jvm.Cond.code (⟨"TwinNetwork$Frame", "spoil", "(II)V"⟩ : MethodName) prog_4_method_10_code 4 (Option.none : Option Jvm.ClassFile.FieldType) ∈ aw_all := aw_i 431 (by decide +kernel) (by decide +kernel)
theorem wd_432 : Jvm.Cond.methodLink "TwinNetworkLaw" 52 (⟨"TwinNetwork", "byteOf", "(I)I"⟩ : MethodName) ∈ aw_all := aw_i 432 (by decide +kernel) (by decide +kernel)
theorem wd_433 : Jvm.Cond.instanceMethod (⟨"TwinNetwork", "byteOf", "(I)I"⟩ : MethodName) ∈ aw_all := aw_i 433 (by decide +kernel) (by decide +kernel)
theorem wd_434 : Jvm.Cond.selects "TwinNetwork" (⟨"TwinNetwork", "byteOf", "(I)I"⟩ : MethodName) (⟨"TwinNetwork", "byteOf", "(I)I"⟩ : MethodName) ∈ aw_all := aw_i 434 (by decide +kernel) (by decide +kernel)
theorem wd_435 : Jvm.Cond.code (⟨"TwinNetwork", "byteOf", "(I)I"⟩ : MethodName) prog_1_method_6_code 2 (Option.some Jvm.ClassFile.FieldType.int) ∈ aw_all := aw_i 435 (by decide +kernel) (by decide +kernel)
theorem wd_436 : Jvm.Cond.methodLink "TwinNetwork" 118 (⟨"TwinNetwork$Datagram", "at", "(I)I"⟩ : MethodName) ∈ aw_all := aw_i 436 (by decide +kernel) (by decide +kernel)
theorem wd_437 : Jvm.Cond.methodLink "TwinNetworkLaw" 56 (⟨"TwinNetwork", "port", "(II)I"⟩ : MethodName) ∈ aw_all := aw_i 437 (by decide +kernel) (by decide +kernel)
theorem wd_438 : Jvm.Cond.instanceMethod (⟨"TwinNetwork", "port", "(II)I"⟩ : MethodName) ∈ aw_all := aw_i 438 (by decide +kernel) (by decide +kernel)
theorem wd_439 : Jvm.Cond.selects "TwinNetwork" (⟨"TwinNetwork", "port", "(II)I"⟩ : MethodName) (⟨"TwinNetwork", "port", "(II)I"⟩ : MethodName) ∈ aw_all := aw_i 439 (by decide +kernel) (by decide +kernel)
theorem wd_440 : Jvm.Cond.code (⟨"TwinNetwork", "port", "(II)I"⟩ : MethodName) prog_1_method_7_code 4 (Option.some Jvm.ClassFile.FieldType.int) ∈ aw_all := aw_i 440 (by decide +kernel) (by decide +kernel)
theorem wd_441 : Jvm.Cond.methodLink "TwinNetwork" 101 (⟨"TwinNetwork", "portAt", "(II)LTwinNetwork$Port;"⟩ : MethodName) ∈ aw_all := aw_i 441 (by decide +kernel) (by decide +kernel)
theorem wd_443 : Jvm.Cond.instanceMethod (⟨"TwinNetwork", "portAt", "(II)LTwinNetwork$Port;"⟩ : MethodName) ∈ aw_all := aw_i 443 (by decide +kernel) (by decide +kernel)
theorem wd_444 : Jvm.Cond.code (⟨"TwinNetwork", "portAt", "(II)LTwinNetwork$Port;"⟩ : MethodName) prog_1_method_22_code 4 (Option.some (Jvm.ClassFile.FieldType.object "TwinNetwork$Port")) ∈ aw_all := aw_i 444 (by decide +kernel) (by decide +kernel)
theorem wd_445 : Jvm.Cond.methodLink "TwinNetwork" 121 (⟨"TwinNetwork$Port", "state", "(I)I"⟩ : MethodName) ∈ aw_all := aw_i 445 (by decide +kernel) (by decide +kernel)
theorem wd_446 : Jvm.Cond.instanceMethod (⟨"TwinNetwork$Port", "state", "(I)I"⟩ : MethodName) ∈ aw_all := aw_i 446 (by decide +kernel) (by decide +kernel)
theorem wd_447 : Jvm.Cond.selects "TwinNetwork$Port" (⟨"TwinNetwork$Port", "state", "(I)I"⟩ : MethodName) (⟨"TwinNetwork$Port", "state", "(I)I"⟩ : MethodName) ∈ aw_all := aw_i 447 (by decide +kernel) (by decide +kernel)
theorem wd_448 : Jvm.Cond.code (⟨"TwinNetwork$Port", "state", "(I)I"⟩ : MethodName) prog_7_method_9_code 2 (Option.some Jvm.ClassFile.FieldType.int) ∈ aw_all := aw_i 448 (by decide +kernel) (by decide +kernel)
theorem wd_449 : Jvm.Cond.methodLink "TwinNetworkLaw" 60 (⟨"TwinNetwork", "harm", "(IIII)Z"⟩ : MethodName) ∈ aw_all := aw_i 449 (by decide +kernel) (by decide +kernel)
theorem wd_450 : Jvm.Cond.instanceMethod (⟨"TwinNetwork", "harm", "(IIII)Z"⟩ : MethodName) ∈ aw_all := aw_i 450 (by decide +kernel) (by decide +kernel)
theorem wd_451 : Jvm.Cond.selects "TwinNetwork" (⟨"TwinNetwork", "harm", "(IIII)Z"⟩ : MethodName) (⟨"TwinNetwork", "harm", "(IIII)Z"⟩ : MethodName) ∈ aw_all := aw_i 451 (by decide +kernel) (by decide +kernel)
theorem wd_452 : Jvm.Cond.code (⟨"TwinNetwork", "harm", "(IIII)Z"⟩ : MethodName) prog_1_method_8_code 6 (Option.some Jvm.ClassFile.FieldType.boolean) ∈ aw_all := aw_i 452 (by decide +kernel) (by decide +kernel)
theorem wd_453 : Jvm.Cond.constant "TwinNetwork" 128 (2147483647 : Int32) ∈ aw_all := aw_i 453 (by decide +kernel) (by decide +kernel)
theorem wd_454 : Jvm.Cond.methodLink "TwinNetwork" 129 (⟨"TwinNetwork$Line", "expectHarm", "(II)V"⟩ : MethodName) ∈ aw_all := aw_i 454 (by decide +kernel) (by decide +kernel)
theorem wd_455 : Jvm.Cond.instanceMethod (⟨"TwinNetwork$Line", "expectHarm", "(II)V"⟩ : MethodName) ∈ aw_all := aw_i 455 (by decide +kernel) (by decide +kernel)
theorem wd_456 : Jvm.Cond.selects "TwinNetwork$Line" (⟨"TwinNetwork$Line", "expectHarm", "(II)V"⟩ : MethodName) (⟨"TwinNetwork$Line", "expectHarm", "(II)V"⟩ : MethodName) ∈ aw_all := aw_i 456 (by decide +kernel) (by decide +kernel)
theorem wd_457 : Jvm.Cond.code (⟨"TwinNetwork$Line", "expectHarm", "(II)V"⟩ : MethodName) prog_5_method_3_code 3 (Option.none : Option Jvm.ClassFile.FieldType) ∈ aw_all := aw_i 457 (by decide +kernel) (by decide +kernel)
theorem wd_458 : Jvm.Cond.methodLink "TwinNetworkLaw" 65 (⟨"TwinNetwork", "babble", "(IIIII)Z"⟩ : MethodName) ∈ aw_all := aw_i 458 (by decide +kernel) (by decide +kernel)
theorem wd_459 : Jvm.Cond.instanceMethod (⟨"TwinNetwork", "babble", "(IIIII)Z"⟩ : MethodName) ∈ aw_all := aw_i 459 (by decide +kernel) (by decide +kernel)
theorem wd_460 : Jvm.Cond.selects "TwinNetwork" (⟨"TwinNetwork", "babble", "(IIIII)Z"⟩ : MethodName) (⟨"TwinNetwork", "babble", "(IIIII)Z"⟩ : MethodName) ∈ aw_all := aw_i 460 (by decide +kernel) (by decide +kernel)
theorem wd_461 : Jvm.Cond.code (⟨"TwinNetwork", "babble", "(IIIII)Z"⟩ : MethodName) prog_1_method_9_code 6 (Option.some Jvm.ClassFile.FieldType.boolean) ∈ aw_all := aw_i 461 (by decide +kernel) (by decide +kernel)
theorem wd_462 : Jvm.Cond.methodLink "TwinNetwork" 50 (⟨"TwinNetwork", "isSystem", "(I)Z"⟩ : MethodName) ∈ aw_all := aw_i 462 (by decide +kernel) (by decide +kernel)
theorem wd_463 : Jvm.Cond.constant "TwinNetwork" 139 (65535 : Int32) ∈ aw_all := aw_i 463 (by decide +kernel) (by decide +kernel)
theorem wd_464 : Jvm.Cond.methodLink "TwinNetworkLaw" 70 (⟨"TwinNetwork", "onLine", "(III)I"⟩ : MethodName) ∈ aw_all := aw_i 464 (by decide +kernel) (by decide +kernel)
theorem wd_465 : Jvm.Cond.instanceMethod (⟨"TwinNetwork", "onLine", "(III)I"⟩ : MethodName) ∈ aw_all := aw_i 465 (by decide +kernel) (by decide +kernel)
theorem wd_466 : Jvm.Cond.selects "TwinNetwork" (⟨"TwinNetwork", "onLine", "(III)I"⟩ : MethodName) (⟨"TwinNetwork", "onLine", "(III)I"⟩ : MethodName) ∈ aw_all := aw_i 466 (by decide +kernel) (by decide +kernel)
theorem wd_467 : Jvm.Cond.code (⟨"TwinNetwork", "onLine", "(III)I"⟩ : MethodName) prog_1_method_10_code 5 (Option.some Jvm.ClassFile.FieldType.int) ∈ aw_all := aw_i 467 (by decide +kernel) (by decide +kernel)
theorem wd_468 : Jvm.Cond.methodLink "TwinNetwork" 161 (⟨"TwinNetwork$Frame", "at", "(I)I"⟩ : MethodName) ∈ aw_all := aw_i 468 (by decide +kernel) (by decide +kernel)
theorem wd_469 : Jvm.Cond.methodLink "TwinNetworkLaw" 74 (⟨"TwinNetwork", "waiting", "(III)I"⟩ : MethodName) ∈ aw_all := aw_i 469 (by decide +kernel) (by decide +kernel)
theorem wd_470 : Jvm.Cond.instanceMethod (⟨"TwinNetwork", "waiting", "(III)I"⟩ : MethodName) ∈ aw_all := aw_i 470 (by decide +kernel) (by decide +kernel)
theorem wd_471 : Jvm.Cond.selects "TwinNetwork" (⟨"TwinNetwork", "waiting", "(III)I"⟩ : MethodName) (⟨"TwinNetwork", "waiting", "(III)I"⟩ : MethodName) ∈ aw_all := aw_i 471 (by decide +kernel) (by decide +kernel)
theorem wd_472 : Jvm.Cond.code (⟨"TwinNetwork", "waiting", "(III)I"⟩ : MethodName) prog_1_method_11_code 5 (Option.some Jvm.ClassFile.FieldType.int) ∈ aw_all := aw_i 472 (by decide +kernel) (by decide +kernel)
theorem wd_473 : Jvm.Cond.methodLink "TwinNetworkLaw" 78 (⟨"TwinNetwork", "fragments", "(I)I"⟩ : MethodName) ∈ aw_all := aw_i 473 (by decide +kernel) (by decide +kernel)
theorem wd_474 : Jvm.Cond.instanceMethod (⟨"TwinNetwork", "fragments", "(I)I"⟩ : MethodName) ∈ aw_all := aw_i 474 (by decide +kernel) (by decide +kernel)
theorem wd_475 : Jvm.Cond.selects "TwinNetwork" (⟨"TwinNetwork", "fragments", "(I)I"⟩ : MethodName) (⟨"TwinNetwork", "fragments", "(I)I"⟩ : MethodName) ∈ aw_all := aw_i 475 (by decide +kernel) (by decide +kernel)
theorem wd_476 : Jvm.Cond.code (⟨"TwinNetwork", "fragments", "(I)I"⟩ : MethodName) prog_1_method_12_code 3 (Option.some Jvm.ClassFile.FieldType.int) ∈ aw_all := aw_i 476 (by decide +kernel) (by decide +kernel)
theorem wd_477 : Jvm.Cond.methodLink "TwinNetworkLaw" 82 (⟨"TwinNetwork", "account", "(II)I"⟩ : MethodName) ∈ aw_all := aw_i 477 (by decide +kernel) (by decide +kernel)
theorem wd_478 : Jvm.Cond.instanceMethod (⟨"TwinNetwork", "account", "(II)I"⟩ : MethodName) ∈ aw_all := aw_i 478 (by decide +kernel) (by decide +kernel)
theorem wd_479 : Jvm.Cond.selects "TwinNetwork" (⟨"TwinNetwork", "account", "(II)I"⟩ : MethodName) (⟨"TwinNetwork", "account", "(II)I"⟩ : MethodName) ∈ aw_all := aw_i 479 (by decide +kernel) (by decide +kernel)
theorem wd_480 : Jvm.Cond.code (⟨"TwinNetwork", "account", "(II)I"⟩ : MethodName) prog_1_method_13_code 4 (Option.some Jvm.ClassFile.FieldType.int) ∈ aw_all := aw_i 480 (by decide +kernel) (by decide +kernel)
theorem wd_481 : Jvm.Cond.methodLink "TwinNetworkLaw" 86 (⟨"TwinNetwork", "dropped", "(I)I"⟩ : MethodName) ∈ aw_all := aw_i 481 (by decide +kernel) (by decide +kernel)
theorem wd_482 : Jvm.Cond.instanceMethod (⟨"TwinNetwork", "dropped", "(I)I"⟩ : MethodName) ∈ aw_all := aw_i 482 (by decide +kernel) (by decide +kernel)
theorem wd_483 : Jvm.Cond.selects "TwinNetwork" (⟨"TwinNetwork", "dropped", "(I)I"⟩ : MethodName) (⟨"TwinNetwork", "dropped", "(I)I"⟩ : MethodName) ∈ aw_all := aw_i 483 (by decide +kernel) (by decide +kernel)
theorem wd_484 : Jvm.Cond.code (⟨"TwinNetwork", "dropped", "(I)I"⟩ : MethodName) prog_1_method_14_code 2 (Option.some Jvm.ClassFile.FieldType.int) ∈ aw_all := aw_i 484 (by decide +kernel) (by decide +kernel)
theorem wd_485 : Jvm.Cond.methodLink "TwinNetworkLaw" 90 (⟨"TwinNetwork", "bound", "(II)I"⟩ : MethodName) ∈ aw_all := aw_i 485 (by decide +kernel) (by decide +kernel)
theorem wd_486 : Jvm.Cond.instanceMethod (⟨"TwinNetwork", "bound", "(II)I"⟩ : MethodName) ∈ aw_all := aw_i 486 (by decide +kernel) (by decide +kernel)
theorem wd_487 : Jvm.Cond.selects "TwinNetwork" (⟨"TwinNetwork", "bound", "(II)I"⟩ : MethodName) (⟨"TwinNetwork", "bound", "(II)I"⟩ : MethodName) ∈ aw_all := aw_i 487 (by decide +kernel) (by decide +kernel)
theorem wd_488 : Jvm.Cond.code (⟨"TwinNetwork", "bound", "(II)I"⟩ : MethodName) prog_1_method_15_code 7 (Option.some Jvm.ClassFile.FieldType.int) ∈ aw_all := aw_i 488 (by decide +kernel) (by decide +kernel)
theorem wd_489 : Jvm.Cond.methodLink "TwinNetwork" 184 (⟨"TwinNetwork", "pathTo", "(II)I"⟩ : MethodName) ∈ aw_all := aw_i 489 (by decide +kernel) (by decide +kernel)
theorem wd_490 : Jvm.Cond.static (⟨"TwinNetwork", "pathTo", "(II)I"⟩ : MethodName) ∈ aw_all := aw_i 490 (by decide +kernel) (by decide +kernel)
theorem wd_491 : Jvm.Cond.code (⟨"TwinNetwork", "pathTo", "(II)I"⟩ : MethodName) prog_1_method_25_code 4 (Option.some Jvm.ClassFile.FieldType.int) ∈ aw_all := aw_i 491 (by decide +kernel) (by decide +kernel)
theorem wd_492 : Jvm.Cond.methodLink "TwinNetwork" 191 (⟨"TwinNetwork", "switchOf", "(I)I"⟩ : MethodName) ∈ aw_all := aw_i 492 (by decide +kernel) (by decide +kernel)
theorem wd_493 : Jvm.Cond.static (⟨"TwinNetwork", "switchOf", "(I)I"⟩ : MethodName) ∈ aw_all := aw_i 493 (by decide +kernel) (by decide +kernel)
theorem wd_494 : Jvm.Cond.code (⟨"TwinNetwork", "switchOf", "(I)I"⟩ : MethodName) prog_1_method_24_code 1 (Option.some Jvm.ClassFile.FieldType.int) ∈ aw_all := aw_i 494 (by decide +kernel) (by decide +kernel)
theorem wd_495 : Jvm.Cond.methodLink "TwinNetwork" 188 (⟨"TwinNetwork", "ticksOfAllLinks", "(I)I"⟩ : MethodName) ∈ aw_all := aw_i 495 (by decide +kernel) (by decide +kernel)
theorem wd_497 : Jvm.Cond.instanceMethod (⟨"TwinNetwork", "ticksOfAllLinks", "(I)I"⟩ : MethodName) ∈ aw_all := aw_i 497 (by decide +kernel) (by decide +kernel)
theorem wd_498 : Jvm.Cond.code (⟨"TwinNetwork", "ticksOfAllLinks", "(I)I"⟩ : MethodName) prog_1_method_26_code 7 (Option.some Jvm.ClassFile.FieldType.int) ∈ aw_all := aw_i 498 (by decide +kernel) (by decide +kernel)
theorem wd_499 : Jvm.Cond.methodLink "TwinNetworkLaw" 29 (⟨"TwinNetworkLaw", "link", "(LTwinNetwork;IIIIII)I"⟩ : MethodName) ∈ aw_all := aw_i 499 (by decide +kernel) (by decide +kernel)
theorem wd_500 : Jvm.Cond.static (⟨"TwinNetworkLaw", "link", "(LTwinNetwork;IIIIII)I"⟩ : MethodName) ∈ aw_all := aw_i 500 (by decide +kernel) (by decide +kernel)
theorem wd_504 : Jvm.Cond.methodLink "TwinNetworkLaw" 7 (⟨"TwinNetwork", "link", "(IIIIII)V"⟩ : MethodName) ∈ aw_all := aw_i 504 (by decide +kernel) (by decide +kernel)
theorem wd_505 : Jvm.Cond.instanceMethod (⟨"TwinNetwork", "link", "(IIIIII)V"⟩ : MethodName) ∈ aw_all := aw_i 505 (by decide +kernel) (by decide +kernel)
theorem wd_506 : Jvm.Cond.selects "TwinNetwork" (⟨"TwinNetwork", "link", "(IIIIII)V"⟩ : MethodName) (⟨"TwinNetwork", "link", "(IIIIII)V"⟩ : MethodName) ∈ aw_all := aw_i 506 (by decide +kernel) (by decide +kernel)
theorem wd_507 : Jvm.Cond.code (⟨"TwinNetwork", "link", "(IIIIII)V"⟩ : MethodName) prog_1_method_2_code 7 (Option.none : Option Jvm.ClassFile.FieldType) ∈ aw_all := aw_i 507 (by decide +kernel) (by decide +kernel)
theorem wd_508 : Jvm.Cond.methodLink "TwinNetwork" 53 (⟨"TwinNetwork", "areTargets", "(II)Z"⟩ : MethodName) ∈ aw_all := aw_i 508 (by decide +kernel) (by decide +kernel)
theorem wd_509 : Jvm.Cond.static (⟨"TwinNetwork", "areTargets", "(II)Z"⟩ : MethodName) ∈ aw_all := aw_i 509 (by decide +kernel) (by decide +kernel)
theorem wd_510 : Jvm.Cond.code (⟨"TwinNetwork", "areTargets", "(II)Z"⟩ : MethodName) prog_1_method_19_code 2 (Option.some Jvm.ClassFile.FieldType.boolean) ∈ aw_all := aw_i 510 (by decide +kernel) (by decide +kernel)
theorem wd_511 : Jvm.Cond.methodLink "TwinNetwork" 57 (⟨"TwinNetwork", "areFlags", "(I)Z"⟩ : MethodName) ∈ aw_all := aw_i 511 (by decide +kernel) (by decide +kernel)
theorem wd_512 : Jvm.Cond.static (⟨"TwinNetwork", "areFlags", "(I)Z"⟩ : MethodName) ∈ aw_all := aw_i 512 (by decide +kernel) (by decide +kernel)
theorem wd_513 : Jvm.Cond.code (⟨"TwinNetwork", "areFlags", "(I)Z"⟩ : MethodName) prog_1_method_20_code 1 (Option.some Jvm.ClassFile.FieldType.boolean) ∈ aw_all := aw_i 513 (by decide +kernel) (by decide +kernel)
theorem wd_591 : Jvm.Cond.instantiable "TwinNetwork$Link" 15 ∈ aw_all := aw_i 591 (by decide +kernel) (by decide +kernel)
theorem wd_592 : Jvm.Cond.methodLink "TwinNetwork" 66 (⟨"TwinNetwork$Link", "<init>", "(IIIIII)V"⟩ : MethodName) ∈ aw_all := aw_i 592 (by decide +kernel) (by decide +kernel)
theorem wd_593 : Jvm.Cond.instanceMethod (⟨"TwinNetwork$Link", "<init>", "(IIIIII)V"⟩ : MethodName) ∈ aw_all := aw_i 593 (by decide +kernel) (by decide +kernel)
theorem wd_594 : Jvm.Cond.code (⟨"TwinNetwork$Link", "<init>", "(IIIIII)V"⟩ : MethodName) prog_6_method_1_code 9 (Option.none : Option Jvm.ClassFile.FieldType) ∈ aw_all := aw_i 594 (by decide +kernel) (by decide +kernel)
theorem wd_595 : Jvm.Cond.methodLink "TwinNetwork$Link" 3 (⟨"java/lang/Object", "<init>", "()V"⟩ : MethodName) ∈ aw_all := aw_i 595 (by decide +kernel) (by decide +kernel)
theorem wd_596 : Jvm.Cond.classLink "TwinNetwork$Link" 9 "TwinNetwork$Port" ∈ aw_all := aw_i 596 (by decide +kernel) (by decide +kernel)
theorem wd_597 : Jvm.Cond.arrayOver (Jvm.ClassFile.FieldType.object "TwinNetwork$Port") ∈ aw_all := aw_i 597 (by decide +kernel) (by decide +kernel)
theorem wd_598 : Jvm.Cond.classLink "TwinNetwork$Link" 21 "TwinNetwork$Fragment" ∈ aw_all := aw_i 598 (by decide +kernel) (by decide +kernel)
theorem wd_599 : Jvm.Cond.arrayOver (Jvm.ClassFile.FieldType.object "TwinNetwork$Fragment") ∈ aw_all := aw_i 599 (by decide +kernel) (by decide +kernel)
theorem wd_600 : Jvm.Cond.methodLinkNest "TwinNetwork$Link" 62 (⟨"TwinNetwork", "pathTo", "(II)I"⟩ : MethodName) "TwinNetwork" ∈ aw_all := aw_i 600 (by decide +kernel) (by decide +kernel)
theorem wd_601 : Jvm.Cond.methodLink "TwinNetwork$Link" 66 (⟨"TwinNetwork$Port", "<init>", "(ZI)V"⟩ : MethodName) ∈ aw_all := aw_i 601 (by decide +kernel) (by decide +kernel)
theorem wd_602 : Jvm.Cond.instanceMethod (⟨"TwinNetwork$Port", "<init>", "(ZI)V"⟩ : MethodName) ∈ aw_all := aw_i 602 (by decide +kernel) (by decide +kernel)
theorem wd_603 : Jvm.Cond.code (⟨"TwinNetwork$Port", "<init>", "(ZI)V"⟩ : MethodName) prog_7_method_1_code 3 (Option.none : Option Jvm.ClassFile.FieldType) ∈ aw_all := aw_i 603 (by decide +kernel) (by decide +kernel)
theorem wd_604 : Jvm.Cond.methodLink "TwinNetwork$Port" 3 (⟨"java/lang/Object", "<init>", "()V"⟩ : MethodName) ∈ aw_all := aw_i 604 (by decide +kernel) (by decide +kernel)
theorem wd_605 : Jvm.Cond.arrayOver (Jvm.ClassFile.FieldType.object "TwinNetwork$Datagram") ∈ aw_all := aw_i 605 (by decide +kernel) (by decide +kernel)
theorem wd_606 : Jvm.Cond.fieldLink "TwinNetwork$Port" 45 "TwinNetwork$Port" "isQueuing" "Z" ∈ aw_all := aw_i 606 (by decide +kernel) (by decide +kernel)
theorem wd_607 : Jvm.Cond.fieldLink "TwinNetwork$Port" 48 "TwinNetwork$Port" "skew" "I" ∈ aw_all := aw_i 607 (by decide +kernel) (by decide +kernel)
theorem wd_608 : Jvm.Cond.fieldLink "TwinNetwork$Port" 9 "TwinNetwork$Port" "lastSequences" "[I" ∈ aw_all := aw_i 608 (by decide +kernel) (by decide +kernel)
theorem wd_609 : Jvm.Cond.fieldLink "TwinNetwork$Port" 15 "TwinNetwork$Port" "takenSequence" "I" ∈ aw_all := aw_i 609 (by decide +kernel) (by decide +kernel)
theorem wd_610 : Jvm.Cond.fieldLink "TwinNetwork$Port" 19 "TwinNetwork$Port" "takenAt" "I" ∈ aw_all := aw_i 610 (by decide +kernel) (by decide +kernel)
theorem wd_611 : Jvm.Cond.fieldLink "TwinNetwork$Port" 22 "TwinNetwork$Port" "isBegun" "Z" ∈ aw_all := aw_i 611 (by decide +kernel) (by decide +kernel)
theorem wd_612 : Jvm.Cond.fieldLink "TwinNetwork$Port" 26 "TwinNetwork$Port" "begunNumber" "I" ∈ aw_all := aw_i 612 (by decide +kernel) (by decide +kernel)
theorem wd_613 : Jvm.Cond.fieldLink "TwinNetwork$Port" 32 "TwinNetwork$Port" "begun" "LTwinNetwork$Datagram;" ∈ aw_all := aw_i 613 (by decide +kernel) (by decide +kernel)
theorem wd_614 : Jvm.Cond.fieldLink "TwinNetwork$Port" 51 "TwinNetwork$Port" "kept" "[LTwinNetwork$Datagram;" ∈ aw_all := aw_i 614 (by decide +kernel) (by decide +kernel)
theorem wd_615 : Jvm.Cond.fieldLink "TwinNetwork$Port" 36 "TwinNetwork$Port" "firstKept" "I" ∈ aw_all := aw_i 615 (by decide +kernel) (by decide +kernel)
theorem wd_616 : Jvm.Cond.fieldLink "TwinNetwork$Port" 39 "TwinNetwork$Port" "keptCount" "I" ∈ aw_all := aw_i 616 (by decide +kernel) (by decide +kernel)
theorem wd_617 : Jvm.Cond.fieldLink "TwinNetwork$Port" 42 "TwinNetwork$Port" "cameAt" "I" ∈ aw_all := aw_i 617 (by decide +kernel) (by decide +kernel)
theorem wd_643 : Jvm.Cond.instantiable "TwinNetwork$Fragment" 6 ∈ aw_all := aw_i 643 (by decide +kernel) (by decide +kernel)
theorem wd_644 : Jvm.Cond.methodLinkNest "TwinNetwork$Link" 72 (⟨"TwinNetwork$Fragment", "<init>", "()V"⟩ : MethodName) "TwinNetwork" ∈ aw_all := aw_i 644 (by decide +kernel) (by decide +kernel)
theorem wd_645 : Jvm.Cond.instanceMethod (⟨"TwinNetwork$Fragment", "<init>", "()V"⟩ : MethodName) ∈ aw_all := aw_i 645 (by decide +kernel) (by decide +kernel)
theorem wd_646 : Jvm.Cond.code (⟨"TwinNetwork$Fragment", "<init>", "()V"⟩ : MethodName) prog_3_method_1_code 1 (Option.none : Option Jvm.ClassFile.FieldType) ∈ aw_all := aw_i 646 (by decide +kernel) (by decide +kernel)
theorem wd_647 : Jvm.Cond.methodLink "TwinNetwork$Fragment" 3 (⟨"java/lang/Object", "<init>", "()V"⟩ : MethodName) ∈ aw_all := aw_i 647 (by decide +kernel) (by decide +kernel)
theorem wd_648 : Jvm.Cond.fieldLink "TwinNetwork$Fragment" 9 "TwinNetwork$Fragment" "messageNumber" "I" ∈ aw_all := aw_i 648 (by decide +kernel) (by decide +kernel)
theorem wd_649 : Jvm.Cond.fieldLinkNest "TwinNetwork$Link" 85 "TwinNetwork$Fragment" "messageNumber" "I" "TwinNetwork" ∈ aw_all := aw_i 649 (by decide +kernel) (by decide +kernel)
theorem wd_650 : Jvm.Cond.fieldLinkNest "TwinNetwork" 224 "TwinNetwork$Fragment" "messageNumber" "I" "TwinNetwork" ∈ aw_all := aw_i 650 (by decide +kernel) (by decide +kernel)
theorem wd_651 : Jvm.Cond.fieldLink "TwinNetwork$Fragment" 15 "TwinNetwork$Fragment" "messageSize" "I" ∈ aw_all := aw_i 651 (by decide +kernel) (by decide +kernel)
theorem wd_652 : Jvm.Cond.fieldLinkNest "TwinNetwork$Link" 88 "TwinNetwork$Fragment" "messageSize" "I" "TwinNetwork" ∈ aw_all := aw_i 652 (by decide +kernel) (by decide +kernel)
theorem wd_653 : Jvm.Cond.fieldLink "TwinNetwork$Fragment" 18 "TwinNetwork$Fragment" "seed" "I" ∈ aw_all := aw_i 653 (by decide +kernel) (by decide +kernel)
theorem wd_654 : Jvm.Cond.fieldLinkNest "TwinNetwork$Link" 91 "TwinNetwork$Fragment" "seed" "I" "TwinNetwork" ∈ aw_all := aw_i 654 (by decide +kernel) (by decide +kernel)
theorem wd_655 : Jvm.Cond.fieldLink "TwinNetwork$Fragment" 21 "TwinNetwork$Fragment" "place" "I" ∈ aw_all := aw_i 655 (by decide +kernel) (by decide +kernel)
theorem wd_656 : Jvm.Cond.fieldLinkNest "TwinNetwork$Link" 94 "TwinNetwork$Fragment" "place" "I" "TwinNetwork" ∈ aw_all := aw_i 656 (by decide +kernel) (by decide +kernel)
theorem wd_657 : Jvm.Cond.fieldLinkNest "TwinNetwork" 227 "TwinNetwork$Fragment" "place" "I" "TwinNetwork" ∈ aw_all := aw_i 657 (by decide +kernel) (by decide +kernel)
theorem wd_658 : Jvm.Cond.fieldLink "TwinNetwork$Fragment" 24 "TwinNetwork$Fragment" "length" "I" ∈ aw_all := aw_i 658 (by decide +kernel) (by decide +kernel)
theorem wd_659 : Jvm.Cond.fieldLinkNest "TwinNetwork$Link" 102 "TwinNetwork$Fragment" "length" "I" "TwinNetwork" ∈ aw_all := aw_i 659 (by decide +kernel) (by decide +kernel)
theorem wd_660 : Jvm.Cond.fieldLinkNest "TwinNetwork" 221 "TwinNetwork$Fragment" "length" "I" "TwinNetwork" ∈ aw_all := aw_i 660 (by decide +kernel) (by decide +kernel)
theorem wd_661 : Jvm.Cond.fieldLink "TwinNetwork$Fragment" 27 "TwinNetwork$Fragment" "moreFollow" "Z" ∈ aw_all := aw_i 661 (by decide +kernel) (by decide +kernel)
theorem wd_662 : Jvm.Cond.fieldLinkNest "TwinNetwork$Link" 105 "TwinNetwork$Fragment" "moreFollow" "Z" "TwinNetwork" ∈ aw_all := aw_i 662 (by decide +kernel) (by decide +kernel)
theorem wd_663 : Jvm.Cond.fieldLinkNest "TwinNetwork" 230 "TwinNetwork$Fragment" "moreFollow" "Z" "TwinNetwork" ∈ aw_all := aw_i 663 (by decide +kernel) (by decide +kernel)
theorem wd_677 : Jvm.Cond.fieldLink "TwinNetwork$Link" 43 "TwinNetwork$Link" "number" "I" ∈ aw_all := aw_i 677 (by decide +kernel) (by decide +kernel)
theorem wd_678 : Jvm.Cond.fieldLinkNest "TwinNetwork" 218 "TwinNetwork$Link" "number" "I" "TwinNetwork" ∈ aw_all := aw_i 678 (by decide +kernel) (by decide +kernel)
theorem wd_679 : Jvm.Cond.fieldLink "TwinNetwork$Link" 46 "TwinNetwork$Link" "source" "I" ∈ aw_all := aw_i 679 (by decide +kernel) (by decide +kernel)
theorem wd_680 : Jvm.Cond.fieldLinkNest "TwinNetwork" 181 "TwinNetwork$Link" "source" "I" "TwinNetwork" ∈ aw_all := aw_i 680 (by decide +kernel) (by decide +kernel)
theorem wd_681 : Jvm.Cond.fieldLink "TwinNetwork$Link" 49 "TwinNetwork$Link" "gap" "I" ∈ aw_all := aw_i 681 (by decide +kernel) (by decide +kernel)
theorem wd_682 : Jvm.Cond.fieldLinkNest "TwinNetwork" 242 "TwinNetwork$Link" "gap" "I" "TwinNetwork" ∈ aw_all := aw_i 682 (by decide +kernel) (by decide +kernel)
theorem wd_683 : Jvm.Cond.fieldLink "TwinNetwork$Link" 52 "TwinNetwork$Link" "most" "I" ∈ aw_all := aw_i 683 (by decide +kernel) (by decide +kernel)
theorem wd_684 : Jvm.Cond.fieldLinkNest "TwinNetwork" 197 "TwinNetwork$Link" "most" "I" "TwinNetwork" ∈ aw_all := aw_i 684 (by decide +kernel) (by decide +kernel)
theorem wd_685 : Jvm.Cond.fieldLink "TwinNetwork$Link" 55 "TwinNetwork$Link" "isHigh" "Z" ∈ aw_all := aw_i 685 (by decide +kernel) (by decide +kernel)
theorem wd_686 : Jvm.Cond.fieldLinkNest "TwinNetwork" 239 "TwinNetwork$Link" "isHigh" "Z" "TwinNetwork" ∈ aw_all := aw_i 686 (by decide +kernel) (by decide +kernel)
theorem wd_687 : Jvm.Cond.fieldLink "TwinNetwork$Link" 59 "TwinNetwork$Link" "isQueuing" "Z" ∈ aw_all := aw_i 687 (by decide +kernel) (by decide +kernel)
theorem wd_688 : Jvm.Cond.fieldLink "TwinNetwork$Link" 69 "TwinNetwork$Link" "paths" "I" ∈ aw_all := aw_i 688 (by decide +kernel) (by decide +kernel)
theorem wd_689 : Jvm.Cond.fieldLink "TwinNetwork$Link" 11 "TwinNetwork$Link" "ports" "[LTwinNetwork$Port;" ∈ aw_all := aw_i 689 (by decide +kernel) (by decide +kernel)
theorem wd_690 : Jvm.Cond.fieldLink "TwinNetwork$Link" 17 "TwinNetwork$Link" "accounts" "[I" ∈ aw_all := aw_i 690 (by decide +kernel) (by decide +kernel)
theorem wd_691 : Jvm.Cond.fieldLinkNest "TwinNetwork" 174 "TwinNetwork$Link" "accounts" "[I" "TwinNetwork" ∈ aw_all := aw_i 691 (by decide +kernel) (by decide +kernel)
theorem wd_692 : Jvm.Cond.fieldLink "TwinNetwork$Link" 23 "TwinNetwork$Link" "waitingOnes" "[LTwinNetwork$Fragment;" ∈ aw_all := aw_i 692 (by decide +kernel) (by decide +kernel)
theorem wd_693 : Jvm.Cond.fieldLink "TwinNetwork$Link" 27 "TwinNetwork$Link" "firstFragment" "I" ∈ aw_all := aw_i 693 (by decide +kernel) (by decide +kernel)
theorem wd_694 : Jvm.Cond.fieldLink "TwinNetwork$Link" 31 "TwinNetwork$Link" "fragmentCount" "I" ∈ aw_all := aw_i 694 (by decide +kernel) (by decide +kernel)
theorem wd_695 : Jvm.Cond.fieldLinkNest "TwinNetwork" 77 "TwinNetwork$Link" "fragmentCount" "I" "TwinNetwork" ∈ aw_all := aw_i 695 (by decide +kernel) (by decide +kernel)
theorem wd_696 : Jvm.Cond.fieldLink "TwinNetwork$Link" 34 "TwinNetwork$Link" "messageCount" "I" ∈ aw_all := aw_i 696 (by decide +kernel) (by decide +kernel)
theorem wd_697 : Jvm.Cond.fieldLink "TwinNetwork$Link" 37 "TwinNetwork$Link" "sequence" "I" ∈ aw_all := aw_i 697 (by decide +kernel) (by decide +kernel)
theorem wd_698 : Jvm.Cond.fieldLink "TwinNetwork$Link" 40 "TwinNetwork$Link" "openAt" "I" ∈ aw_all := aw_i 698 (by decide +kernel) (by decide +kernel)
theorem wd_699 : Jvm.Cond.fieldLinkNest "TwinNetwork" 203 "TwinNetwork$Link" "openAt" "I" "TwinNetwork" ∈ aw_all := aw_i 699 (by decide +kernel) (by decide +kernel)
theorem wd_731 : Jvm.Cond.methodLink "TwinNetworkLaw" 39 (⟨"TwinNetworkLaw", "write", "(LTwinNetwork;III[J)I"⟩ : MethodName) ∈ aw_all := aw_i 731 (by decide +kernel) (by decide +kernel)
theorem wd_732 : Jvm.Cond.static (⟨"TwinNetworkLaw", "write", "(LTwinNetwork;III[J)I"⟩ : MethodName) ∈ aw_all := aw_i 732 (by decide +kernel) (by decide +kernel)
theorem wd_734 : Jvm.Cond.methodLink "TwinNetworkLaw" 17 (⟨"TwinNetwork", "write", "(III)I"⟩ : MethodName) ∈ aw_all := aw_i 734 (by decide +kernel) (by decide +kernel)
theorem wd_735 : Jvm.Cond.instanceMethod (⟨"TwinNetwork", "write", "(III)I"⟩ : MethodName) ∈ aw_all := aw_i 735 (by decide +kernel) (by decide +kernel)
theorem wd_736 : Jvm.Cond.selects "TwinNetwork" (⟨"TwinNetwork", "write", "(III)I"⟩ : MethodName) (⟨"TwinNetwork", "write", "(III)I"⟩ : MethodName) ∈ aw_all := aw_i 736 (by decide +kernel) (by decide +kernel)
theorem wd_737 : Jvm.Cond.code (⟨"TwinNetwork", "write", "(III)I"⟩ : MethodName) prog_1_method_3_code 6 (Option.some Jvm.ClassFile.FieldType.int) ∈ aw_all := aw_i 737 (by decide +kernel) (by decide +kernel)
theorem wd_738 : Jvm.Cond.methodLink "TwinNetwork" 73 (⟨"TwinNetwork$Link", "fragmentsNeeded", "(I)I"⟩ : MethodName) ∈ aw_all := aw_i 738 (by decide +kernel) (by decide +kernel)
theorem wd_739 : Jvm.Cond.instanceMethod (⟨"TwinNetwork$Link", "fragmentsNeeded", "(I)I"⟩ : MethodName) ∈ aw_all := aw_i 739 (by decide +kernel) (by decide +kernel)
theorem wd_740 : Jvm.Cond.selects "TwinNetwork$Link" (⟨"TwinNetwork$Link", "fragmentsNeeded", "(I)I"⟩ : MethodName) (⟨"TwinNetwork$Link", "fragmentsNeeded", "(I)I"⟩ : MethodName) ∈ aw_all := aw_i 740 (by decide +kernel) (by decide +kernel)
theorem wd_741 : Jvm.Cond.code (⟨"TwinNetwork$Link", "fragmentsNeeded", "(I)I"⟩ : MethodName) prog_6_method_5_code 4 (Option.some Jvm.ClassFile.FieldType.int) ∈ aw_all := aw_i 741 (by decide +kernel) (by decide +kernel)
theorem wd_742 : Jvm.Cond.methodLink "TwinNetwork$Link" 77 (⟨"TwinNetwork$Link", "fragmentRoom", "()I"⟩ : MethodName) ∈ aw_all := aw_i 742 (by decide +kernel) (by decide +kernel)
theorem wd_744 : Jvm.Cond.instanceMethod (⟨"TwinNetwork$Link", "fragmentRoom", "()I"⟩ : MethodName) ∈ aw_all := aw_i 744 (by decide +kernel) (by decide +kernel)
theorem wd_745 : Jvm.Cond.code (⟨"TwinNetwork$Link", "fragmentRoom", "()I"⟩ : MethodName) prog_6_method_4_code 2 (Option.some Jvm.ClassFile.FieldType.int) ∈ aw_all := aw_i 745 (by decide +kernel) (by decide +kernel)
theorem wd_746 : Jvm.Cond.methodLink "TwinNetwork" 80 (⟨"TwinNetwork$Link", "addMessage", "(II)V"⟩ : MethodName) ∈ aw_all := aw_i 746 (by decide +kernel) (by decide +kernel)
theorem wd_747 : Jvm.Cond.instanceMethod (⟨"TwinNetwork$Link", "addMessage", "(II)V"⟩ : MethodName) ∈ aw_all := aw_i 747 (by decide +kernel) (by decide +kernel)
theorem wd_748 : Jvm.Cond.selects "TwinNetwork$Link" (⟨"TwinNetwork$Link", "addMessage", "(II)V"⟩ : MethodName) (⟨"TwinNetwork$Link", "addMessage", "(II)V"⟩ : MethodName) ∈ aw_all := aw_i 748 (by decide +kernel) (by decide +kernel)
theorem wd_749 : Jvm.Cond.code (⟨"TwinNetwork$Link", "addMessage", "(II)V"⟩ : MethodName) prog_6_method_6_code 7 (Option.none : Option Jvm.ClassFile.FieldType) ∈ aw_all := aw_i 749 (by decide +kernel) (by decide +kernel)
theorem wd_750 : Jvm.Cond.methodLink "TwinNetwork$Link" 81 (⟨"TwinNetwork$Link", "fragmentsNeeded", "(I)I"⟩ : MethodName) ∈ aw_all := aw_i 750 (by decide +kernel) (by decide +kernel)
theorem wd_751 : Jvm.Cond.constant "TwinNetwork$Link" 108 (65535 : Int32) ∈ aw_all := aw_i 751 (by decide +kernel) (by decide +kernel)
theorem wd_752 : Jvm.Cond.methodLink "TwinNetworkLaw" 48 (⟨"TwinNetworkLaw", "read", "(LTwinNetwork;II[J)I"⟩ : MethodName) ∈ aw_all := aw_i 752 (by decide +kernel) (by decide +kernel)
theorem wd_753 : Jvm.Cond.static (⟨"TwinNetworkLaw", "read", "(LTwinNetwork;II[J)I"⟩ : MethodName) ∈ aw_all := aw_i 753 (by decide +kernel) (by decide +kernel)
theorem wd_755 : Jvm.Cond.methodLink "TwinNetworkLaw" 21 (⟨"TwinNetwork", "read", "(II)I"⟩ : MethodName) ∈ aw_all := aw_i 755 (by decide +kernel) (by decide +kernel)
theorem wd_756 : Jvm.Cond.instanceMethod (⟨"TwinNetwork", "read", "(II)I"⟩ : MethodName) ∈ aw_all := aw_i 756 (by decide +kernel) (by decide +kernel)
theorem wd_757 : Jvm.Cond.selects "TwinNetwork" (⟨"TwinNetwork", "read", "(II)I"⟩ : MethodName) (⟨"TwinNetwork", "read", "(II)I"⟩ : MethodName) ∈ aw_all := aw_i 757 (by decide +kernel) (by decide +kernel)
theorem wd_758 : Jvm.Cond.code (⟨"TwinNetwork", "read", "(II)I"⟩ : MethodName) prog_1_method_5_code 5 (Option.some Jvm.ClassFile.FieldType.int) ∈ aw_all := aw_i 758 (by decide +kernel) (by decide +kernel)
theorem wd_759 : Jvm.Cond.methodLink "TwinNetwork" 105 (⟨"TwinNetwork$Port", "nextMessage", "()LTwinNetwork$Datagram;"⟩ : MethodName) ∈ aw_all := aw_i 759 (by decide +kernel) (by decide +kernel)
theorem wd_760 : Jvm.Cond.instanceMethod (⟨"TwinNetwork$Port", "nextMessage", "()LTwinNetwork$Datagram;"⟩ : MethodName) ∈ aw_all := aw_i 760 (by decide +kernel) (by decide +kernel)
theorem wd_761 : Jvm.Cond.selects "TwinNetwork$Port" (⟨"TwinNetwork$Port", "nextMessage", "()LTwinNetwork$Datagram;"⟩ : MethodName) (⟨"TwinNetwork$Port", "nextMessage", "()LTwinNetwork$Datagram;"⟩ : MethodName) ∈ aw_all := aw_i 761 (by decide +kernel) (by decide +kernel)
theorem wd_762 : Jvm.Cond.code (⟨"TwinNetwork$Port", "nextMessage", "()LTwinNetwork$Datagram;"⟩ : MethodName) prog_7_method_8_code 2 (Option.some (Jvm.ClassFile.FieldType.object "TwinNetwork$Datagram")) ∈ aw_all := aw_i 762 (by decide +kernel) (by decide +kernel)
theorem wd_763 : Jvm.Cond.methodLink "TwinNetwork" 111 (⟨"TwinNetwork$Datagram", "copyFrom", "(LTwinNetwork$Datagram;)V"⟩ : MethodName) ∈ aw_all := aw_i 763 (by decide +kernel) (by decide +kernel)
theorem wd_764 : Jvm.Cond.instanceMethod (⟨"TwinNetwork$Datagram", "copyFrom", "(LTwinNetwork$Datagram;)V"⟩ : MethodName) ∈ aw_all := aw_i 764 (by decide +kernel) (by decide +kernel)
theorem wd_765 : Jvm.Cond.selects "TwinNetwork$Datagram" (⟨"TwinNetwork$Datagram", "copyFrom", "(LTwinNetwork$Datagram;)V"⟩ : MethodName) (⟨"TwinNetwork$Datagram", "copyFrom", "(LTwinNetwork$Datagram;)V"⟩ : MethodName) ∈ aw_all := aw_i 765 (by decide +kernel) (by decide +kernel)
theorem wd_766 : Jvm.Cond.code (⟨"TwinNetwork$Datagram", "copyFrom", "(LTwinNetwork$Datagram;)V"⟩ : MethodName) prog_2_method_3_code 2 (Option.none : Option Jvm.ClassFile.FieldType) ∈ aw_all := aw_i 766 (by decide +kernel) (by decide +kernel)
theorem wd_767 : Jvm.Cond.methodLink "TwinNetwork$Datagram" 19 (⟨"java/lang/System", "arraycopy", "(Ljava/lang/Object;ILjava/lang/Object;II)V"⟩ : MethodName) ∈ aw_all := aw_i 767 (by decide +kernel) (by decide +kernel)
theorem wd_768 : Jvm.Cond.classLink "TwinNetworkLaw" 26 "TwinNetworkModel" ∈ aw_all := aw_i 768 (by decide +kernel) (by decide +kernel)
theorem wd_769 : Jvm.Cond.instantiable "TwinNetworkModel" 41 ∈ aw_all := aw_i 769 (by decide +kernel) (by decide +kernel)
theorem wd_770 : Jvm.Cond.methodLink "TwinNetworkLaw" 28 (⟨"TwinNetworkModel", "<init>", "()V"⟩ : MethodName) ∈ aw_all := aw_i 770 (by decide +kernel) (by decide +kernel)
theorem wd_771 : Jvm.Cond.instanceMethod (⟨"TwinNetworkModel", "<init>", "()V"⟩ : MethodName) ∈ aw_all := aw_i 771 (by decide +kernel) (by decide +kernel)
theorem wd_772 : Jvm.Cond.code (⟨"TwinNetworkModel", "<init>", "()V"⟩ : MethodName) prog_10_method_1_code 2 (Option.none : Option Jvm.ClassFile.FieldType) ∈ aw_all := aw_i 772 (by decide +kernel) (by decide +kernel)
theorem wd_773 : Jvm.Cond.methodLink "TwinNetworkModel" 1 (⟨"java/lang/Object", "<init>", "()V"⟩ : MethodName) ∈ aw_all := aw_i 773 (by decide +kernel) (by decide +kernel)
theorem wd_774 : Jvm.Cond.constant "TwinNetworkModel" 62 (80000 : Int32) ∈ aw_all := aw_i 774 (by decide +kernel) (by decide +kernel)
theorem wd_775 : Jvm.Cond.constant "TwinNetworkModel" 114 (128000 : Int32) ∈ aw_all := aw_i 775 (by decide +kernel) (by decide +kernel)
theorem wd_776 : Jvm.Cond.fieldLink "TwinNetworkModel" 127 "TwinNetworkModel" "code" "I" ∈ aw_all := aw_i 776 (by decide +kernel) (by decide +kernel)
theorem wd_777 : Jvm.Cond.fieldLink "TwinNetworkModel" 177 "TwinNetworkModel" "time" "I" ∈ aw_all := aw_i 777 (by decide +kernel) (by decide +kernel)
theorem wd_778 : Jvm.Cond.fieldLink "TwinNetworkModel" 7 "TwinNetworkModel" "is" "[Z" ∈ aw_all := aw_i 778 (by decide +kernel) (by decide +kernel)
theorem wd_779 : Jvm.Cond.fieldLink "TwinNetworkModel" 13 "TwinNetworkModel" "high" "[Z" ∈ aw_all := aw_i 779 (by decide +kernel) (by decide +kernel)
theorem wd_780 : Jvm.Cond.fieldLink "TwinNetworkModel" 16 "TwinNetworkModel" "queuing" "[Z" ∈ aw_all := aw_i 780 (by decide +kernel) (by decide +kernel)
theorem wd_781 : Jvm.Cond.fieldLink "TwinNetworkModel" 19 "TwinNetworkModel" "source" "[I" ∈ aw_all := aw_i 781 (by decide +kernel) (by decide +kernel)
theorem wd_782 : Jvm.Cond.fieldLink "TwinNetworkModel" 23 "TwinNetworkModel" "gap" "[I" ∈ aw_all := aw_i 782 (by decide +kernel) (by decide +kernel)
theorem wd_783 : Jvm.Cond.fieldLink "TwinNetworkModel" 26 "TwinNetworkModel" "most" "[I" ∈ aw_all := aw_i 783 (by decide +kernel) (by decide +kernel)
theorem wd_784 : Jvm.Cond.fieldLink "TwinNetworkModel" 29 "TwinNetworkModel" "targets" "[I" ∈ aw_all := aw_i 784 (by decide +kernel) (by decide +kernel)
theorem wd_785 : Jvm.Cond.fieldLink "TwinNetworkModel" 32 "TwinNetworkModel" "skew" "[I" ∈ aw_all := aw_i 785 (by decide +kernel) (by decide +kernel)
theorem wd_786 : Jvm.Cond.fieldLink "TwinNetworkModel" 35 "TwinNetworkModel" "open" "[I" ∈ aw_all := aw_i 786 (by decide +kernel) (by decide +kernel)
theorem wd_787 : Jvm.Cond.fieldLink "TwinNetworkModel" 38 "TwinNetworkModel" "number" "[I" ∈ aw_all := aw_i 787 (by decide +kernel) (by decide +kernel)
theorem wd_788 : Jvm.Cond.fieldLink "TwinNetworkModel" 41 "TwinNetworkModel" "sequence" "[I" ∈ aw_all := aw_i 788 (by decide +kernel) (by decide +kernel)
theorem wd_789 : Jvm.Cond.fieldLink "TwinNetworkModel" 44 "TwinNetworkModel" "account" "[I" ∈ aw_all := aw_i 789 (by decide +kernel) (by decide +kernel)
theorem wd_790 : Jvm.Cond.fieldLink "TwinNetworkModel" 47 "TwinNetworkModel" "waits" "[I" ∈ aw_all := aw_i 790 (by decide +kernel) (by decide +kernel)
theorem wd_791 : Jvm.Cond.fieldLink "TwinNetworkModel" 50 "TwinNetworkModel" "waitSize" "[I" ∈ aw_all := aw_i 791 (by decide +kernel) (by decide +kernel)
theorem wd_792 : Jvm.Cond.fieldLink "TwinNetworkModel" 53 "TwinNetworkModel" "waitSeed" "[I" ∈ aw_all := aw_i 792 (by decide +kernel) (by decide +kernel)
theorem wd_793 : Jvm.Cond.fieldLink "TwinNetworkModel" 56 "TwinNetworkModel" "waitNumber" "[I" ∈ aw_all := aw_i 793 (by decide +kernel) (by decide +kernel)
theorem wd_794 : Jvm.Cond.fieldLink "TwinNetworkModel" 59 "TwinNetworkModel" "waitPlace" "[I" ∈ aw_all := aw_i 794 (by decide +kernel) (by decide +kernel)
theorem wd_795 : Jvm.Cond.fieldLink "TwinNetworkModel" 63 "TwinNetworkModel" "bytes" "[I" ∈ aw_all := aw_i 795 (by decide +kernel) (by decide +kernel)
theorem wd_796 : Jvm.Cond.fieldLink "TwinNetworkModel" 66 "TwinNetworkModel" "sizes" "[I" ∈ aw_all := aw_i 796 (by decide +kernel) (by decide +kernel)
theorem wd_797 : Jvm.Cond.fieldLink "TwinNetworkModel" 69 "TwinNetworkModel" "used" "[Z" ∈ aw_all := aw_i 797 (by decide +kernel) (by decide +kernel)
theorem wd_798 : Jvm.Cond.fieldLink "TwinNetworkModel" 72 "TwinNetworkModel" "row" "[I" ∈ aw_all := aw_i 798 (by decide +kernel) (by decide +kernel)
theorem wd_799 : Jvm.Cond.fieldLink "TwinNetworkModel" 75 "TwinNetworkModel" "rowSize" "[I" ∈ aw_all := aw_i 799 (by decide +kernel) (by decide +kernel)
theorem wd_800 : Jvm.Cond.fieldLink "TwinNetworkModel" 78 "TwinNetworkModel" "on" "[I" ∈ aw_all := aw_i 800 (by decide +kernel) (by decide +kernel)
theorem wd_801 : Jvm.Cond.fieldLink "TwinNetworkModel" 81 "TwinNetworkModel" "gone" "[I" ∈ aw_all := aw_i 801 (by decide +kernel) (by decide +kernel)
theorem wd_802 : Jvm.Cond.fieldLink "TwinNetworkModel" 84 "TwinNetworkModel" "harmPlace" "[I" ∈ aw_all := aw_i 802 (by decide +kernel) (by decide +kernel)
theorem wd_803 : Jvm.Cond.fieldLink "TwinNetworkModel" 87 "TwinNetworkModel" "harmMask" "[I" ∈ aw_all := aw_i 803 (by decide +kernel) (by decide +kernel)
theorem wd_804 : Jvm.Cond.fieldLink "TwinNetworkModel" 90 "TwinNetworkModel" "last" "[I" ∈ aw_all := aw_i 804 (by decide +kernel) (by decide +kernel)
theorem wd_805 : Jvm.Cond.fieldLink "TwinNetworkModel" 93 "TwinNetworkModel" "taken" "[I" ∈ aw_all := aw_i 805 (by decide +kernel) (by decide +kernel)
theorem wd_806 : Jvm.Cond.fieldLink "TwinNetworkModel" 96 "TwinNetworkModel" "takenAt" "[I" ∈ aw_all := aw_i 806 (by decide +kernel) (by decide +kernel)
theorem wd_807 : Jvm.Cond.fieldLink "TwinNetworkModel" 99 "TwinNetworkModel" "begunNumber" "[I" ∈ aw_all := aw_i 807 (by decide +kernel) (by decide +kernel)
theorem wd_808 : Jvm.Cond.fieldLink "TwinNetworkModel" 102 "TwinNetworkModel" "begunSize" "[I" ∈ aw_all := aw_i 808 (by decide +kernel) (by decide +kernel)
theorem wd_809 : Jvm.Cond.fieldLink "TwinNetworkModel" 105 "TwinNetworkModel" "begun" "[I" ∈ aw_all := aw_i 809 (by decide +kernel) (by decide +kernel)
theorem wd_810 : Jvm.Cond.fieldLink "TwinNetworkModel" 108 "TwinNetworkModel" "messages" "[I" ∈ aw_all := aw_i 810 (by decide +kernel) (by decide +kernel)
theorem wd_811 : Jvm.Cond.fieldLink "TwinNetworkModel" 111 "TwinNetworkModel" "messageSize" "[I" ∈ aw_all := aw_i 811 (by decide +kernel) (by decide +kernel)
theorem wd_812 : Jvm.Cond.fieldLink "TwinNetworkModel" 115 "TwinNetworkModel" "message" "[I" ∈ aw_all := aw_i 812 (by decide +kernel) (by decide +kernel)
theorem wd_813 : Jvm.Cond.fieldLink "TwinNetworkModel" 118 "TwinNetworkModel" "cameAt" "[I" ∈ aw_all := aw_i 813 (by decide +kernel) (by decide +kernel)
theorem wd_814 : Jvm.Cond.fieldLink "TwinNetworkModel" 121 "TwinNetworkModel" "dropped" "[I" ∈ aw_all := aw_i 814 (by decide +kernel) (by decide +kernel)
theorem wd_815 : Jvm.Cond.fieldLink "TwinNetworkModel" 124 "TwinNetworkModel" "given" "[I" ∈ aw_all := aw_i 815 (by decide +kernel) (by decide +kernel)
theorem wd_816 : Jvm.Cond.fieldLink "TwinNetworkModel" 239 "TwinNetworkModel" "givenSize" "I" ∈ aw_all := aw_i 816 (by decide +kernel) (by decide +kernel)
theorem wd_900 : Jvm.Cond.arrayClass Jvm.ClassFile.FieldType.boolean ∈ aw_all := aw_i 900 (by decide +kernel) (by decide +kernel)
theorem wd_901 : Jvm.Cond.methodLink "TwinNetworkLaw" 35 (⟨"TwinNetworkModel", "thrown", "()I"⟩ : MethodName) ∈ aw_all := aw_i 901 (by decide +kernel) (by decide +kernel)
theorem wd_902 : Jvm.Cond.instanceMethod (⟨"TwinNetworkModel", "thrown", "()I"⟩ : MethodName) ∈ aw_all := aw_i 902 (by decide +kernel) (by decide +kernel)
theorem wd_903 : Jvm.Cond.selects "TwinNetworkModel" (⟨"TwinNetworkModel", "thrown", "()I"⟩ : MethodName) (⟨"TwinNetworkModel", "thrown", "()I"⟩ : MethodName) ∈ aw_all := aw_i 903 (by decide +kernel) (by decide +kernel)
theorem wd_904 : Jvm.Cond.code (⟨"TwinNetworkModel", "thrown", "()I"⟩ : MethodName) prog_10_method_2_code 1 (Option.some Jvm.ClassFile.FieldType.int) ∈ aw_all := aw_i 904 (by decide +kernel) (by decide +kernel)
theorem wd_905 : Jvm.Cond.methodLink "TwinNetworkLaw" 34 (⟨"TwinNetworkModel", "link", "(IIIIII)V"⟩ : MethodName) ∈ aw_all := aw_i 905 (by decide +kernel) (by decide +kernel)
theorem wd_906 : Jvm.Cond.instanceMethod (⟨"TwinNetworkModel", "link", "(IIIIII)V"⟩ : MethodName) ∈ aw_all := aw_i 906 (by decide +kernel) (by decide +kernel)
theorem wd_907 : Jvm.Cond.selects "TwinNetworkModel" (⟨"TwinNetworkModel", "link", "(IIIIII)V"⟩ : MethodName) (⟨"TwinNetworkModel", "link", "(IIIIII)V"⟩ : MethodName) ∈ aw_all := aw_i 907 (by decide +kernel) (by decide +kernel)
theorem wd_908 : Jvm.Cond.code (⟨"TwinNetworkModel", "link", "(IIIIII)V"⟩ : MethodName) prog_10_method_9_code 10 (Option.none : Option Jvm.ClassFile.FieldType) ∈ aw_all := aw_i 908 (by decide +kernel) (by decide +kernel)
theorem wd_909 : Jvm.Cond.methodLink "TwinNetworkLaw" 42 (⟨"TwinNetworkModel", "write", "(III)I"⟩ : MethodName) ∈ aw_all := aw_i 909 (by decide +kernel) (by decide +kernel)
theorem wd_910 : Jvm.Cond.instanceMethod (⟨"TwinNetworkModel", "write", "(III)I"⟩ : MethodName) ∈ aw_all := aw_i 910 (by decide +kernel) (by decide +kernel)
theorem wd_911 : Jvm.Cond.selects "TwinNetworkModel" (⟨"TwinNetworkModel", "write", "(III)I"⟩ : MethodName) (⟨"TwinNetworkModel", "write", "(III)I"⟩ : MethodName) ∈ aw_all := aw_i 911 (by decide +kernel) (by decide +kernel)
theorem wd_912 : Jvm.Cond.code (⟨"TwinNetworkModel", "write", "(III)I"⟩ : MethodName) prog_10_method_11_code 8 (Option.some Jvm.ClassFile.FieldType.int) ∈ aw_all := aw_i 912 (by decide +kernel) (by decide +kernel)
theorem wd_913 : Jvm.Cond.methodLink "TwinNetworkModel" 142 (⟨"TwinNetworkModel", "isLink", "(I)Z"⟩ : MethodName) ∈ aw_all := aw_i 913 (by decide +kernel) (by decide +kernel)
theorem wd_915 : Jvm.Cond.instanceMethod (⟨"TwinNetworkModel", "isLink", "(I)Z"⟩ : MethodName) ∈ aw_all := aw_i 915 (by decide +kernel) (by decide +kernel)
theorem wd_916 : Jvm.Cond.code (⟨"TwinNetworkModel", "isLink", "(I)Z"⟩ : MethodName) prog_10_method_7_code 2 (Option.some Jvm.ClassFile.FieldType.boolean) ∈ aw_all := aw_i 916 (by decide +kernel) (by decide +kernel)
theorem wd_917 : Jvm.Cond.methodLink "TwinNetworkModel" 146 (⟨"TwinNetworkModel", "piece", "(I)I"⟩ : MethodName) ∈ aw_all := aw_i 917 (by decide +kernel) (by decide +kernel)
theorem wd_919 : Jvm.Cond.instanceMethod (⟨"TwinNetworkModel", "piece", "(I)I"⟩ : MethodName) ∈ aw_all := aw_i 919 (by decide +kernel) (by decide +kernel)
theorem wd_920 : Jvm.Cond.code (⟨"TwinNetworkModel", "piece", "(I)I"⟩ : MethodName) prog_10_method_10_code 2 (Option.some Jvm.ClassFile.FieldType.int) ∈ aw_all := aw_i 920 (by decide +kernel) (by decide +kernel)
theorem wd_921 : Jvm.Cond.constant "TwinNetworkModel" 149 (65536 : Int32) ∈ aw_all := aw_i 921 (by decide +kernel) (by decide +kernel)
theorem wd_922 : Jvm.Cond.methodLink "TwinNetworkLaw" 47 (⟨"TwinNetworkModel", "tick", "(I)I"⟩ : MethodName) ∈ aw_all := aw_i 922 (by decide +kernel) (by decide +kernel)
theorem wd_923 : Jvm.Cond.instanceMethod (⟨"TwinNetworkModel", "tick", "(I)I"⟩ : MethodName) ∈ aw_all := aw_i 923 (by decide +kernel) (by decide +kernel)
theorem wd_924 : Jvm.Cond.selects "TwinNetworkModel" (⟨"TwinNetworkModel", "tick", "(I)I"⟩ : MethodName) (⟨"TwinNetworkModel", "tick", "(I)I"⟩ : MethodName) ∈ aw_all := aw_i 924 (by decide +kernel) (by decide +kernel)
theorem wd_925 : Jvm.Cond.code (⟨"TwinNetworkModel", "tick", "(I)I"⟩ : MethodName) prog_10_method_35_code 5 (Option.some Jvm.ClassFile.FieldType.int) ∈ aw_all := aw_i 925 (by decide +kernel) (by decide +kernel)
theorem wd_926 : Jvm.Cond.methodLink "TwinNetworkModel" 229 (⟨"TwinNetworkModel", "shape", "(I)V"⟩ : MethodName) ∈ aw_all := aw_i 926 (by decide +kernel) (by decide +kernel)
theorem wd_928 : Jvm.Cond.instanceMethod (⟨"TwinNetworkModel", "shape", "(I)V"⟩ : MethodName) ∈ aw_all := aw_i 928 (by decide +kernel) (by decide +kernel)
theorem wd_929 : Jvm.Cond.code (⟨"TwinNetworkModel", "shape", "(I)V"⟩ : MethodName) prog_10_method_24_code 8 (Option.none : Option Jvm.ClassFile.FieldType) ∈ aw_all := aw_i 929 (by decide +kernel) (by decide +kernel)
theorem wd_930 : Jvm.Cond.methodLink "TwinNetworkModel" 180 (⟨"TwinNetworkModel", "frame", "(IIIIIIZ)I"⟩ : MethodName) ∈ aw_all := aw_i 930 (by decide +kernel) (by decide +kernel)
theorem wd_932 : Jvm.Cond.instanceMethod (⟨"TwinNetworkModel", "frame", "(IIIIIIZ)I"⟩ : MethodName) ∈ aw_all := aw_i 932 (by decide +kernel) (by decide +kernel)
theorem wd_933 : Jvm.Cond.code (⟨"TwinNetworkModel", "frame", "(IIIIIIZ)I"⟩ : MethodName) prog_10_method_19_code 10 (Option.some Jvm.ClassFile.FieldType.int) ∈ aw_all := aw_i 933 (by decide +kernel) (by decide +kernel)
theorem wd_934 : Jvm.Cond.methodLink "TwinNetworkModel" 162 (⟨"TwinNetworkModel", "take", "()I"⟩ : MethodName) ∈ aw_all := aw_i 934 (by decide +kernel) (by decide +kernel)
theorem wd_936 : Jvm.Cond.instanceMethod (⟨"TwinNetworkModel", "take", "()I"⟩ : MethodName) ∈ aw_all := aw_i 936 (by decide +kernel) (by decide +kernel)
theorem wd_937 : Jvm.Cond.code (⟨"TwinNetworkModel", "take", "()I"⟩ : MethodName) prog_10_method_12_code 3 (Option.some Jvm.ClassFile.FieldType.int) ∈ aw_all := aw_i 937 (by decide +kernel) (by decide +kernel)
theorem wd_938 : Jvm.Cond.methodLink "TwinNetworkModel" 166 (⟨"TwinNetworkModel", "put", "(III)V"⟩ : MethodName) ∈ aw_all := aw_i 938 (by decide +kernel) (by decide +kernel)
theorem wd_940 : Jvm.Cond.instanceMethod (⟨"TwinNetworkModel", "put", "(III)V"⟩ : MethodName) ∈ aw_all := aw_i 940 (by decide +kernel) (by decide +kernel)
theorem wd_941 : Jvm.Cond.code (⟨"TwinNetworkModel", "put", "(III)V"⟩ : MethodName) prog_10_method_15_code 4 (Option.none : Option Jvm.ClassFile.FieldType) ∈ aw_all := aw_i 941 (by decide +kernel) (by decide +kernel)
theorem wd_942 : Jvm.Cond.methodLink "TwinNetworkModel" 170 (⟨"TwinNetworkModel", "sum", "(I)I"⟩ : MethodName) ∈ aw_all := aw_i 942 (by decide +kernel) (by decide +kernel)
theorem wd_944 : Jvm.Cond.instanceMethod (⟨"TwinNetworkModel", "sum", "(I)I"⟩ : MethodName) ∈ aw_all := aw_i 944 (by decide +kernel) (by decide +kernel)
theorem wd_945 : Jvm.Cond.code (⟨"TwinNetworkModel", "sum", "(I)I"⟩ : MethodName) prog_10_method_16_code 4 (Option.some Jvm.ClassFile.FieldType.int) ∈ aw_all := aw_i 945 (by decide +kernel) (by decide +kernel)
theorem wd_946 : Jvm.Cond.methodLink "TwinNetworkModel" 154 (⟨"TwinNetworkModel", "two", "(II)I"⟩ : MethodName) ∈ aw_all := aw_i 946 (by decide +kernel) (by decide +kernel)
theorem wd_948 : Jvm.Cond.instanceMethod (⟨"TwinNetworkModel", "two", "(II)I"⟩ : MethodName) ∈ aw_all := aw_i 948 (by decide +kernel) (by decide +kernel)
theorem wd_949 : Jvm.Cond.code (⟨"TwinNetworkModel", "two", "(II)I"⟩ : MethodName) prog_10_method_14_code 3 (Option.some Jvm.ClassFile.FieldType.int) ∈ aw_all := aw_i 949 (by decide +kernel) (by decide +kernel)
theorem wd_950 : Jvm.Cond.methodLink "TwinNetworkModel" 150 (⟨"TwinNetworkModel", "cell", "(II)I"⟩ : MethodName) ∈ aw_all := aw_i 950 (by decide +kernel) (by decide +kernel)
theorem wd_952 : Jvm.Cond.instanceMethod (⟨"TwinNetworkModel", "cell", "(II)I"⟩ : MethodName) ∈ aw_all := aw_i 952 (by decide +kernel) (by decide +kernel)
theorem wd_953 : Jvm.Cond.code (⟨"TwinNetworkModel", "cell", "(II)I"⟩ : MethodName) prog_10_method_13_code 3 (Option.some Jvm.ClassFile.FieldType.int) ∈ aw_all := aw_i 953 (by decide +kernel) (by decide +kernel)
theorem wd_954 : Jvm.Cond.constant "TwinNetworkModel" 157 (65535 : Int32) ∈ aw_all := aw_i 954 (by decide +kernel) (by decide +kernel)
theorem wd_955 : Jvm.Cond.methodLink "TwinNetworkModel" 184 (⟨"TwinNetworkModel", "datagram", "(IIII)I"⟩ : MethodName) ∈ aw_all := aw_i 955 (by decide +kernel) (by decide +kernel)
theorem wd_956 : Jvm.Cond.static (⟨"TwinNetworkModel", "datagram", "(IIII)I"⟩ : MethodName) ∈ aw_all := aw_i 956 (by decide +kernel) (by decide +kernel)
theorem wd_957 : Jvm.Cond.code (⟨"TwinNetworkModel", "datagram", "(IIII)I"⟩ : MethodName) prog_10_method_21_code 4 (Option.some Jvm.ClassFile.FieldType.int) ∈ aw_all := aw_i 957 (by decide +kernel) (by decide +kernel)
theorem wd_958 : Jvm.Cond.methodLink "TwinNetworkModel" 188 (⟨"TwinNetworkModel", "close", "(II)V"⟩ : MethodName) ∈ aw_all := aw_i 958 (by decide +kernel) (by decide +kernel)
theorem wd_960 : Jvm.Cond.instanceMethod (⟨"TwinNetworkModel", "close", "(II)V"⟩ : MethodName) ∈ aw_all := aw_i 960 (by decide +kernel) (by decide +kernel)
theorem wd_961 : Jvm.Cond.code (⟨"TwinNetworkModel", "close", "(II)V"⟩ : MethodName) prog_10_method_20_code 5 (Option.none : Option Jvm.ClassFile.FieldType) ∈ aw_all := aw_i 961 (by decide +kernel) (by decide +kernel)
theorem wd_962 : Jvm.Cond.methodLink "TwinNetworkModel" 159 (⟨"TwinNetworkModel", "check", "(I)I"⟩ : MethodName) ∈ aw_all := aw_i 962 (by decide +kernel) (by decide +kernel)
theorem wd_964 : Jvm.Cond.instanceMethod (⟨"TwinNetworkModel", "check", "(I)I"⟩ : MethodName) ∈ aw_all := aw_i 964 (by decide +kernel) (by decide +kernel)
theorem wd_965 : Jvm.Cond.code (⟨"TwinNetworkModel", "check", "(I)I"⟩ : MethodName) prog_10_method_17_code 6 (Option.some Jvm.ClassFile.FieldType.int) ∈ aw_all := aw_i 965 (by decide +kernel) (by decide +kernel)
theorem wd_966 : Jvm.Cond.constant "TwinNetworkModel" 158 (-306674912 : Int32) ∈ aw_all := aw_i 966 (by decide +kernel) (by decide +kernel)
theorem wd_967 : Jvm.Cond.methodLink "TwinNetworkModel" 191 (⟨"TwinNetworkModel", "enter", "(IIZ)V"⟩ : MethodName) ∈ aw_all := aw_i 967 (by decide +kernel) (by decide +kernel)
theorem wd_969 : Jvm.Cond.instanceMethod (⟨"TwinNetworkModel", "enter", "(IIZ)V"⟩ : MethodName) ∈ aw_all := aw_i 969 (by decide +kernel) (by decide +kernel)
theorem wd_970 : Jvm.Cond.code (⟨"TwinNetworkModel", "enter", "(IIZ)V"⟩ : MethodName) prog_10_method_23_code 6 (Option.none : Option Jvm.ClassFile.FieldType) ∈ aw_all := aw_i 970 (by decide +kernel) (by decide +kernel)
theorem wd_971 : Jvm.Cond.methodLink "TwinNetworkModel" 173 (⟨"TwinNetworkModel", "drop", "(II)V"⟩ : MethodName) ∈ aw_all := aw_i 971 (by decide +kernel) (by decide +kernel)
theorem wd_973 : Jvm.Cond.instanceMethod (⟨"TwinNetworkModel", "drop", "(II)V"⟩ : MethodName) ∈ aw_all := aw_i 973 (by decide +kernel) (by decide +kernel)
theorem wd_974 : Jvm.Cond.code (⟨"TwinNetworkModel", "drop", "(II)V"⟩ : MethodName) prog_10_method_22_code 3 (Option.none : Option Jvm.ClassFile.FieldType) ∈ aw_all := aw_i 974 (by decide +kernel) (by decide +kernel)
theorem wd_975 : Jvm.Cond.methodLink "TwinNetworkModel" 233 (⟨"TwinNetworkModel", "move", "(I)V"⟩ : MethodName) ∈ aw_all := aw_i 975 (by decide +kernel) (by decide +kernel)
theorem wd_977 : Jvm.Cond.instanceMethod (⟨"TwinNetworkModel", "move", "(I)V"⟩ : MethodName) ∈ aw_all := aw_i 977 (by decide +kernel) (by decide +kernel)
theorem wd_978 : Jvm.Cond.code (⟨"TwinNetworkModel", "move", "(I)V"⟩ : MethodName) prog_10_method_25_code 3 (Option.none : Option Jvm.ClassFile.FieldType) ∈ aw_all := aw_i 978 (by decide +kernel) (by decide +kernel)
theorem wd_979 : Jvm.Cond.methodLink "TwinNetworkModel" 131 (⟨"TwinNetworkModel", "to", "(I)I"⟩ : MethodName) ∈ aw_all := aw_i 979 (by decide +kernel) (by decide +kernel)
theorem wd_980 : Jvm.Cond.static (⟨"TwinNetworkModel", "to", "(I)I"⟩ : MethodName) ∈ aw_all := aw_i 980 (by decide +kernel) (by decide +kernel)
theorem wd_981 : Jvm.Cond.code (⟨"TwinNetworkModel", "to", "(I)I"⟩ : MethodName) prog_10_method_4_code 1 (Option.some Jvm.ClassFile.FieldType.int) ∈ aw_all := aw_i 981 (by decide +kernel) (by decide +kernel)
theorem wd_982 : Jvm.Cond.methodLink "TwinNetworkModel" 195 (⟨"TwinNetworkModel", "atEnd", "(III)V"⟩ : MethodName) ∈ aw_all := aw_i 982 (by decide +kernel) (by decide +kernel)
theorem wd_984 : Jvm.Cond.instanceMethod (⟨"TwinNetworkModel", "atEnd", "(III)V"⟩ : MethodName) ∈ aw_all := aw_i 984 (by decide +kernel) (by decide +kernel)
theorem wd_985 : Jvm.Cond.code (⟨"TwinNetworkModel", "atEnd", "(III)V"⟩ : MethodName) prog_10_method_32_code 6 (Option.none : Option Jvm.ClassFile.FieldType) ∈ aw_all := aw_i 985 (by decide +kernel) (by decide +kernel)
theorem wd_986 : Jvm.Cond.methodLink "TwinNetworkModel" 204 (⟨"TwinNetworkModel", "linkOf", "(I)I"⟩ : MethodName) ∈ aw_all := aw_i 986 (by decide +kernel) (by decide +kernel)
theorem wd_988 : Jvm.Cond.instanceMethod (⟨"TwinNetworkModel", "linkOf", "(I)I"⟩ : MethodName) ∈ aw_all := aw_i 988 (by decide +kernel) (by decide +kernel)
theorem wd_989 : Jvm.Cond.code (⟨"TwinNetworkModel", "linkOf", "(I)I"⟩ : MethodName) prog_10_method_28_code 4 (Option.some Jvm.ClassFile.FieldType.int) ∈ aw_all := aw_i 989 (by decide +kernel) (by decide +kernel)
theorem wd_990 : Jvm.Cond.methodLink "TwinNetworkModel" 207 (⟨"TwinNetworkModel", "isSound", "(I)Z"⟩ : MethodName) ∈ aw_all := aw_i 990 (by decide +kernel) (by decide +kernel)
theorem wd_992 : Jvm.Cond.instanceMethod (⟨"TwinNetworkModel", "isSound", "(I)Z"⟩ : MethodName) ∈ aw_all := aw_i 992 (by decide +kernel) (by decide +kernel)
theorem wd_993 : Jvm.Cond.code (⟨"TwinNetworkModel", "isSound", "(I)Z"⟩ : MethodName) prog_10_method_18_code 5 (Option.some Jvm.ClassFile.FieldType.boolean) ∈ aw_all := aw_i 993 (by decide +kernel) (by decide +kernel)
theorem wd_994 : Jvm.Cond.methodLink "TwinNetworkModel" 214 (⟨"TwinNetworkModel", "isTarget", "(II)Z"⟩ : MethodName) ∈ aw_all := aw_i 994 (by decide +kernel) (by decide +kernel)
theorem wd_996 : Jvm.Cond.instanceMethod (⟨"TwinNetworkModel", "isTarget", "(II)Z"⟩ : MethodName) ∈ aw_all := aw_i 996 (by decide +kernel) (by decide +kernel)
theorem wd_997 : Jvm.Cond.code (⟨"TwinNetworkModel", "isTarget", "(II)Z"⟩ : MethodName) prog_10_method_8_code 3 (Option.some Jvm.ClassFile.FieldType.boolean) ∈ aw_all := aw_i 997 (by decide +kernel) (by decide +kernel)
theorem wd_998 : Jvm.Cond.methodLink "TwinNetworkModel" 217 (⟨"TwinNetworkModel", "hasHead", "(I)Z"⟩ : MethodName) ∈ aw_all := aw_i 998 (by decide +kernel) (by decide +kernel)
theorem wd_1000 : Jvm.Cond.instanceMethod (⟨"TwinNetworkModel", "hasHead", "(I)Z"⟩ : MethodName) ∈ aw_all := aw_i 1000 (by decide +kernel) (by decide +kernel)
theorem wd_1001 : Jvm.Cond.code (⟨"TwinNetworkModel", "hasHead", "(I)Z"⟩ : MethodName) prog_10_method_30_code 3 (Option.some Jvm.ClassFile.FieldType.boolean) ∈ aw_all := aw_i 1001 (by decide +kernel) (by decide +kernel)
theorem wd_1002 : Jvm.Cond.methodLink "TwinNetworkModel" 220 (⟨"TwinNetworkModel", "arrive", "(IIII)I"⟩ : MethodName) ∈ aw_all := aw_i 1002 (by decide +kernel) (by decide +kernel)
theorem wd_1004 : Jvm.Cond.instanceMethod (⟨"TwinNetworkModel", "arrive", "(IIII)I"⟩ : MethodName) ∈ aw_all := aw_i 1004 (by decide +kernel) (by decide +kernel)
theorem wd_1005 : Jvm.Cond.code (⟨"TwinNetworkModel", "arrive", "(IIII)I"⟩ : MethodName) prog_10_method_33_code 10 (Option.some Jvm.ClassFile.FieldType.int) ∈ aw_all := aw_i 1005 (by decide +kernel) (by decide +kernel)
theorem wd_1006 : Jvm.Cond.methodLink "TwinNetworkModel" 223 (⟨"TwinNetworkModel", "next", "(I)I"⟩ : MethodName) ∈ aw_all := aw_i 1006 (by decide +kernel) (by decide +kernel)
theorem wd_1007 : Jvm.Cond.static (⟨"TwinNetworkModel", "next", "(I)I"⟩ : MethodName) ∈ aw_all := aw_i 1007 (by decide +kernel) (by decide +kernel)
theorem wd_1008 : Jvm.Cond.code (⟨"TwinNetworkModel", "next", "(I)I"⟩ : MethodName) prog_10_method_31_code 1 (Option.some Jvm.ClassFile.FieldType.int) ∈ aw_all := aw_i 1008 (by decide +kernel) (by decide +kernel)
theorem wd_1009 : Jvm.Cond.methodLink "TwinNetworkModel" 226 (⟨"TwinNetworkModel", "join", "(II)I"⟩ : MethodName) ∈ aw_all := aw_i 1009 (by decide +kernel) (by decide +kernel)
theorem wd_1011 : Jvm.Cond.instanceMethod (⟨"TwinNetworkModel", "join", "(II)I"⟩ : MethodName) ∈ aw_all := aw_i 1011 (by decide +kernel) (by decide +kernel)
theorem wd_1012 : Jvm.Cond.code (⟨"TwinNetworkModel", "join", "(II)I"⟩ : MethodName) prog_10_method_34_code 9 (Option.some Jvm.ClassFile.FieldType.int) ∈ aw_all := aw_i 1012 (by decide +kernel) (by decide +kernel)
theorem wd_1013 : Jvm.Cond.methodLink "TwinNetworkModel" 198 (⟨"TwinNetworkModel", "atSwitch", "(III)V"⟩ : MethodName) ∈ aw_all := aw_i 1013 (by decide +kernel) (by decide +kernel)
theorem wd_1015 : Jvm.Cond.instanceMethod (⟨"TwinNetworkModel", "atSwitch", "(III)V"⟩ : MethodName) ∈ aw_all := aw_i 1015 (by decide +kernel) (by decide +kernel)
theorem wd_1016 : Jvm.Cond.code (⟨"TwinNetworkModel", "atSwitch", "(III)V"⟩ : MethodName) prog_10_method_29_code 9 (Option.none : Option Jvm.ClassFile.FieldType) ∈ aw_all := aw_i 1016 (by decide +kernel) (by decide +kernel)
theorem wd_1017 : Jvm.Cond.methodLink "TwinNetworkModel" 210 (⟨"TwinNetworkModel", "isOnPath", "(II)Z"⟩ : MethodName) ∈ aw_all := aw_i 1017 (by decide +kernel) (by decide +kernel)
theorem wd_1019 : Jvm.Cond.instanceMethod (⟨"TwinNetworkModel", "isOnPath", "(II)Z"⟩ : MethodName) ∈ aw_all := aw_i 1019 (by decide +kernel) (by decide +kernel)
theorem wd_1020 : Jvm.Cond.code (⟨"TwinNetworkModel", "isOnPath", "(II)Z"⟩ : MethodName) prog_10_method_6_code 5 (Option.some Jvm.ClassFile.FieldType.boolean) ∈ aw_all := aw_i 1020 (by decide +kernel) (by decide +kernel)
theorem wd_1021 : Jvm.Cond.methodLink "TwinNetworkModel" 138 (⟨"TwinNetworkModel", "isOnWay", "(III)Z"⟩ : MethodName) ∈ aw_all := aw_i 1021 (by decide +kernel) (by decide +kernel)
theorem wd_1022 : Jvm.Cond.static (⟨"TwinNetworkModel", "isOnWay", "(III)Z"⟩ : MethodName) ∈ aw_all := aw_i 1022 (by decide +kernel) (by decide +kernel)
theorem wd_1023 : Jvm.Cond.code (⟨"TwinNetworkModel", "isOnWay", "(III)Z"⟩ : MethodName) prog_10_method_5_code 5 (Option.some Jvm.ClassFile.FieldType.boolean) ∈ aw_all := aw_i 1023 (by decide +kernel) (by decide +kernel)
theorem wd_1024 : Jvm.Cond.methodLink "TwinNetworkModel" 135 (⟨"TwinNetworkModel", "from", "(I)I"⟩ : MethodName) ∈ aw_all := aw_i 1024 (by decide +kernel) (by decide +kernel)
theorem wd_1025 : Jvm.Cond.static (⟨"TwinNetworkModel", "from", "(I)I"⟩ : MethodName) ∈ aw_all := aw_i 1025 (by decide +kernel) (by decide +kernel)
theorem wd_1026 : Jvm.Cond.code (⟨"TwinNetworkModel", "from", "(I)I"⟩ : MethodName) prog_10_method_3_code 1 (Option.some Jvm.ClassFile.FieldType.int) ∈ aw_all := aw_i 1026 (by decide +kernel) (by decide +kernel)
theorem wd_1027 : Jvm.Cond.methodLink "TwinNetworkModel" 236 (⟨"TwinNetworkModel", "load", "(I)V"⟩ : MethodName) ∈ aw_all := aw_i 1027 (by decide +kernel) (by decide +kernel)
theorem wd_1029 : Jvm.Cond.instanceMethod (⟨"TwinNetworkModel", "load", "(I)V"⟩ : MethodName) ∈ aw_all := aw_i 1029 (by decide +kernel) (by decide +kernel)
theorem wd_1030 : Jvm.Cond.code (⟨"TwinNetworkModel", "load", "(I)V"⟩ : MethodName) prog_10_method_27_code 3 (Option.none : Option Jvm.ClassFile.FieldType) ∈ aw_all := aw_i 1030 (by decide +kernel) (by decide +kernel)
theorem wd_1031 : Jvm.Cond.methodLink "TwinNetworkModel" 201 (⟨"TwinNetworkModel", "pull", "(I)I"⟩ : MethodName) ∈ aw_all := aw_i 1031 (by decide +kernel) (by decide +kernel)
theorem wd_1033 : Jvm.Cond.instanceMethod (⟨"TwinNetworkModel", "pull", "(I)I"⟩ : MethodName) ∈ aw_all := aw_i 1033 (by decide +kernel) (by decide +kernel)
theorem wd_1034 : Jvm.Cond.code (⟨"TwinNetworkModel", "pull", "(I)I"⟩ : MethodName) prog_10_method_26_code 4 (Option.some Jvm.ClassFile.FieldType.int) ∈ aw_all := aw_i 1034 (by decide +kernel) (by decide +kernel)
theorem wd_1035 : Jvm.Cond.methodLink "TwinNetworkLaw" 51 (⟨"TwinNetworkModel", "read", "(II)I"⟩ : MethodName) ∈ aw_all := aw_i 1035 (by decide +kernel) (by decide +kernel)
theorem wd_1036 : Jvm.Cond.instanceMethod (⟨"TwinNetworkModel", "read", "(II)I"⟩ : MethodName) ∈ aw_all := aw_i 1036 (by decide +kernel) (by decide +kernel)
theorem wd_1037 : Jvm.Cond.selects "TwinNetworkModel" (⟨"TwinNetworkModel", "read", "(II)I"⟩ : MethodName) (⟨"TwinNetworkModel", "read", "(II)I"⟩ : MethodName) ∈ aw_all := aw_i 1037 (by decide +kernel) (by decide +kernel)
theorem wd_1038 : Jvm.Cond.code (⟨"TwinNetworkModel", "read", "(II)I"⟩ : MethodName) prog_10_method_36_code 6 (Option.some Jvm.ClassFile.FieldType.int) ∈ aw_all := aw_i 1038 (by decide +kernel) (by decide +kernel)
theorem wd_1039 : Jvm.Cond.methodLink "TwinNetworkLaw" 55 (⟨"TwinNetworkModel", "byteOf", "(I)I"⟩ : MethodName) ∈ aw_all := aw_i 1039 (by decide +kernel) (by decide +kernel)
theorem wd_1040 : Jvm.Cond.instanceMethod (⟨"TwinNetworkModel", "byteOf", "(I)I"⟩ : MethodName) ∈ aw_all := aw_i 1040 (by decide +kernel) (by decide +kernel)
theorem wd_1041 : Jvm.Cond.selects "TwinNetworkModel" (⟨"TwinNetworkModel", "byteOf", "(I)I"⟩ : MethodName) (⟨"TwinNetworkModel", "byteOf", "(I)I"⟩ : MethodName) ∈ aw_all := aw_i 1041 (by decide +kernel) (by decide +kernel)
theorem wd_1042 : Jvm.Cond.code (⟨"TwinNetworkModel", "byteOf", "(I)I"⟩ : MethodName) prog_10_method_37_code 2 (Option.some Jvm.ClassFile.FieldType.int) ∈ aw_all := aw_i 1042 (by decide +kernel) (by decide +kernel)
theorem wd_1043 : Jvm.Cond.methodLink "TwinNetworkLaw" 59 (⟨"TwinNetworkModel", "port", "(II)I"⟩ : MethodName) ∈ aw_all := aw_i 1043 (by decide +kernel) (by decide +kernel)
theorem wd_1044 : Jvm.Cond.instanceMethod (⟨"TwinNetworkModel", "port", "(II)I"⟩ : MethodName) ∈ aw_all := aw_i 1044 (by decide +kernel) (by decide +kernel)
theorem wd_1045 : Jvm.Cond.selects "TwinNetworkModel" (⟨"TwinNetworkModel", "port", "(II)I"⟩ : MethodName) (⟨"TwinNetworkModel", "port", "(II)I"⟩ : MethodName) ∈ aw_all := aw_i 1045 (by decide +kernel) (by decide +kernel)
theorem wd_1046 : Jvm.Cond.code (⟨"TwinNetworkModel", "port", "(II)I"⟩ : MethodName) prog_10_method_38_code 4 (Option.some Jvm.ClassFile.FieldType.int) ∈ aw_all := aw_i 1046 (by decide +kernel) (by decide +kernel)
theorem wd_1047 : Jvm.Cond.methodLink "TwinNetworkLaw" 64 (⟨"TwinNetworkModel", "harm", "(IIII)Z"⟩ : MethodName) ∈ aw_all := aw_i 1047 (by decide +kernel) (by decide +kernel)
theorem wd_1048 : Jvm.Cond.instanceMethod (⟨"TwinNetworkModel", "harm", "(IIII)Z"⟩ : MethodName) ∈ aw_all := aw_i 1048 (by decide +kernel) (by decide +kernel)
theorem wd_1049 : Jvm.Cond.selects "TwinNetworkModel" (⟨"TwinNetworkModel", "harm", "(IIII)Z"⟩ : MethodName) (⟨"TwinNetworkModel", "harm", "(IIII)Z"⟩ : MethodName) ∈ aw_all := aw_i 1049 (by decide +kernel) (by decide +kernel)
theorem wd_1050 : Jvm.Cond.code (⟨"TwinNetworkModel", "harm", "(IIII)Z"⟩ : MethodName) prog_10_method_40_code 5 (Option.some Jvm.ClassFile.FieldType.boolean) ∈ aw_all := aw_i 1050 (by decide +kernel) (by decide +kernel)
theorem wd_1051 : Jvm.Cond.methodLink "TwinNetworkModel" 242 (⟨"TwinNetworkModel", "isLine", "(II)Z"⟩ : MethodName) ∈ aw_all := aw_i 1051 (by decide +kernel) (by decide +kernel)
theorem wd_1052 : Jvm.Cond.static (⟨"TwinNetworkModel", "isLine", "(II)Z"⟩ : MethodName) ∈ aw_all := aw_i 1052 (by decide +kernel) (by decide +kernel)
theorem wd_1053 : Jvm.Cond.code (⟨"TwinNetworkModel", "isLine", "(II)Z"⟩ : MethodName) prog_10_method_39_code 2 (Option.some Jvm.ClassFile.FieldType.boolean) ∈ aw_all := aw_i 1053 (by decide +kernel) (by decide +kernel)
theorem wd_1054 : Jvm.Cond.constant "TwinNetworkModel" 245 (2147483647 : Int32) ∈ aw_all := aw_i 1054 (by decide +kernel) (by decide +kernel)
theorem wd_1055 : Jvm.Cond.methodLink "TwinNetworkLaw" 69 (⟨"TwinNetworkModel", "babble", "(IIIII)Z"⟩ : MethodName) ∈ aw_all := aw_i 1055 (by decide +kernel) (by decide +kernel)
theorem wd_1056 : Jvm.Cond.instanceMethod (⟨"TwinNetworkModel", "babble", "(IIIII)Z"⟩ : MethodName) ∈ aw_all := aw_i 1056 (by decide +kernel) (by decide +kernel)
theorem wd_1057 : Jvm.Cond.selects "TwinNetworkModel" (⟨"TwinNetworkModel", "babble", "(IIIII)Z"⟩ : MethodName) (⟨"TwinNetworkModel", "babble", "(IIIII)Z"⟩ : MethodName) ∈ aw_all := aw_i 1057 (by decide +kernel) (by decide +kernel)
theorem wd_1058 : Jvm.Cond.code (⟨"TwinNetworkModel", "babble", "(IIIII)Z"⟩ : MethodName) prog_10_method_41_code 7 (Option.some Jvm.ClassFile.FieldType.boolean) ∈ aw_all := aw_i 1058 (by decide +kernel) (by decide +kernel)
theorem wd_1059 : Jvm.Cond.methodLink "TwinNetworkLaw" 73 (⟨"TwinNetworkModel", "onLine", "(III)I"⟩ : MethodName) ∈ aw_all := aw_i 1059 (by decide +kernel) (by decide +kernel)
theorem wd_1060 : Jvm.Cond.instanceMethod (⟨"TwinNetworkModel", "onLine", "(III)I"⟩ : MethodName) ∈ aw_all := aw_i 1060 (by decide +kernel) (by decide +kernel)
theorem wd_1061 : Jvm.Cond.selects "TwinNetworkModel" (⟨"TwinNetworkModel", "onLine", "(III)I"⟩ : MethodName) (⟨"TwinNetworkModel", "onLine", "(III)I"⟩ : MethodName) ∈ aw_all := aw_i 1061 (by decide +kernel) (by decide +kernel)
theorem wd_1062 : Jvm.Cond.code (⟨"TwinNetworkModel", "onLine", "(III)I"⟩ : MethodName) prog_10_method_42_code 5 (Option.some Jvm.ClassFile.FieldType.int) ∈ aw_all := aw_i 1062 (by decide +kernel) (by decide +kernel)
theorem wd_1063 : Jvm.Cond.methodLink "TwinNetworkLaw" 77 (⟨"TwinNetworkModel", "waiting", "(III)I"⟩ : MethodName) ∈ aw_all := aw_i 1063 (by decide +kernel) (by decide +kernel)
theorem wd_1064 : Jvm.Cond.instanceMethod (⟨"TwinNetworkModel", "waiting", "(III)I"⟩ : MethodName) ∈ aw_all := aw_i 1064 (by decide +kernel) (by decide +kernel)
theorem wd_1065 : Jvm.Cond.selects "TwinNetworkModel" (⟨"TwinNetworkModel", "waiting", "(III)I"⟩ : MethodName) (⟨"TwinNetworkModel", "waiting", "(III)I"⟩ : MethodName) ∈ aw_all := aw_i 1065 (by decide +kernel) (by decide +kernel)
theorem wd_1066 : Jvm.Cond.code (⟨"TwinNetworkModel", "waiting", "(III)I"⟩ : MethodName) prog_10_method_43_code 4 (Option.some Jvm.ClassFile.FieldType.int) ∈ aw_all := aw_i 1066 (by decide +kernel) (by decide +kernel)
theorem wd_1067 : Jvm.Cond.methodLink "TwinNetworkLaw" 81 (⟨"TwinNetworkModel", "fragments", "(I)I"⟩ : MethodName) ∈ aw_all := aw_i 1067 (by decide +kernel) (by decide +kernel)
theorem wd_1068 : Jvm.Cond.instanceMethod (⟨"TwinNetworkModel", "fragments", "(I)I"⟩ : MethodName) ∈ aw_all := aw_i 1068 (by decide +kernel) (by decide +kernel)
theorem wd_1069 : Jvm.Cond.selects "TwinNetworkModel" (⟨"TwinNetworkModel", "fragments", "(I)I"⟩ : MethodName) (⟨"TwinNetworkModel", "fragments", "(I)I"⟩ : MethodName) ∈ aw_all := aw_i 1069 (by decide +kernel) (by decide +kernel)
theorem wd_1070 : Jvm.Cond.code (⟨"TwinNetworkModel", "fragments", "(I)I"⟩ : MethodName) prog_10_method_44_code 2 (Option.some Jvm.ClassFile.FieldType.int) ∈ aw_all := aw_i 1070 (by decide +kernel) (by decide +kernel)
theorem wd_1071 : Jvm.Cond.methodLink "TwinNetworkLaw" 85 (⟨"TwinNetworkModel", "account", "(II)I"⟩ : MethodName) ∈ aw_all := aw_i 1071 (by decide +kernel) (by decide +kernel)
theorem wd_1072 : Jvm.Cond.instanceMethod (⟨"TwinNetworkModel", "account", "(II)I"⟩ : MethodName) ∈ aw_all := aw_i 1072 (by decide +kernel) (by decide +kernel)
theorem wd_1073 : Jvm.Cond.selects "TwinNetworkModel" (⟨"TwinNetworkModel", "account", "(II)I"⟩ : MethodName) (⟨"TwinNetworkModel", "account", "(II)I"⟩ : MethodName) ∈ aw_all := aw_i 1073 (by decide +kernel) (by decide +kernel)
theorem wd_1074 : Jvm.Cond.code (⟨"TwinNetworkModel", "account", "(II)I"⟩ : MethodName) prog_10_method_45_code 3 (Option.some Jvm.ClassFile.FieldType.int) ∈ aw_all := aw_i 1074 (by decide +kernel) (by decide +kernel)
theorem wd_1075 : Jvm.Cond.methodLink "TwinNetworkLaw" 89 (⟨"TwinNetworkModel", "dropped", "(I)I"⟩ : MethodName) ∈ aw_all := aw_i 1075 (by decide +kernel) (by decide +kernel)
theorem wd_1076 : Jvm.Cond.instanceMethod (⟨"TwinNetworkModel", "dropped", "(I)I"⟩ : MethodName) ∈ aw_all := aw_i 1076 (by decide +kernel) (by decide +kernel)
theorem wd_1077 : Jvm.Cond.selects "TwinNetworkModel" (⟨"TwinNetworkModel", "dropped", "(I)I"⟩ : MethodName) (⟨"TwinNetworkModel", "dropped", "(I)I"⟩ : MethodName) ∈ aw_all := aw_i 1077 (by decide +kernel) (by decide +kernel)
theorem wd_1078 : Jvm.Cond.code (⟨"TwinNetworkModel", "dropped", "(I)I"⟩ : MethodName) prog_10_method_46_code 2 (Option.some Jvm.ClassFile.FieldType.int) ∈ aw_all := aw_i 1078 (by decide +kernel) (by decide +kernel)
theorem wd_1079 : Jvm.Cond.methodLink "TwinNetworkLaw" 93 (⟨"TwinNetworkModel", "bound", "(II)I"⟩ : MethodName) ∈ aw_all := aw_i 1079 (by decide +kernel) (by decide +kernel)
theorem wd_1080 : Jvm.Cond.instanceMethod (⟨"TwinNetworkModel", "bound", "(II)I"⟩ : MethodName) ∈ aw_all := aw_i 1080 (by decide +kernel) (by decide +kernel)
theorem wd_1081 : Jvm.Cond.selects "TwinNetworkModel" (⟨"TwinNetworkModel", "bound", "(II)I"⟩ : MethodName) (⟨"TwinNetworkModel", "bound", "(II)I"⟩ : MethodName) ∈ aw_all := aw_i 1081 (by decide +kernel) (by decide +kernel)
theorem wd_1082 : Jvm.Cond.code (⟨"TwinNetworkModel", "bound", "(II)I"⟩ : MethodName) prog_10_method_47_code 6 (Option.some Jvm.ClassFile.FieldType.int) ∈ aw_all := aw_i 1082 (by decide +kernel) (by decide +kernel)
theorem wd_1083 : Jvm.Cond.arrayClass Jvm.ClassFile.FieldType.long ∈ aw_all := aw_i 1083 (by decide +kernel) (by decide +kernel)
theorem aw_c_Datagram : ∀ w ∈ u_ws cn_Datagram cT_Datagram 2, w ∈ aw_all := by decide +kernel
theorem aw_c_Fragment : ∀ w ∈ u_ws cn_Fragment cT_Fragment 6, w ∈ aw_all := by decide +kernel
theorem aw_c_Frame : ∀ w ∈ u_ws cn_Frame cT_Frame 2, w ∈ aw_all := by decide +kernel
theorem aw_c_Line : ∀ w ∈ u_ws cn_Line cT_Line 9, w ∈ aw_all := by decide +kernel
theorem aw_c_Link : ∀ w ∈ u_ws cn_Link cT_Link 15, w ∈ aw_all := by decide +kernel
theorem aw_c_Port : ∀ w ∈ u_ws cn_Port cT_Port 12, w ∈ aw_all := by decide +kernel
theorem aw_c_Row : ∀ w ∈ u_ws cn_Row cT_Row 3, w ∈ aw_all := by decide +kernel
theorem aw_c_Net : ∀ w ∈ u_ws cn_Net cT_Net 6, w ∈ aw_all := by decide +kernel
theorem aw_c_Model : ∀ w ∈ u_ws cn_Model cT_Model 41, w ∈ aw_all := by decide +kernel
end
section
section AE
/-- cells: arrays (number of the kind, length, contents), objects (number of the class, fields); references are places in the list of cells -/
abbrev ae_C : Type := (Nat × vp_A) ⊕ (Nat × List Value)
/-- how many cells and slots were made so far, and the cells -/
abbrev ae_S : Type := (Nat × Nat) × List ae_C
abbrev ae_Ls : Type := List (Option Value)
abbrev ae_R : Type := Nat → Nat × (Nat → Int32)
abbrev ae_Op : Type := ae_R → ae_S → ae_Ls → List Value → Option (ae_S × ae_Ls × List Value × Nat)
def ae_v (ad ro : Nat → Nat) : Value → Value
  | .ref p => .ref (ad p)
  | .retAddr k => .ref (ro k)
  | .int x => .int x
  | .long x => .long x
  | .float x => .float x
  | .double x => .double x
  | .null => .null
def ae_a (ad : Nat → Nat) (x : vp_A) : vp_A := (x.1, match x.2 with
  | .inl f => .inl f
  | .inr (.inl f) => .inr (.inl f)
  | .inr (.inr (.inl f)) => .inr (.inr (.inl f))
  | .inr (.inr (.inr (.inl f))) => .inr (.inr (.inr (.inl f)))
  | .inr (.inr (.inr (.inr f))) => .inr (.inr (.inr (.inr (fun i => (f i).map ad)))))
def ae_c (ad ro : Nat → Nat) (dA : Nat → ClassId) : ae_C → va_E
  | .inl (t, x) => .inl (dA t, ae_a ad x)
  | .inr (ci, fs) => .inr (ci, fs.map (ae_v ad ro))
def ae_w (ad ro : Nat → Nat) (dA : Nat → ClassId) (σ : List ae_C) : va_W := σ.mapIdx (fun i x => (ad i, ae_c ad ro dA x))
theorem ae_w_get {ad ro : Nat → Nat} {dA : Nat → ClassId} {σ : List ae_C} {q : Nat} {x : ae_C} (h : σ[q]? = some x) : (ae_w ad ro dA σ)[q]? = some (ad q, ae_c ad ro dA x) := by
  simp [ae_w, List.getElem?_mapIdx, h]
theorem ae_w_set (ad ro : Nat → Nat) (dA : Nat → ClassId) (σ : List ae_C) (q : Nat) (x : ae_C) : (ae_w ad ro dA σ).set q (ad q, ae_c ad ro dA x) = ae_w ad ro dA (σ.set q x) := by
  apply List.ext_getElem?
  intro i
  simp only [ae_w, List.getElem?_set, List.getElem?_mapIdx, List.length_mapIdx]
  by_cases h : q = i
  · subst h
    by_cases h2 : q < σ.length
    · simp [h2]
    · simp [h2]
  · simp [h]
/-- no reference points out of the store -/
def ae_cv (n : Nat) : Value → Prop
  | .ref p => p < n
  | _ => True
def ae_cc (n : Nat) : ae_C → Prop
  | .inl (_, _, .inr (.inr (.inr (.inr f)))) => ∀ i p, f i = some p → p < n
  | .inl _ => True
  | .inr (_, fs) => ∀ v ∈ fs, ae_cv n v
def ae_cs (σ : ae_S) : Prop := ∀ x ∈ σ.2, ae_cc σ.2.length x
def ae_cL (n : Nat) (L : ae_Ls) : Prop := ∀ (i : Nat) (v : Value), L[i]? = some (some v) → ae_cv n v ∧ v.category = 1
def ae_ck (n : Nat) (k : List Value) : Prop := ∀ v ∈ k, ae_cv n v
def ae_cl (σ : ae_S) (L : ae_Ls) (k : List Value) : Prop := ae_cs σ ∧ ae_cL σ.2.length L ∧ ae_ck σ.2.length k
theorem ae_cv_mono {n n' : Nat} (h : n ≤ n') {v : Value} (hv : ae_cv n v) : ae_cv n' v := by
  cases v <;> first | trivial | exact Nat.lt_of_lt_of_le hv h
theorem ae_cc_mono {n n' : Nat} (h : n ≤ n') {x : ae_C} (hx : ae_cc n x) : ae_cc n' x := by
  rcases x with ⟨t, k, f | f | f | f | f⟩ | ⟨ci, fs⟩
  · trivial
  · trivial
  · trivial
  · trivial
  · exact fun i p hp => Nat.lt_of_lt_of_le (hx i p hp) h
  · exact fun v hv => ae_cv_mono h (hx v hv)
theorem ae_cL_mono {n n' : Nat} (h : n ≤ n') {L : ae_Ls} (hL : ae_cL n L) : ae_cL n' L := fun i v hv => ⟨ae_cv_mono h (hL i v hv).1, (hL i v hv).2⟩
theorem ae_ck_mono {n n' : Nat} (h : n ≤ n') {k : List Value} (hk : ae_ck n k) : ae_ck n' k := fun v hv => ae_cv_mono h (hk v hv)
theorem ae_v_eq {n : Nat} {ad ad' ro : Nat → Nat} (h : ∀ q, q < n → ad' q = ad q) {v : Value} (hv : ae_cv n v) : ae_v ad' ro v = ae_v ad ro v := by
  cases v <;> simp_all [ae_v, ae_cv]
theorem ae_k_eq {n : Nat} {ad ad' ro : Nat → Nat} (h : ∀ q, q < n → ad' q = ad q) {k : List Value} (hv : ae_ck n k) : k.map (ae_v ad' ro) = k.map (ae_v ad ro) :=
  List.map_congr_left fun v hm => ae_v_eq h (hv v hm)
theorem ae_c_eq {n : Nat} {ad ad' ro : Nat → Nat} {dA : Nat → ClassId} (h : ∀ q, q < n → ad' q = ad q) {x : ae_C} (hx : ae_cc n x) : ae_c ad' ro dA x = ae_c ad ro dA x := by
  rcases x with ⟨t, k, f | f | f | f | f⟩ | ⟨ci, fs⟩
  · rfl
  · rfl
  · rfl
  · rfl
  · have : (fun i => (f i).map ad') = (fun i => (f i).map ad) := by
      funext i
      cases hf : f i with
      | none => rfl
      | some p => simp [h p (hx i p hf)]
    simp [ae_c, ae_a, this]
  · simp only [ae_c]
    rw [ae_k_eq h hx]
def ae_up (ad : Nat → Nat) (n a : Nat) : Nat → Nat := fun j => if j = n then a else ad j
theorem ae_up_lt {ad : Nat → Nat} {n a : Nat} : ∀ q, q < n → ae_up ad n a q = ad q := fun q h => by simp [ae_up, Nat.ne_of_lt h]
theorem ae_up_self {ad : Nat → Nat} {n a : Nat} : ae_up ad n a n = a := by simp [ae_up]
theorem ae_w_eq {ad ad' ro : Nat → Nat} {dA : Nat → ClassId} {σ : List ae_C} {n : Nat} (hn : σ.length ≤ n) (h : ∀ q, q < n → ad' q = ad q) (hc : ∀ x ∈ σ, ae_cc n x) : ae_w ad' ro dA σ = ae_w ad ro dA σ := by
  apply List.ext_getElem?
  intro i
  simp only [ae_w, List.getElem?_mapIdx]
  cases hi : σ[i]? with
  | none => rfl
  | some x =>
    have hl : i < σ.length := (List.getElem?_eq_some_iff.mp hi).1
    simp [h i (by omega), ae_c_eq h (hc x (List.mem_of_getElem? hi))]
theorem ae_w_push {ad ro : Nat → Nat} {dA : Nat → ClassId} {σ : List ae_C} (a : Nat) (x : ae_C) (hc : ∀ y ∈ σ, ae_cc σ.length y) (hx : ae_cc σ.length x) :
    ae_w (ae_up ad σ.length a) ro dA (σ ++ [x]) = ae_w ad ro dA σ ++ [(a, ae_c ad ro dA x)] := by
  have h1 : ae_w (ae_up ad σ.length a) ro dA (σ ++ [x]) = ae_w (ae_up ad σ.length a) ro dA σ ++ [(ae_up ad σ.length a σ.length, ae_c (ae_up ad σ.length a) ro dA x)] := by
    simp [ae_w, List.mapIdx_append]
  rw [h1, ae_up_self, ae_w_eq (Nat.le_refl _) ae_up_lt hc, ae_c_eq ae_up_lt hx]
/-- the locals -/
def ae_L (ad ro : Nat → Nat) (nL : Nat) (L : ae_Ls) (ls : Array Slot) : Prop := L.length = nL ∧ ls.size = nL ∧ lv_wf ls ∧ ∀ (i : Nat) (v : Value), L[i]? = some (some v) → ls[i]? = some (.val (ae_v ad ro v))
def ae_as (ad ro : Nat → Nat) (L : ae_Ls) : List (Nat × Value) := L.zipIdx.filterMap (fun q => q.1.map (fun v => (q.2, ae_v ad ro v)))
theorem ae_as_mem {ad ro : Nat → Nat} {L : ae_Ls} {i : Nat} {w : Value} : (i, w) ∈ ae_as ad ro L ↔ ∃ v, L[i]? = some (some v) ∧ w = ae_v ad ro v := by
  simp only [ae_as, List.mem_filterMap]
  constructor
  · rintro ⟨⟨o, j⟩, hm, he⟩
    rw [List.mem_zipIdx_iff_getElem?] at hm
    cases o with
    | none => simp at he
    | some v =>
      simp only [Option.map_some, Option.some.injEq, Prod.mk.injEq] at he
      obtain ⟨e1, e2⟩ := he
      subst e1
      exact ⟨v, hm, e2.symm⟩
  · rintro ⟨v, hv, rfl⟩
    exact ⟨(some v, i), by rw [List.mem_zipIdx_iff_getElem?]; exact hv, rfl⟩
theorem ae_L.has {ad ro : Nat → Nat} {nL : Nat} {L : ae_Ls} {ls : Array Slot} (h : ae_L ad ro nL L ls) : lv_has ls nL (ae_as ad ro L) := by
  refine ⟨h.2.1, h.2.2.1, fun q hq => ?_⟩
  obtain ⟨i, w⟩ := q
  obtain ⟨v, hv, rfl⟩ := ae_as_mem.mp hq
  exact h.2.2.2 i v hv
theorem ae_v_cat (ad ro : Nat → Nat) (v : Value) : (ae_v ad ro v).category = v.category := by cases v <;> rfl
theorem ae_L.put {ad ro : Nat → Nat} {nL n i : Nat} {L : ae_Ls} {ls ls' : Array Slot} {v : Value} (h : ae_L ad ro nL L ls) (hc : ae_cL n L)
    (h' : lv_has ls' nL ((i, ae_v ad ro v) :: (ae_as ad ro L).filter (fun q => !(q.1 == i) && !(q.1 + 1 == i && q.2.category == 2)))) : ae_L ad ro nL (L.set i (some v)) ls' := by
  refine ⟨by simp [h.1], h'.1, h'.2.1, fun j u hj => ?_⟩
  rw [List.getElem?_set] at hj
  by_cases hji : i = j
  · subst hji
    simp only [if_true] at hj
    split at hj
    · cases hj
      exact h'.2.2 (i, ae_v ad ro v) List.mem_cons_self
    · cases hj
  · rw [if_neg hji] at hj
    refine h'.2.2 (j, ae_v ad ro u) (List.mem_cons_of_mem _ (List.mem_filter.mpr ⟨ae_as_mem.mpr ⟨u, hj, rfl⟩, ?_⟩))
    have hcat : (ae_v ad ro u).category = 1 := by rw [ae_v_cat]; exact (hc j u hj).2
    simp [hcat]
    exact fun z => hji z.symm
theorem ae_L_up {n : Nat} {ad ad' ro : Nat → Nat} {nL : Nat} {L : ae_Ls} {ls : Array Slot} (h : ∀ q, q < n → ad' q = ad q) (hc : ae_cL n L) (hl : ae_L ad ro nL L ls) : ae_L ad' ro nL L ls :=
  ⟨hl.1, hl.2.1, hl.2.2.1, fun i v hv => by rw [ae_v_eq h (hc i v hv).1]; exact hl.2.2.2 i v hv⟩
/-- a static field that holds a reference or null, and what its words say -/
def ae_LS (C n d : String) (A : Nat → Prop) (U : State) (H : Heap) : Prop := ∃ (c : ClassId) (k : Class) (i : Nat) (f : Field) (a : Nat) (cell : Cell) (v : Value), U.vm.findClass C = some c ∧ U.fieldFound? C n d = some (c, k, i, f) ∧ k.staticTypes[f.slot]? = some f.type ∧ k.statics = some a ∧ f.isStatic = true ∧ H[a]? = some cell ∧ cell.vm.isStatics = true ∧ cell.cls = c ∧ f.slot < cell.slots.size ∧ cell.slots[f.slot]? = some v ∧ (v = .null ∨ ∃ t, v = .ref t) ∧ ¬ A a
theorem ae_LS.moved {C n d : String} {A : Nat → Prop} {u U : State} {H : Heap} (hvm : u.vm.Alike U.vm) (h : ae_LS C n d A u H) : ae_LS C n d A U H := by
  obtain ⟨c, k, i, f, a, cell, v, h0, h1, h2, h3, h4⟩ := h
  obtain ⟨k', hi', he⟩ := State.fieldFound?_setVm hvm h1
  exact ⟨c, k', i, f, a, cell, v, by rw [hvm.findClass]; exact h0, hi', by rw [he]; exact h2, by rw [he]; exact h3, h4⟩
theorem ae_LS.kept {C n d : String} {A : Nat → Prop} {U : State} {H H1 : Heap} (h : ae_LS C n d A U H) (hq : ∀ a : Nat, a < H.size → ¬ A a → H1[a]? = H[a]?) : ae_LS C n d A U H1 := by
  obtain ⟨c, k, i, f, a, cell, v, h0, h1, h2, h3, h4, h5, h6, h7, h8, h9, h10, h11⟩ := h
  exact ⟨c, k, i, f, a, cell, v, h0, h1, h2, h3, h4, by rw [hq a (Array.getElem?_eq_some_iff.mp h5).1 h11]; exact h5, h6, h7, h8, h9, h10, h11⟩
theorem ae_LS.narrow {C n d : String} {A A' : Nat → Prop} {U : State} {H : Heap} (h : ae_LS C n d A U H) (hAB : ∀ q, A' q → A q) : ae_LS C n d A' U H := by
  obtain ⟨c, k, i, f, a, cell, v, h0, h1, h2, h3, h4, h5, h6, h7, h8, h9, h10, h11⟩ := h
  exact ⟨c, k, i, f, a, cell, v, h0, h1, h2, h3, h4, h5, h6, h7, h8, h9, h10, fun z => h11 (hAB a z)⟩
theorem ae_LS.of {args : Array Value} {s : State} {C n d : String} {A : Nat → Prop} (hl : (Cond.laysStatic C n d).before args s = true) (h : (Cond.isRef (.static C n d)).before args s = true) (hA : ∀ a : Nat, a < s.heap.size → ¬ A a) : ae_LS C n d A s s.heap := by
  obtain ⟨c, k, i, f, a, cell, hc, hi, hst, ha, hcell, hs, hcls, hlt, hty⟩ := Cond.laysStatic_spec hl
  cases hv : (Term.static C n d).eval args s none [] s with
  | none => simp [Cond.before, Cond.holds, Cond.value, hv] at h
  | some w =>
    obtain ⟨hst', a', cell', ha', hcell', -, hslot⟩ := Term.static_spec hi hv
    cases ha.symm.trans ha'
    cases hcell.symm.trans hcell'
    simp only [Cond.before, Cond.holds, Cond.value, hv] at h
    refine ⟨c, k, i, f, a, cell, w, hc, hi, hty, ha, hst, hcell, hs, hcls, hlt, hslot, ?_, hA a (Array.getElem?_eq_some_iff.mp hcell).1⟩
    cases w with
    | null => exact Or.inl rfl
    | ref t => exact Or.inr ⟨t, rfl⟩
    | _ => simp at h
theorem ae_LS.words {C n d : String} {A : Nat → Prop} {U : State} (h : ae_LS C n d A U U.heap) (args : Array Value) : (Cond.laysStatic C n d).before args U = true ∧ (Cond.isRef (.static C n d)).before args U = true := by
  obtain ⟨c, k, i, f, a, cell, v, h0, h1, h2, h3, h4, h5, h6, h7, h8, h9, h10, h11⟩ := h
  refine ⟨by simp [Cond.before, Cond.holds, Cond.value, h0, h1, h3, h5, h4, h6, h7, h8, h2], ?_⟩
  have hv : (Term.static C n d).eval args U none [] U = some v := Term.static_eval h1 h4 h3 h5 h6 h9
  rcases h10 with h10 | ⟨t, h10⟩ <;> subst h10 <;> simp [Cond.before, Cond.holds, Cond.value, hv]
/-- the arrays that are only read: the script, and the static ones -/
def ae_RO (ra : ae_R) (ro : Nat → Nat) (A : Nat → Prop) (U : State) (H : Heap) : Prop :=
  (∀ k, k < 4 → va_T .int (ro k) (ra k).1 (fun j => .int ((ra k).2 j)) A U H) ∧ (∀ k, k < 4 → (ra k).1 < 2 ^ 31) ∧ va_Z "TwinNetwork" "LEAVES_SWITCH" "[I" (.ref (ro 1)) A U H ∧ va_Z "TwinNetwork" "ENDS_AT_SWITCH" "[I" (.ref (ro 2)) A U H ∧ va_Z "TwinNetwork" "CHECK_STEPS" "[I" (.ref (ro 3)) A U H ∧ ae_LS "java/lang/Throwable" "UNASSIGNED_STACK" "[Ljava/lang/StackTraceElement;" A U H ∧ ae_LS "java/lang/Throwable" "SUPPRESSED_SENTINEL" "Ljava/util/List;" A U H ∧ va_Nc "java/lang/IllegalStateException" "java/lang/IllegalArgumentException" U
theorem ae_RO.moved {ra : ae_R} {ro : Nat → Nat} {A : Nat → Prop} {u U : State} {H : Heap} (hvm : u.vm.Alike U.vm) (h : ae_RO ra ro A u H) : ae_RO ra ro A U H :=
  ⟨fun k hk => (h.1 k hk).moved hvm, h.2.1, h.2.2.1.moved hvm, h.2.2.2.1.moved hvm, h.2.2.2.2.1.moved hvm, h.2.2.2.2.2.1.moved hvm, h.2.2.2.2.2.2.1.moved hvm, h.2.2.2.2.2.2.2.moved hvm⟩
theorem ae_RO.narrow {ra : ae_R} {ro : Nat → Nat} {A A' : Nat → Prop} {U : State} {H : Heap} (h : ae_RO ra ro A U H) (hAB : ∀ q, A' q → A q) : ae_RO ra ro A' U H :=
  ⟨fun k hk => (h.1 k hk).narrow hAB, h.2.1, h.2.2.1.narrow hAB, h.2.2.2.1.narrow hAB, h.2.2.2.2.1.narrow hAB, h.2.2.2.2.2.1.narrow hAB, h.2.2.2.2.2.2.1.narrow hAB, h.2.2.2.2.2.2.2⟩
theorem ae_RO.kept {ra : ae_R} {ro : Nat → Nat} {A : Nat → Prop} {U : State} {H H1 : Heap} (h : ae_RO ra ro A U H) (hq : ∀ a : Nat, a < H.size → ¬ A a → H1[a]? = H[a]?) : ae_RO ra ro A U H1 :=
  ⟨fun k hk => (h.1 k hk).kept hq, h.2.1, h.2.2.1.kept hq, h.2.2.2.1.kept hq, h.2.2.2.2.1.kept hq, h.2.2.2.2.2.1.kept hq, h.2.2.2.2.2.2.1.kept hq, h.2.2.2.2.2.2.2⟩

/-- the machine at a point of a method, for every heap that holds the store -/
def ae_Go (p : Program) (l : Launch) (e : Env) (R : Room) (s : State) (m : MethodId) (args : Array Value) (below : List Frame) (meth : Method) (c : Code) (Q : State → Prop) (D : va_G) (dA : Nat → ClassId) (ro : Nat → Nat) (A : Nat → Prop) (nL : Nat) (B : Nat × Nat) (ad0 : Nat → Nat) (n0 : Nat) (σ : ae_S) (L : ae_Ls) (k : List Value) (pc : Nat) : Prop :=
  ∀ (ad : Nat → Nat) (H : Heap) (locs : List Loc) (cells slots : Nat) (ls : Array Slot), va_P D classes (ae_w ad ro dA σ.2) H → va_D A (ae_w ad ro dA σ.2) → va_S A s.heap H locs → B.1 + cells = σ.1.1 → B.2 + slots = σ.1.2 → ae_L ad ro nL L ls → (∀ q, q < n0 → ad q = ad0 q) →
    W p l e R s m args below meth c H locs cells slots Q (F0 m pc ls (k.map (ae_v ad ro)))

/-- what holds all through a method -/
def ae_X (p : Program) (l : Launch) (e : Env) (R : Room) (s : State) (m : MethodId) (args : Array Value) (below : List Frame) (meth : Method) (c : Code) (D : va_G) (dA : Nat → ClassId) (ro : Nat → Nat) (A : Nat → Prop) (B : Nat × Nat) (ra : Nat → Nat × (Nat → Int32)) (own nm : String) (cc : ByteArray) (nL : Nat) (ret : Option FieldType) (KF SF d : Nat) (hd : List (Nat × Nat × Nat × Nat)) : Prop :=
  p.tables.exec = Jvm.exec ∧ c.code = cc ∧ c.maxLocals = nL ∧ s.vm.findClass own = some m.cls ∧ (∀ w ∈ aw_all, w.before args s = true) ∧ meth.sig.returnType = ret ∧ meth.locks = false ∧ meth.name = nm ∧ va_K D classes (ae_ty dA) s ∧ ae_RO ra ro A s s.heap ∧ (∀ q, s.heap.size ≤ q → A q) ∧ d + 1 ≤ R.frames ∧ 40 * (d + 1) ≤ R.locals ∧ KF ≤ B.1 + R.cells ∧ SF ≤ B.2 + R.slots ∧ c.exceptionTable.toList = tableOf hd ∧ l.stackTraces = false

/-- an op does at pc what the machine does -/
def ae_Ok (p : Program) (l : Launch) (e : Env) (R : Room) (s : State) (m : MethodId) (args : Array Value) (below : List Frame) (meth : Method) (c : Code) (Q : State → Prop) (D : va_G) (dA : Nat → ClassId) (ro : Nat → Nat) (A : Nat → Prop) (nL : Nat) (B : Nat × Nat) (ad0 : Nat → Nat) (n0 : Nat) (ra : Nat → Nat × (Nat → Int32)) (KF SF pc : Nat) (f : ae_Op) : Prop :=
  ∀ (σ : ae_S) (L : ae_Ls) (k : List Value) (σ' : ae_S) (L' : ae_Ls) (k' : List Value) (pc' : Nat), f ra σ L k = some (σ', L', k', pc') → ae_cl σ L k → n0 ≤ σ.2.length → σ'.1.1 ≤ KF ∧ σ'.1.2 ≤ SF → ae_Go p l e R s m args below meth c Q D dA ro A nL B ad0 n0 σ' L' k' pc' → ae_Go p l e R s m args below meth c Q D dA ro A nL B ad0 n0 σ L k pc
/-- an op leaves the store closed, and takes nothing away -/
def ae_Pu (f : ae_Op) : Prop :=
  ∀ (ra : ae_R) (σ : ae_S) (L : ae_Ls) (k : List Value) (σ' : ae_S) (L' : ae_Ls) (k' : List Value) (pc' : Nat), f ra σ L k = some (σ', L', k', pc') → ae_cl σ L k → ae_cl σ' L' k' ∧ σ.1.1 ≤ σ'.1.1 ∧ σ.1.2 ≤ σ'.1.2 ∧ σ.2.length ≤ σ'.2.length

def o_push (v : Value) (np : Nat) : ae_Op := fun _ σ L k => some (σ, L, v :: k, np)
def o_bin (f : Int32 → Int32 → Int32) (np : Nat) : ae_Op := fun _ σ L k => match k with
  | .int y :: .int x :: r => some (σ, L, .int (f x y) :: r, np)
  | _ => none
def o_dv (f : Int32 → Int32 → Int32) (np : Nat) : ae_Op := fun _ σ L k => match k with
  | .int y :: .int x :: r => if y = 0 then none else some (σ, L, .int (f x y) :: r, np)
  | _ => none
def o_un (f : Int32 → Int32) (np : Nat) : ae_Op := fun _ σ L k => match k with
  | .int x :: r => some (σ, L, .int (f x) :: r, np)
  | _ => none
def o_i2l (np : Nat) : ae_Op := fun _ σ L k => match k with
  | .int x :: r => some (σ, L, .long x.toInt64 :: r, np)
  | _ => none
def o_lcmp (np : Nat) : ae_Op := fun _ σ L k => match k with
  | .long y :: .long x :: r => some (σ, L, .int (lg_cmp x y) :: r, np)
  | _ => none
def o_dup (np : Nat) : ae_Op := fun _ σ L k => match k with
  | v :: r => if v.category = 1 then some (σ, L, v :: v :: r, np) else none
  | _ => none
def o_dup2 (np : Nat) : ae_Op := fun _ σ L k => match k with
  | v :: u :: r => if v.category = 1 ∧ u.category = 1 then some (σ, L, v :: u :: v :: u :: r, np) else none
  | _ => none
def o_dupx1 (np : Nat) : ae_Op := fun _ σ L k => match k with
  | v :: u :: r => if v.category = 1 ∧ u.category = 1 then some (σ, L, v :: u :: v :: r, np) else none
  | _ => none
def o_pop (np : Nat) : ae_Op := fun _ σ L k => match k with
  | v :: r => if v.category = 1 then some (σ, L, r, np) else none
  | _ => none
def o_il (i : Nat) (np : Nat) : ae_Op := fun _ σ L k => match L[i]? with
  | some (some (.int x)) => some (σ, L, .int x :: k, np)
  | _ => none
def o_al (i : Nat) (np : Nat) : ae_Op := fun _ σ L k => match L[i]? with
  | some (some (.ref x)) => some (σ, L, .ref x :: k, np)
  | some (some .null) => some (σ, L, .null :: k, np)
  | some (some (.retAddr x)) => some (σ, L, .retAddr x :: k, np)
  | _ => none
def o_is (i : Nat) (np : Nat) : ae_Op := fun _ σ L k => match k with
  | .int x :: r => if i < L.length then some (σ, L.set i (some (.int x)), r, np) else none
  | _ => none
def o_as (i : Nat) (np : Nat) : ae_Op := fun _ σ L k => match k with
  | .ref x :: r => if i < L.length then some (σ, L.set i (some (.ref x)), r, np) else none
  | .null :: r => if i < L.length then some (σ, L.set i (some .null), r, np) else none
  | .retAddr x :: r => if i < L.length then some (σ, L.set i (some (.retAddr x)), r, np) else none
  | _ => none
def o_inc (i : Nat) (n : Int32) (np : Nat) : ae_Op := fun _ σ L k => match L[i]? with
  | some (some (.int x)) => some (σ, L.set i (some (.int (x + n))), k, np)
  | _ => none
def o_if (t : Int32 → Bool) (tg np : Nat) : ae_Op := fun _ σ L k => match k with
  | .int x :: r => some (σ, L, r, if t x then tg else np)
  | _ => none
def o_ic (t : Int32 → Int32 → Bool) (tg np : Nat) : ae_Op := fun _ σ L k => match k with
  | .int y :: .int x :: r => some (σ, L, r, if t x y then tg else np)
  | _ => none
def o_nul (tg np : Nat) : ae_Op := fun _ σ L k => match k with
  | .null :: r => some (σ, L, r, tg)
  | .ref _ :: r => some (σ, L, r, np)
  | _ => none
def o_goto (tg : Nat) : ae_Op := fun _ σ L k => some (σ, L, k, tg)
def o_sw (lo hi : Int) (tgs : List Nat) (df : Nat) : ae_Op := fun _ σ L k => match k with
  | .int x :: r => some (σ, L, r, if x.toInt < lo ∨ hi < x.toInt then df else tgs.getD (x.toInt - lo).toNat 0)
  | _ => none

def o_get (ci kk : Nat) (np : Nat) : ae_Op := fun _ σ L k => match k with
  | .ref p :: r => match σ.2[p]? with
    | some (.inr (cj, fs)) => if cj = ci then (match fs[kk]? with
      | some v => some (σ, L, v :: r, np)
      | none => none) else none
    | _ => none
  | _ => none
def o_put (ci kk : Nat) (ok : Value → Bool) (np : Nat) : ae_Op := fun _ σ L k => match k with
  | v :: .ref p :: r => match σ.2[p]? with
    | some (.inr (cj, fs)) => if cj = ci ∧ ok v = true ∧ kk < fs.length then some ((σ.1, σ.2.set p (.inr (cj, fs.set kk v))), L, r, np) else none
    | _ => none
  | _ => none
def k_int : Value → Bool
  | .int _ => true
  | _ => false
def k_bool : Value → Bool
  | .int x => x == 0 || x == 1
  | _ => false
def k_ref : Value → Bool
  | .ref _ => true
  | .null => true
  | _ => false
def o_ia (np : Nat) : ae_Op := fun ra σ L k => match k with
  | .int i :: .ref p :: r => match σ.2[p]? with
    | some (.inl (t, n, .inl f)) => if t = 0 ∧ ¬ (i < 0 ∨ n ≤ i.toNatClampNeg) then some (σ, L, .int (f i.toNatClampNeg) :: r, np) else none
    | _ => none
  | .int i :: .retAddr q :: r => if q < 4 ∧ ¬ (i < 0 ∨ (ra q).1 ≤ i.toNatClampNeg) then some (σ, L, .int ((ra q).2 i.toNatClampNeg) :: r, np) else none
  | _ => none
def o_ba (np : Nat) : ae_Op := fun _ σ L k => match k with
  | .int i :: .ref p :: r => match σ.2[p]? with
    | some (.inl (t, n, .inl f)) => if (t = 1 ∨ t = 2) ∧ ¬ (i < 0 ∨ n ≤ i.toNatClampNeg) then some (σ, L, .int (f i.toNatClampNeg) :: r, np) else none
    | _ => none
  | _ => none
def o_la (np : Nat) : ae_Op := fun _ σ L k => match k with
  | .int i :: .ref p :: r => match σ.2[p]? with
    | some (.inl (t, n, .inr (.inl f))) => if t = 3 ∧ ¬ (i < 0 ∨ n ≤ i.toNatClampNeg) then some (σ, L, .long (f i.toNatClampNeg) :: r, np) else none
    | _ => none
  | _ => none
def o_aa (np : Nat) : ae_Op := fun _ σ L k => match k with
  | .int i :: .ref p :: r => match σ.2[p]? with
    | some (.inl (t, n, .inr (.inr (.inr (.inr f))))) => if (4 ≤ t ∧ t < 10) ∧ ¬ (i < 0 ∨ n ≤ i.toNatClampNeg) then some (σ, L, va_rf (f i.toNatClampNeg) :: r, np) else none
    | _ => none
  | _ => none
def o_ias (np : Nat) : ae_Op := fun _ σ L k => match k with
  | .int x :: .int i :: .ref p :: r => match σ.2[p]? with
    | some (.inl (t, n, .inl f)) => if t = 0 ∧ ¬ (i < 0 ∨ n ≤ i.toNatClampNeg) then some ((σ.1, σ.2.set p (.inl (t, n, .inl (upd f i.toNatClampNeg x)))), L, r, np) else none
    | _ => none
  | _ => none
def o_bas (np : Nat) : ae_Op := fun _ σ L k => match k with
  | .int x :: .int i :: .ref p :: r => match σ.2[p]? with
    | some (.inl (t, n, .inl f)) => if ¬ (i < 0 ∨ n ≤ i.toNatClampNeg) then (if t = 1 then some ((σ.1, σ.2.set p (.inl (t, n, .inl (upd f i.toNatClampNeg (vp_nar .byte x))))), L, r, np) else if t = 2 then some ((σ.1, σ.2.set p (.inl (t, n, .inl (upd f i.toNatClampNeg (vp_nar .boolean x))))), L, r, np) else none) else none
    | _ => none
  | _ => none
def o_las (np : Nat) : ae_Op := fun _ σ L k => match k with
  | .long x :: .int i :: .ref p :: r => match σ.2[p]? with
    | some (.inl (t, n, .inr (.inl f))) => if t = 3 ∧ ¬ (i < 0 ∨ n ≤ i.toNatClampNeg) then some ((σ.1, σ.2.set p (.inl (t, n, .inr (.inl (vp_updL f i.toNatClampNeg x))))), L, r, np) else none
    | _ => none
  | _ => none
/-- the class of an array's elements -/
def ae_ec (t : Nat) : Nat := (aw_ec.getD (t - 4) 99)
def o_aas (np : Nat) : ae_Op := fun _ σ L k => match k with
  | .ref q :: .int i :: .ref p :: r => match σ.2[p]?, σ.2[q]? with
    | some (.inl (t, n, .inr (.inr (.inr (.inr f))))), some (.inr (ci, _)) => if (4 ≤ t ∧ t < 10 ∧ ci = ae_ec t) ∧ ¬ (i < 0 ∨ n ≤ i.toNatClampNeg) then some ((σ.1, σ.2.set p (.inl (t, n, .inr (.inr (.inr (.inr (va_up f i.toNatClampNeg (some q)))))))), L, r, np) else none
    | _, _ => none
  | .null :: .int i :: .ref p :: r => match σ.2[p]? with
    | some (.inl (t, n, .inr (.inr (.inr (.inr f))))) => if (4 ≤ t ∧ t < 10) ∧ ¬ (i < 0 ∨ n ≤ i.toNatClampNeg) then some ((σ.1, σ.2.set p (.inl (t, n, .inr (.inr (.inr (.inr (va_up f i.toNatClampNeg none))))))), L, r, np) else none
    | _ => none
  | _ => none
def o_len (np : Nat) : ae_Op := fun ra σ L k => match k with
  | .ref p :: r => match σ.2[p]? with
    | some (.inl (t, n, _)) => if t < 10 then some (σ, L, .int (Int32.ofNat n) :: r, np) else none
    | _ => none
  | .retAddr q :: r => if q < 4 then some (σ, L, .int (Int32.ofNat (ra q).1) :: r, np) else none
  | _ => none
def o_new (ci N : Nat) (fs : List Value) (np : Nat) : ae_Op := fun _ σ L k => some (((σ.1.1 + 1, σ.1.2 + N), σ.2 ++ [.inr (ci, fs)]), L, .ref σ.2.length :: k, np)
def ae_zero (t : Nat) (n : Nat) : vp_A := (n, if t = 3 then .inr (.inl (fun _ => 0)) else .inl (fun _ => 0))
def o_na (t : Nat) (np : Nat) : ae_Op := fun _ σ L k => match k with
  | .int i :: r => if ¬ i < 0 ∧ i.toNatClampNeg * 8 ≤ 536870912 then some (((σ.1.1 + 1, σ.1.2 + i.toNatClampNeg), σ.2 ++ [.inl (t, ae_zero t i.toNatClampNeg)]), L, .ref σ.2.length :: r, np) else none
  | _ => none
def o_nq (t : Nat) (np : Nat) : ae_Op := fun _ σ L k => match k with
  | .int i :: r => if ¬ i < 0 ∧ i.toNatClampNeg * 8 ≤ 536870912 then some (((σ.1.1 + 1, σ.1.2 + i.toNatClampNeg), σ.2 ++ [.inl (t, i.toNatClampNeg, .inr (.inr (.inr (.inr (fun _ => none)))))]), L, .ref σ.2.length :: r, np) else none
  | _ => none
def ae_cat (k : List Value) : Nat := (k.map fun v => v.category).sum
def o_oi (np : Nat) : ae_Op := fun _ σ L k => match k with
  | .ref _ :: r => if ae_cat r ≤ 8 then some (σ, L, r, np) else none
  | _ => none
def o_mn (np : Nat) : ae_Op := fun _ σ L k => match k with
  | .int y :: .int x :: r => if ae_cat r ≤ 8 then some (σ, L, .int (if y < x then y else x) :: r, np) else none
  | _ => none
def o_mx (np : Nat) : ae_Op := fun _ σ L k => match k with
  | .int y :: .int x :: r => if ae_cat r ≤ 8 then some (σ, L, .int (if x < y then y else x) :: r, np) else none
  | _ => none
def o_cp (np : Nat) : ae_Op := fun _ σ L k => match k with
  | .int n :: .int dp :: .ref p :: .int sp :: .ref q :: r => match σ.2[q]?, σ.2[p]? with
    | some (.inl (t0, n0, .inl f)), some (.inl (t1, n1, .inl g)) => if (t0 = 1 ∧ t1 = 1 ∧ ae_cat r ≤ 8) ∧ (¬ sp < 0 ∧ ¬ dp < 0 ∧ ¬ n < 0) ∧ sp.toNatClampNeg + n.toNatClampNeg ≤ n0 ∧ dp.toNatClampNeg + n.toNatClampNeg ≤ n1 ∧ (∀ i, i < n.toNatClampNeg → fits .byte (.int (f (sp.toNatClampNeg + i))) = true) then some ((σ.1, σ.2.set p (.inl (t1, n1, .inl (va_cpy f g sp.toNatClampNeg dp.toNatClampNeg n.toNatClampNeg)))), L, r, np) else none
    | _, _ => none
  | _ => none

end AE
section AEP
theorem ck_c {n : Nat} {v : Value} {k : List Value} (hv : ae_cv n v) (hk : ae_ck n k) : ae_ck n (v :: k) := fun u hu => (List.mem_cons.mp hu).elim (fun z => z ▸ hv) (hk u)
theorem ck_t {n : Nat} {v : Value} {k : List Value} (h : ae_ck n (v :: k)) : ae_ck n k := fun u hu => h u (List.mem_cons_of_mem _ hu)
theorem ck_h {n : Nat} {v : Value} {k : List Value} (h : ae_ck n (v :: k)) : ae_cv n v := h v List.mem_cons_self
theorem cL_set {n i : Nat} {L : ae_Ls} {v : Value} (h : ae_cL n L) (hv : ae_cv n v) (hc : v.category = 1) : ae_cL n (L.set i (some v)) := by
  intro j u hj
  rw [List.getElem?_set] at hj
  by_cases hji : i = j
  · subst hji
    simp only [if_true] at hj
    split at hj
    · cases hj
      exact ⟨hv, hc⟩
    · cases hj
  · rw [if_neg hji] at hj
    exact h j u hj
theorem cL_none {n i : Nat} {L : ae_Ls} (h : ae_cL n L) : ae_cL n (L.set i none) := by
  intro j u hj
  rw [List.getElem?_set] at hj
  by_cases hji : i = j
  · subst hji
    simp only [if_true] at hj
    split at hj <;> cases hj
  · rw [if_neg hji] at hj
    exact h j u hj
theorem cs_set {σ : ae_S} {q : Nat} {x : ae_C} (h : ae_cs σ) (hx : ae_cc σ.2.length x) : ae_cs (σ.1, σ.2.set q x) := by
  intro y hy
  simp only [List.length_set]
  rcases List.mem_or_eq_of_mem_set hy with h1 | h1
  · exact h y h1
  · exact h1 ▸ hx
theorem cs_push {σ : ae_S} {a b : Nat} {x : ae_C} (h : ae_cs σ) (hx : ae_cc σ.2.length x) : ae_cs ((a, b), σ.2 ++ [x]) := by
  intro y hy
  simp only [List.length_append, List.length_singleton]
  rcases List.mem_append.mp hy with h1 | h1
  · exact ae_cc_mono (Nat.le_succ _) (h y h1)
  · rw [List.mem_singleton.mp h1]
    exact ae_cc_mono (Nat.le_succ _) hx
theorem pu_st {σ : ae_S} {L : ae_Ls} {k k' : List Value} (hcl : ae_cl σ L k) (h : ae_ck σ.2.length k → ae_ck σ.2.length k') : ae_cl σ L k' ∧ σ.1.1 ≤ σ.1.1 ∧ σ.1.2 ≤ σ.1.2 ∧ σ.2.length ≤ σ.2.length :=
  ⟨⟨hcl.1, hcl.2.1, h hcl.2.2⟩, Nat.le_refl _, Nat.le_refl _, Nat.le_refl _⟩
theorem pu_se {σ : ae_S} {L : ae_Ls} {k k' : List Value} {q : Nat} {x : ae_C} (hcl : ae_cl σ L k) (hx : ae_cc σ.2.length x) (h : ae_ck σ.2.length k → ae_ck σ.2.length k') : ae_cl (σ.1, σ.2.set q x) L k' ∧ σ.1.1 ≤ σ.1.1 ∧ σ.1.2 ≤ σ.1.2 ∧ σ.2.length ≤ (σ.2.set q x).length :=
  ⟨⟨cs_set hcl.1 hx, by simpa using hcl.2.1, by simpa using h hcl.2.2⟩, Nat.le_refl _, Nat.le_refl _, by simp⟩
theorem pu_pu {σ : ae_S} {L : ae_Ls} {k k' : List Value} {N : Nat} {x : ae_C} (hcl : ae_cl σ L k) (hx : ae_cc σ.2.length x) (h : ae_ck σ.2.length k → ae_ck σ.2.length k') : ae_cl ((σ.1.1 + 1, σ.1.2 + N), σ.2 ++ [x]) L (.ref σ.2.length :: k') ∧ σ.1.1 ≤ σ.1.1 + 1 ∧ σ.1.2 ≤ σ.1.2 + N ∧ σ.2.length ≤ (σ.2 ++ [x]).length :=
  ⟨⟨cs_push hcl.1 hx, by simpa using ae_cL_mono (Nat.le_succ _) hcl.2.1, by simpa using ck_c (show ae_cv (σ.2.length + 1) (.ref σ.2.length) from Nat.lt_succ_self _) (ae_ck_mono (Nat.le_succ _) (h hcl.2.2))⟩, by omega, by omega, by simp⟩

theorem pu_push {v : Value} {np : Nat} (hv : ∀ n, ae_cv n v) : ae_Pu (o_push v np) := by
  intro ra σ L k σ' L' k' pc' h hcl
  simp only [o_push] at h
  cases h
  exact pu_st hcl (fun hk => ck_c (hv _) hk)
theorem pu_bin {f : Int32 → Int32 → Int32} {np : Nat} : ae_Pu (o_bin f np) := by
  intro ra σ L k σ' L' k' pc' h hcl
  simp only [o_bin] at h
  repeat' split at h
  all_goals first | (cases h; done) | (cases h; exact pu_st hcl (fun hk => ck_c trivial (ck_t (ck_t hk))))
theorem pu_dv {f : Int32 → Int32 → Int32} {np : Nat} : ae_Pu (o_dv f np) := by
  intro ra σ L k σ' L' k' pc' h hcl
  simp only [o_dv] at h
  repeat' split at h
  all_goals first | (cases h; done) | (cases h; exact pu_st hcl (fun hk => ck_c trivial (ck_t (ck_t hk))))
theorem pu_un {f : Int32 → Int32} {np : Nat} : ae_Pu (o_un f np) := by
  intro ra σ L k σ' L' k' pc' h hcl
  simp only [o_un] at h
  repeat' split at h
  all_goals first | (cases h; done) | (cases h; exact pu_st hcl (fun hk => ck_c trivial (ck_t hk)))
theorem pu_i2l {np : Nat} : ae_Pu (o_i2l np) := by
  intro ra σ L k σ' L' k' pc' h hcl
  simp only [o_i2l] at h
  repeat' split at h
  all_goals first | (cases h; done) | (cases h; exact pu_st hcl (fun hk => ck_c trivial (ck_t hk)))
theorem pu_lcmp {np : Nat} : ae_Pu (o_lcmp np) := by
  intro ra σ L k σ' L' k' pc' h hcl
  simp only [o_lcmp] at h
  repeat' split at h
  all_goals first | (cases h; done) | (cases h; exact pu_st hcl (fun hk => ck_c trivial (ck_t (ck_t hk))))
theorem pu_dup {np : Nat} : ae_Pu (o_dup np) := by
  intro ra σ L k σ' L' k' pc' h hcl
  simp only [o_dup] at h
  repeat' split at h
  all_goals first | (cases h; done) | (cases h; exact pu_st hcl (fun hk => ck_c (ck_h hk) hk))
theorem pu_dup2 {np : Nat} : ae_Pu (o_dup2 np) := by
  intro ra σ L k σ' L' k' pc' h hcl
  simp only [o_dup2] at h
  repeat' split at h
  all_goals first | (cases h; done) | (cases h; exact pu_st hcl (fun hk => ck_c (ck_h hk) (ck_c (ck_h (ck_t hk)) hk)))
theorem pu_dupx1 {np : Nat} : ae_Pu (o_dupx1 np) := by
  intro ra σ L k σ' L' k' pc' h hcl
  simp only [o_dupx1] at h
  repeat' split at h
  all_goals first | (cases h; done) | (cases h; exact pu_st hcl (fun hk => ck_c (ck_h hk) (ck_c (ck_h (ck_t hk)) (ck_c (ck_h hk) (ck_t (ck_t hk))))))
theorem pu_pop {np : Nat} : ae_Pu (o_pop np) := by
  intro ra σ L k σ' L' k' pc' h hcl
  simp only [o_pop] at h
  repeat' split at h
  all_goals first | (cases h; done) | (cases h; exact pu_st hcl (fun hk => ck_t hk))
theorem pu_il {i np : Nat} : ae_Pu (o_il i np) := by
  intro ra σ L k σ' L' k' pc' h hcl
  simp only [o_il] at h
  repeat' split at h
  all_goals first | (cases h; done) | (cases h; exact pu_st hcl (fun hk => ck_c trivial hk))
theorem pu_al {i np : Nat} : ae_Pu (o_al i np) := by
  intro ra σ L k σ' L' k' pc' h hcl
  simp only [o_al] at h
  repeat' split at h
  all_goals first | (cases h; done) | (cases h; exact pu_st hcl (fun hk => ck_c (hcl.2.1 _ _ (by assumption)).1 hk))
theorem pu_is {i np : Nat} : ae_Pu (o_is i np) := by
  intro ra σ L k σ' L' k' pc' h hcl
  simp only [o_is] at h
  repeat' split at h
  all_goals first | (cases h; done) | (cases h; exact ⟨⟨hcl.1, cL_set hcl.2.1 trivial rfl, ck_t hcl.2.2⟩, Nat.le_refl _, Nat.le_refl _, Nat.le_refl _⟩)
theorem pu_as {i np : Nat} : ae_Pu (o_as i np) := by
  intro ra σ L k σ' L' k' pc' h hcl
  simp only [o_as] at h
  repeat' split at h
  all_goals first | (cases h; done) | (cases h; exact ⟨⟨hcl.1, cL_set hcl.2.1 (ck_h hcl.2.2) rfl, ck_t hcl.2.2⟩, Nat.le_refl _, Nat.le_refl _, Nat.le_refl _⟩)
theorem pu_inc {i : Nat} {n : Int32} {np : Nat} : ae_Pu (o_inc i n np) := by
  intro ra σ L k σ' L' k' pc' h hcl
  simp only [o_inc] at h
  repeat' split at h
  all_goals first | (cases h; done) | (cases h; exact ⟨⟨hcl.1, cL_set hcl.2.1 trivial rfl, hcl.2.2⟩, Nat.le_refl _, Nat.le_refl _, Nat.le_refl _⟩)
theorem pu_if {t : Int32 → Bool} {tg np : Nat} : ae_Pu (o_if t tg np) := by
  intro ra σ L k σ' L' k' pc' h hcl
  simp only [o_if] at h
  split at h
  all_goals first | (cases h; done) | (cases h; exact pu_st hcl (fun hk => ck_t hk))
theorem pu_ic {t : Int32 → Int32 → Bool} {tg np : Nat} : ae_Pu (o_ic t tg np) := by
  intro ra σ L k σ' L' k' pc' h hcl
  simp only [o_ic] at h
  split at h
  all_goals first | (cases h; done) | (cases h; exact pu_st hcl (fun hk => ck_t (ck_t hk)))
theorem pu_sw {lo hi : Int} {tgs : List Nat} {df : Nat} : ae_Pu (o_sw lo hi tgs df) := by
  intro ra σ L k σ' L' k' pc' h hcl
  simp only [o_sw] at h
  split at h
  all_goals first | (cases h; done) | (cases h; exact pu_st hcl (fun hk => ck_t hk))
theorem pu_nul {tg np : Nat} : ae_Pu (o_nul tg np) := by
  intro ra σ L k σ' L' k' pc' h hcl
  simp only [o_nul] at h
  repeat' split at h
  all_goals first | (cases h; done) | (cases h; exact pu_st hcl (fun hk => ck_t hk))
theorem pu_goto {tg : Nat} : ae_Pu (o_goto tg) := by
  intro ra σ L k σ' L' k' pc' h hcl
  simp only [o_goto] at h
  cases h
  exact pu_st hcl (fun hk => hk)
theorem cs_o {σ : ae_S} {p cj : Nat} {fs : List Value} (h : ae_cs σ) (hp : σ.2[p]? = some (.inr (cj, fs))) : ∀ v ∈ fs, ae_cv σ.2.length v := h _ (List.mem_of_getElem? hp)
theorem cs_q {σ : ae_S} {p t n : Nat} {f : Nat → Option Nat} (h : ae_cs σ) (hp : σ.2[p]? = some (.inl (t, n, .inr (.inr (.inr (.inr f)))))) : ∀ i p, f i = some p → p < σ.2.length := h _ (List.mem_of_getElem? hp)
theorem pu_get {ci kk np : Nat} : ae_Pu (o_get ci kk np) := by
  intro ra σ L k σ' L' k' pc' h hcl
  simp only [o_get] at h
  repeat' split at h
  all_goals first | (cases h; done) | (cases h; exact pu_st hcl (fun hk => ck_c (cs_o hcl.1 (by assumption) _ (List.mem_of_getElem? (by assumption))) (ck_t hk)))
theorem ck_fs {n i : Nat} {fs : List Value} {v : Value} (h : ∀ u ∈ fs, ae_cv n u) (hv : ae_cv n v) : ∀ u ∈ fs.set i v, ae_cv n u := fun u hu => by
  rcases List.mem_or_eq_of_mem_set hu with h1 | h1
  · exact h u h1
  · exact h1 ▸ hv
theorem pu_put {ci kk : Nat} {ok : Value → Bool} {np : Nat} : ae_Pu (o_put ci kk ok np) := by
  intro ra σ L k σ' L' k' pc' h hcl
  simp only [o_put] at h
  repeat' split at h
  all_goals first | (cases h; done) | (cases h; exact pu_se hcl (ck_fs (cs_o hcl.1 (by assumption)) (ck_h hcl.2.2)) (fun hk => ck_t (ck_t hk)))
theorem pu_ia {np : Nat} : ae_Pu (o_ia np) := by
  intro ra σ L k σ' L' k' pc' h hcl
  simp only [o_ia] at h
  repeat' split at h
  all_goals first | (cases h; done) | (cases h; exact pu_st hcl (fun hk => ck_c trivial (ck_t (ck_t hk))))
theorem pu_ba {np : Nat} : ae_Pu (o_ba np) := by
  intro ra σ L k σ' L' k' pc' h hcl
  simp only [o_ba] at h
  repeat' split at h
  all_goals first | (cases h; done) | (cases h; exact pu_st hcl (fun hk => ck_c trivial (ck_t (ck_t hk))))
theorem pu_la {np : Nat} : ae_Pu (o_la np) := by
  intro ra σ L k σ' L' k' pc' h hcl
  simp only [o_la] at h
  repeat' split at h
  all_goals first | (cases h; done) | (cases h; exact pu_st hcl (fun hk => ck_c trivial (ck_t (ck_t hk))))
theorem ck_rf {n : Nat} {f : Nat → Option Nat} (h : ∀ i p, f i = some p → p < n) (i : Nat) : ae_cv n (va_rf (f i)) := by
  cases hf : f i with
  | none => trivial
  | some p => exact h i p hf
theorem ck_up {n q : Nat} {f : Nat → Option Nat} {j : Nat} {o : Option Nat} (h : ∀ i p, f i = some p → p < n) (ho : ∀ q, o = some q → q < n) : ∀ i p, va_up f j o i = some p → p < n := by
  intro i p hp
  unfold va_up at hp
  split at hp
  · exact ho p hp
  · exact h i p hp
theorem pu_aa {np : Nat} : ae_Pu (o_aa np) := by
  intro ra σ L k σ' L' k' pc' h hcl
  simp only [o_aa] at h
  repeat' split at h
  all_goals first | (cases h; done) | (cases h; exact pu_st hcl (fun hk => ck_c (ck_rf (cs_q hcl.1 (by assumption)) _) (ck_t (ck_t hk))))
theorem pu_ias {np : Nat} : ae_Pu (o_ias np) := by
  intro ra σ L k σ' L' k' pc' h hcl
  simp only [o_ias] at h
  repeat' split at h
  all_goals first | (cases h; done) | (cases h; exact pu_se hcl (trivial) (fun hk => ck_t (ck_t (ck_t hk))))
theorem pu_bas {np : Nat} : ae_Pu (o_bas np) := by
  intro ra σ L k σ' L' k' pc' h hcl
  simp only [o_bas] at h
  repeat' split at h
  all_goals first | (cases h; done) | (cases h; exact pu_se hcl (trivial) (fun hk => ck_t (ck_t (ck_t hk))))
theorem pu_las {np : Nat} : ae_Pu (o_las np) := by
  intro ra σ L k σ' L' k' pc' h hcl
  simp only [o_las] at h
  repeat' split at h
  all_goals first | (cases h; done) | (cases h; exact pu_se hcl (trivial) (fun hk => ck_t (ck_t (ck_t hk))))
theorem pu_aas {np : Nat} : ae_Pu (o_aas np) := by
  intro ra σ L k σ' L' k' pc' h hcl
  simp only [o_aas] at h
  repeat' split at h
  all_goals first | (cases h; done) | (cases h; exact pu_se hcl (ck_up (q := 0) (cs_q hcl.1 (by assumption)) (fun q hq => by first | (cases hq; done) | (cases hq; exact ck_h hcl.2.2))) (fun hk => ck_t (ck_t (ck_t hk))))
theorem pu_len {np : Nat} : ae_Pu (o_len np) := by
  intro ra σ L k σ' L' k' pc' h hcl
  simp only [o_len] at h
  repeat' split at h
  all_goals first | (cases h; done) | (cases h; exact pu_st hcl (fun hk => ck_c trivial (ck_t hk)))
theorem pu_new {ci N : Nat} {fs : List Value} {np : Nat} (hf : ∀ n, ∀ v ∈ fs, ae_cv n v) : ae_Pu (o_new ci N fs np) := by
  intro ra σ L k σ' L' k' pc' h hcl
  simp only [o_new] at h
  cases h
  exact pu_pu hcl (hf _) (fun hk => hk)
theorem cc_zero (t n m : Nat) : ae_cc m (.inl (t, ae_zero t n)) := by
  unfold ae_zero
  split <;> trivial
theorem pu_na {t np : Nat} : ae_Pu (o_na t np) := by
  intro ra σ L k σ' L' k' pc' h hcl
  simp only [o_na] at h
  repeat' split at h
  all_goals first | (cases h; done) | (cases h; exact pu_pu hcl (cc_zero _ _ _) (fun hk => ck_t hk))
theorem pu_nq {t np : Nat} : ae_Pu (o_nq t np) := by
  intro ra σ L k σ' L' k' pc' h hcl
  simp only [o_nq] at h
  repeat' split at h
  all_goals first | (cases h; done) | (cases h; exact pu_pu hcl (fun i p hp => by cases hp) (fun hk => ck_t hk))
theorem pu_oi {np : Nat} : ae_Pu (o_oi np) := by
  intro ra σ L k σ' L' k' pc' h hcl
  simp only [o_oi] at h
  repeat' split at h
  all_goals first | (cases h; done) | (cases h; exact pu_st hcl (fun hk => ck_t hk))
theorem pu_mn {np : Nat} : ae_Pu (o_mn np) := by
  intro ra σ L k σ' L' k' pc' h hcl
  simp only [o_mn] at h
  split at h
  · split at h
    · cases h
      exact pu_st hcl (fun hk => ck_c trivial (ck_t (ck_t hk)))
    · cases h
  · cases h
theorem pu_mx {np : Nat} : ae_Pu (o_mx np) := by
  intro ra σ L k σ' L' k' pc' h hcl
  simp only [o_mx] at h
  split at h
  · split at h
    · cases h
      exact pu_st hcl (fun hk => ck_c trivial (ck_t (ck_t hk)))
    · cases h
  · cases h
theorem pu_cp {np : Nat} : ae_Pu (o_cp np) := by
  intro ra σ L k σ' L' k' pc' h hcl
  simp only [o_cp] at h
  repeat' split at h
  all_goals first | (cases h; done) | (cases h; exact pu_se hcl (trivial) (fun hk => ck_t (ck_t (ck_t (ck_t (ck_t hk))))))
end AEP
section AEM
variable {p : Program} {l : Launch} {e : Env} {R : Room} {s : State} {m : MethodId} {args : Array Value} {below : List Frame} {meth : Method} {c : Code} {Q : State → Prop}
variable {D : va_G} {dA : Nat → ClassId} {ro : Nat → Nat} {A : Nat → Prop} {nL : Nat} {B : Nat × Nat} {ad0 : Nat → Nat} {n0 : Nat}
variable {ra : Nat → Nat × (Nat → Int32)} {own nm : String} {cc : ByteArray} {ret : Option FieldType} {KF SF d : Nat} {pc : Nat} {hd : List (Nat × Nat × Nat × Nat)}
theorem ok_iconst (X : ae_X p l e R s m args below meth c D dA ro A B ra own nm cc nL ret KF SF d hd) {n : Int} {v : Int32} (hv : Int32.ofInt n = v) (hdg : decode cc pc = .ok (.iconst n, 1)) : ae_Ok p l e R s m args below meth c Q D dA ro A nL B ad0 n0 ra KF SF pc (o_push (.int v) (pc + 1)) := by
  obtain ⟨hx, hb, hml, hown, hts, hr, hlk, hnm, hK, hRO, hA, hfr, hlo, hKF, hSF, hxt, hst⟩ := X
  intro σ L k σ' L' k' pc' h hcl hn0 hF G ad H locs cells slots ls hP hD hS hc hs hl had
  simp only [o_push] at h
  cases h
  exact lv_iconst hx hb hdg hv (G ad H locs cells slots ls hP hD hS hc hs hl had)
theorem ok_bipush (X : ae_X p l e R s m args below meth c D dA ro A B ra own nm cc nL ret KF SF d hd) {n : Int} {v : Int32} (hv : (Int8.ofInt n).toInt32 = v) (hdg : decode cc pc = .ok (.bipush n, 2)) : ae_Ok p l e R s m args below meth c Q D dA ro A nL B ad0 n0 ra KF SF pc (o_push (.int v) (pc + 2)) := by
  obtain ⟨hx, hb, hml, hown, hts, hr, hlk, hnm, hK, hRO, hA, hfr, hlo, hKF, hSF, hxt, hst⟩ := X
  intro σ L k σ' L' k' pc' h hcl hn0 hF G ad H locs cells slots ls hP hD hS hc hs hl had
  simp only [o_push] at h
  cases h
  exact lv_bipush hx hb hdg hv (G ad H locs cells slots ls hP hD hS hc hs hl had)
theorem ok_sipush (X : ae_X p l e R s m args below meth c D dA ro A B ra own nm cc nL ret KF SF d hd) {n : Int} {v : Int32} (hv : (Int16.ofInt n).toInt32 = v) (hdg : decode cc pc = .ok (.sipush n, 3)) : ae_Ok p l e R s m args below meth c Q D dA ro A nL B ad0 n0 ra KF SF pc (o_push (.int v) (pc + 3)) := by
  obtain ⟨hx, hb, hml, hown, hts, hr, hlk, hnm, hK, hRO, hA, hfr, hlo, hKF, hSF, hxt, hst⟩ := X
  intro σ L k σ' L' k' pc' h hcl hn0 hF G ad H locs cells slots ls hP hD hS hc hs hl had
  simp only [o_push] at h
  cases h
  exact lv_sipush hx hb hdg hv (G ad H locs cells slots ls hP hD hS hc hs hl had)
theorem ok_ldc (X : ae_X p l e R s m args below meth c D dA ro A B ra own nm cc nL ret KF SF d hd) {index : Nat} {v : Int32} (hw : Jvm.Cond.constant own index v ∈ aw_all) (hdg : decode cc pc = .ok (.ldc index, 2)) : ae_Ok p l e R s m args below meth c Q D dA ro A nL B ad0 n0 ra KF SF pc (o_push (.int v) (pc + 2)) := by
  obtain ⟨hx, hb, hml, hown, hts, hr, hlk, hnm, hK, hRO, hA, hfr, hlo, hKF, hSF, hxt, hst⟩ := X
  intro σ L k σ' L' k' pc' h hcl hn0 hF G ad H locs cells slots ls hP hD hS hc hs hl had
  simp only [o_push] at h
  cases h
  exact lv_ldc hx hb hown (hts _ hw) hdg (G ad H locs cells slots ls hP hD hS hc hs hl had)
theorem ok_null (X : ae_X p l e R s m args below meth c D dA ro A B ra own nm cc nL ret KF SF d hd)  (hdg : decode cc pc = .ok (.aconst_null, 1)) : ae_Ok p l e R s m args below meth c Q D dA ro A nL B ad0 n0 ra KF SF pc (o_push .null (pc + 1)) := by
  obtain ⟨hx, hb, hml, hown, hts, hr, hlk, hnm, hK, hRO, hA, hfr, hlo, hKF, hSF, hxt, hst⟩ := X
  intro σ L k σ' L' k' pc' h hcl hn0 hF G ad H locs cells slots ls hP hD hS hc hs hl had
  simp only [o_push] at h
  cases h
  exact lv_null hx hb hdg (G ad H locs cells slots ls hP hD hS hc hs hl had)
theorem ok_iadd (X : ae_X p l e R s m args below meth c D dA ro A B ra own nm cc nL ret KF SF d hd)  (hdg : decode cc pc = .ok (.iadd, 1)) : ae_Ok p l e R s m args below meth c Q D dA ro A nL B ad0 n0 ra KF SF pc (o_bin (fun x y => x + y) (pc + 1)) := by
  obtain ⟨hx, hb, hml, hown, hts, hr, hlk, hnm, hK, hRO, hA, hfr, hlo, hKF, hSF, hxt, hst⟩ := X
  intro σ L k σ' L' k' pc' h hcl hn0 hF G ad H locs cells slots ls hP hD hS hc hs hl had
  simp only [o_bin] at h
  split at h
  · cases h
    exact lv_iadd hx hb hdg (G ad H locs cells slots ls hP hD hS hc hs hl had)
  · cases h
theorem ok_isub (X : ae_X p l e R s m args below meth c D dA ro A B ra own nm cc nL ret KF SF d hd)  (hdg : decode cc pc = .ok (.isub, 1)) : ae_Ok p l e R s m args below meth c Q D dA ro A nL B ad0 n0 ra KF SF pc (o_bin (fun x y => x - y) (pc + 1)) := by
  obtain ⟨hx, hb, hml, hown, hts, hr, hlk, hnm, hK, hRO, hA, hfr, hlo, hKF, hSF, hxt, hst⟩ := X
  intro σ L k σ' L' k' pc' h hcl hn0 hF G ad H locs cells slots ls hP hD hS hc hs hl had
  simp only [o_bin] at h
  split at h
  · cases h
    exact lv_isub hx hb hdg (G ad H locs cells slots ls hP hD hS hc hs hl had)
  · cases h
theorem ok_imul (X : ae_X p l e R s m args below meth c D dA ro A B ra own nm cc nL ret KF SF d hd)  (hdg : decode cc pc = .ok (.imul, 1)) : ae_Ok p l e R s m args below meth c Q D dA ro A nL B ad0 n0 ra KF SF pc (o_bin (fun x y => x * y) (pc + 1)) := by
  obtain ⟨hx, hb, hml, hown, hts, hr, hlk, hnm, hK, hRO, hA, hfr, hlo, hKF, hSF, hxt, hst⟩ := X
  intro σ L k σ' L' k' pc' h hcl hn0 hF G ad H locs cells slots ls hP hD hS hc hs hl had
  simp only [o_bin] at h
  split at h
  · cases h
    exact lv_imul hx hb hdg (G ad H locs cells slots ls hP hD hS hc hs hl had)
  · cases h
theorem ok_iand (X : ae_X p l e R s m args below meth c D dA ro A B ra own nm cc nL ret KF SF d hd)  (hdg : decode cc pc = .ok (.iand, 1)) : ae_Ok p l e R s m args below meth c Q D dA ro A nL B ad0 n0 ra KF SF pc (o_bin (fun x y => x &&& y) (pc + 1)) := by
  obtain ⟨hx, hb, hml, hown, hts, hr, hlk, hnm, hK, hRO, hA, hfr, hlo, hKF, hSF, hxt, hst⟩ := X
  intro σ L k σ' L' k' pc' h hcl hn0 hF G ad H locs cells slots ls hP hD hS hc hs hl had
  simp only [o_bin] at h
  split at h
  · cases h
    exact lv_iand hx hb hdg (G ad H locs cells slots ls hP hD hS hc hs hl had)
  · cases h
theorem ok_ior (X : ae_X p l e R s m args below meth c D dA ro A B ra own nm cc nL ret KF SF d hd)  (hdg : decode cc pc = .ok (.ior, 1)) : ae_Ok p l e R s m args below meth c Q D dA ro A nL B ad0 n0 ra KF SF pc (o_bin (fun x y => x ||| y) (pc + 1)) := by
  obtain ⟨hx, hb, hml, hown, hts, hr, hlk, hnm, hK, hRO, hA, hfr, hlo, hKF, hSF, hxt, hst⟩ := X
  intro σ L k σ' L' k' pc' h hcl hn0 hF G ad H locs cells slots ls hP hD hS hc hs hl had
  simp only [o_bin] at h
  split at h
  · cases h
    exact lv_ior hx hb hdg (G ad H locs cells slots ls hP hD hS hc hs hl had)
  · cases h
theorem ok_ixor (X : ae_X p l e R s m args below meth c D dA ro A B ra own nm cc nL ret KF SF d hd)  (hdg : decode cc pc = .ok (.ixor, 1)) : ae_Ok p l e R s m args below meth c Q D dA ro A nL B ad0 n0 ra KF SF pc (o_bin (fun x y => x ^^^ y) (pc + 1)) := by
  obtain ⟨hx, hb, hml, hown, hts, hr, hlk, hnm, hK, hRO, hA, hfr, hlo, hKF, hSF, hxt, hst⟩ := X
  intro σ L k σ' L' k' pc' h hcl hn0 hF G ad H locs cells slots ls hP hD hS hc hs hl had
  simp only [o_bin] at h
  split at h
  · cases h
    exact lv_ixor hx hb hdg (G ad H locs cells slots ls hP hD hS hc hs hl had)
  · cases h
theorem ok_ishl (X : ae_X p l e R s m args below meth c D dA ro A B ra own nm cc nL ret KF SF d hd)  (hdg : decode cc pc = .ok (.ishl, 1)) : ae_Ok p l e R s m args below meth c Q D dA ro A nL B ad0 n0 ra KF SF pc (o_bin (fun x y => x <<< (y &&& 31)) (pc + 1)) := by
  obtain ⟨hx, hb, hml, hown, hts, hr, hlk, hnm, hK, hRO, hA, hfr, hlo, hKF, hSF, hxt, hst⟩ := X
  intro σ L k σ' L' k' pc' h hcl hn0 hF G ad H locs cells slots ls hP hD hS hc hs hl had
  simp only [o_bin] at h
  split at h
  · cases h
    exact lv_ishl hx hb hdg (G ad H locs cells slots ls hP hD hS hc hs hl had)
  · cases h
theorem ok_ishr (X : ae_X p l e R s m args below meth c D dA ro A B ra own nm cc nL ret KF SF d hd)  (hdg : decode cc pc = .ok (.ishr, 1)) : ae_Ok p l e R s m args below meth c Q D dA ro A nL B ad0 n0 ra KF SF pc (o_bin (fun x y => x >>> (y &&& 31)) (pc + 1)) := by
  obtain ⟨hx, hb, hml, hown, hts, hr, hlk, hnm, hK, hRO, hA, hfr, hlo, hKF, hSF, hxt, hst⟩ := X
  intro σ L k σ' L' k' pc' h hcl hn0 hF G ad H locs cells slots ls hP hD hS hc hs hl had
  simp only [o_bin] at h
  split at h
  · cases h
    exact lv_ishr hx hb hdg (G ad H locs cells slots ls hP hD hS hc hs hl had)
  · cases h
theorem ok_iushr (X : ae_X p l e R s m args below meth c D dA ro A B ra own nm cc nL ret KF SF d hd)  (hdg : decode cc pc = .ok (.iushr, 1)) : ae_Ok p l e R s m args below meth c Q D dA ro A nL B ad0 n0 ra KF SF pc (o_bin (fun x y => (x.toUInt32 >>> (y.toUInt32 &&& Int32.toUInt32 31)).toInt32) (pc + 1)) := by
  obtain ⟨hx, hb, hml, hown, hts, hr, hlk, hnm, hK, hRO, hA, hfr, hlo, hKF, hSF, hxt, hst⟩ := X
  intro σ L k σ' L' k' pc' h hcl hn0 hF G ad H locs cells slots ls hP hD hS hc hs hl had
  simp only [o_bin] at h
  split at h
  · cases h
    exact lv_iushr hx hb hdg rfl (G ad H locs cells slots ls hP hD hS hc hs hl had)
  · cases h
theorem ok_idiv (X : ae_X p l e R s m args below meth c D dA ro A B ra own nm cc nL ret KF SF d hd)  (hdg : decode cc pc = .ok (.idiv, 1)) : ae_Ok p l e R s m args below meth c Q D dA ro A nL B ad0 n0 ra KF SF pc (o_dv (fun x y => x / y) (pc + 1)) := by
  obtain ⟨hx, hb, hml, hown, hts, hr, hlk, hnm, hK, hRO, hA, hfr, hlo, hKF, hSF, hxt, hst⟩ := X
  intro σ L k σ' L' k' pc' h hcl hn0 hF G ad H locs cells slots ls hP hD hS hc hs hl had
  simp only [o_dv] at h
  split at h
  · split at h
    · cases h
    · cases h
      exact lv_idiv hx hb hdg (by assumption) (G ad H locs cells slots ls hP hD hS hc hs hl had)
  · cases h
theorem ok_irem (X : ae_X p l e R s m args below meth c D dA ro A B ra own nm cc nL ret KF SF d hd)  (hdg : decode cc pc = .ok (.irem, 1)) : ae_Ok p l e R s m args below meth c Q D dA ro A nL B ad0 n0 ra KF SF pc (o_dv (fun x y => x - x / y * y) (pc + 1)) := by
  obtain ⟨hx, hb, hml, hown, hts, hr, hlk, hnm, hK, hRO, hA, hfr, hlo, hKF, hSF, hxt, hst⟩ := X
  intro σ L k σ' L' k' pc' h hcl hn0 hF G ad H locs cells slots ls hP hD hS hc hs hl had
  simp only [o_dv] at h
  split at h
  · split at h
    · cases h
    · cases h
      exact lv_irem hx hb hdg (by assumption) (G ad H locs cells slots ls hP hD hS hc hs hl had)
  · cases h
theorem ok_i2b (X : ae_X p l e R s m args below meth c D dA ro A B ra own nm cc nL ret KF SF d hd)  (hdg : decode cc pc = .ok (.i2b, 1)) : ae_Ok p l e R s m args below meth c Q D dA ro A nL B ad0 n0 ra KF SF pc (o_un (fun x => x.toInt8.toInt32) (pc + 1)) := by
  obtain ⟨hx, hb, hml, hown, hts, hr, hlk, hnm, hK, hRO, hA, hfr, hlo, hKF, hSF, hxt, hst⟩ := X
  intro σ L k σ' L' k' pc' h hcl hn0 hF G ad H locs cells slots ls hP hD hS hc hs hl had
  simp only [o_un] at h
  split at h
  · cases h
    exact lv_i2b hx hb hdg rfl (G ad H locs cells slots ls hP hD hS hc hs hl had)
  · cases h
theorem ok_i2l (X : ae_X p l e R s m args below meth c D dA ro A B ra own nm cc nL ret KF SF d hd)  (hdg : decode cc pc = .ok (.i2l, 1)) : ae_Ok p l e R s m args below meth c Q D dA ro A nL B ad0 n0 ra KF SF pc (o_i2l (pc + 1)) := by
  obtain ⟨hx, hb, hml, hown, hts, hr, hlk, hnm, hK, hRO, hA, hfr, hlo, hKF, hSF, hxt, hst⟩ := X
  intro σ L k σ' L' k' pc' h hcl hn0 hF G ad H locs cells slots ls hP hD hS hc hs hl had
  simp only [o_i2l] at h
  split at h
  · cases h
    exact lv_i2l hx hb hdg rfl (G ad H locs cells slots ls hP hD hS hc hs hl had)
  · cases h
theorem ok_lcmp (X : ae_X p l e R s m args below meth c D dA ro A B ra own nm cc nL ret KF SF d hd)  (hdg : decode cc pc = .ok (.lcmp, 1)) : ae_Ok p l e R s m args below meth c Q D dA ro A nL B ad0 n0 ra KF SF pc (o_lcmp (pc + 1)) := by
  obtain ⟨hx, hb, hml, hown, hts, hr, hlk, hnm, hK, hRO, hA, hfr, hlo, hKF, hSF, hxt, hst⟩ := X
  intro σ L k σ' L' k' pc' h hcl hn0 hF G ad H locs cells slots ls hP hD hS hc hs hl had
  simp only [o_lcmp] at h
  split at h
  · cases h
    exact W.lcmp hx hb hdg (G ad H locs cells slots ls hP hD hS hc hs hl had)
  · cases h
theorem ok_dup (X : ae_X p l e R s m args below meth c D dA ro A B ra own nm cc nL ret KF SF d hd)  (hdg : decode cc pc = .ok (.dup, 1)) : ae_Ok p l e R s m args below meth c Q D dA ro A nL B ad0 n0 ra KF SF pc (o_dup (pc + 1)) := by
  obtain ⟨hx, hb, hml, hown, hts, hr, hlk, hnm, hK, hRO, hA, hfr, hlo, hKF, hSF, hxt, hst⟩ := X
  intro σ L k σ' L' k' pc' h hcl hn0 hF G ad H locs cells slots ls hP hD hS hc hs hl had
  simp only [o_dup] at h
  split at h
  · split at h
    · cases h
      exact lv_dup hx hb hdg (by rw [ae_v_cat]; first | assumption | exact (by assumption : _ ∧ _).1) (G ad H locs cells slots ls hP hD hS hc hs hl had)
    · cases h
  · cases h
theorem ok_pop (X : ae_X p l e R s m args below meth c D dA ro A B ra own nm cc nL ret KF SF d hd)  (hdg : decode cc pc = .ok (.pop, 1)) : ae_Ok p l e R s m args below meth c Q D dA ro A nL B ad0 n0 ra KF SF pc (o_pop (pc + 1)) := by
  obtain ⟨hx, hb, hml, hown, hts, hr, hlk, hnm, hK, hRO, hA, hfr, hlo, hKF, hSF, hxt, hst⟩ := X
  intro σ L k σ' L' k' pc' h hcl hn0 hF G ad H locs cells slots ls hP hD hS hc hs hl had
  simp only [o_pop] at h
  split at h
  · split at h
    · cases h
      exact lv_pop hx hb hdg (by rw [ae_v_cat]; first | assumption | exact (by assumption : _ ∧ _).1) (G ad H locs cells slots ls hP hD hS hc hs hl had)
    · cases h
  · cases h
theorem ok_dup2 (X : ae_X p l e R s m args below meth c D dA ro A B ra own nm cc nL ret KF SF d hd)  (hdg : decode cc pc = .ok (.dup2, 1)) : ae_Ok p l e R s m args below meth c Q D dA ro A nL B ad0 n0 ra KF SF pc (o_dup2 (pc + 1)) := by
  obtain ⟨hx, hb, hml, hown, hts, hr, hlk, hnm, hK, hRO, hA, hfr, hlo, hKF, hSF, hxt, hst⟩ := X
  intro σ L k σ' L' k' pc' h hcl hn0 hF G ad H locs cells slots ls hP hD hS hc hs hl had
  simp only [o_dup2] at h
  split at h
  · split at h
    · cases h
      exact lv_dup2_11 hx hb hdg (by rw [ae_v_cat]; first | assumption | exact (by assumption : _ ∧ _).1) (by rw [ae_v_cat]; exact (by assumption : _ ∧ _).2) (G ad H locs cells slots ls hP hD hS hc hs hl had)
    · cases h
  · cases h
theorem ok_dupx1 (X : ae_X p l e R s m args below meth c D dA ro A B ra own nm cc nL ret KF SF d hd)  (hdg : decode cc pc = .ok (.dup_x1, 1)) : ae_Ok p l e R s m args below meth c Q D dA ro A nL B ad0 n0 ra KF SF pc (o_dupx1 (pc + 1)) := by
  obtain ⟨hx, hb, hml, hown, hts, hr, hlk, hnm, hK, hRO, hA, hfr, hlo, hKF, hSF, hxt, hst⟩ := X
  intro σ L k σ' L' k' pc' h hcl hn0 hF G ad H locs cells slots ls hP hD hS hc hs hl had
  simp only [o_dupx1] at h
  split at h
  · split at h
    · cases h
      exact lv_dup_x1 hx hb hdg (by rw [ae_v_cat]; first | assumption | exact (by assumption : _ ∧ _).1) (by rw [ae_v_cat]; exact (by assumption : _ ∧ _).2) (G ad H locs cells slots ls hP hD hS hc hs hl had)
    · cases h
  · cases h
theorem ok_iload_n (X : ae_X p l e R s m args below meth c D dA ro A B ra own nm cc nL ret KF SF d hd) {k : Fin 4} {i : Nat} (hi : (k : Nat) = i) (hdg : decode cc pc = .ok (.iload_n k, 1)) : ae_Ok p l e R s m args below meth c Q D dA ro A nL B ad0 n0 ra KF SF pc (o_il i (pc + 1)) := by
  obtain ⟨hx, hb, hml, hown, hts, hr, hlk, hnm, hK, hRO, hA, hfr, hlo, hKF, hSF, hxt, hst⟩ := X
  intro σ L k σ' L' k' pc' h hcl hn0 hF G ad H locs cells slots ls hP hD hS hc hs hl had
  simp only [o_il] at h
  split at h
  · cases h
    exact lv_iload_n hx hb hdg hi (hl.2.2.2 _ _ (by assumption)) (G ad H locs cells slots ls hP hD hS hc hs hl had)
  · cases h
theorem ok_iload (X : ae_X p l e R s m args below meth c D dA ro A B ra own nm cc nL ret KF SF d hd) {i : Nat} (hdg : decode cc pc = .ok (.iload i, 2)) : ae_Ok p l e R s m args below meth c Q D dA ro A nL B ad0 n0 ra KF SF pc (o_il i (pc + 2)) := by
  obtain ⟨hx, hb, hml, hown, hts, hr, hlk, hnm, hK, hRO, hA, hfr, hlo, hKF, hSF, hxt, hst⟩ := X
  intro σ L k σ' L' k' pc' h hcl hn0 hF G ad H locs cells slots ls hP hD hS hc hs hl had
  simp only [o_il] at h
  split at h
  · cases h
    exact lv_iload hx hb hdg (hl.2.2.2 _ _ (by assumption)) (G ad H locs cells slots ls hP hD hS hc hs hl had)
  · cases h
theorem ok_aload_n (X : ae_X p l e R s m args below meth c D dA ro A B ra own nm cc nL ret KF SF d hd) {k : Fin 4} {i : Nat} (hi : (k : Nat) = i) (hdg : decode cc pc = .ok (.aload_n k, 1)) : ae_Ok p l e R s m args below meth c Q D dA ro A nL B ad0 n0 ra KF SF pc (o_al i (pc + 1)) := by
  obtain ⟨hx, hb, hml, hown, hts, hr, hlk, hnm, hK, hRO, hA, hfr, hlo, hKF, hSF, hxt, hst⟩ := X
  intro σ L k σ' L' k' pc' h hcl hn0 hF G ad H locs cells slots ls hP hD hS hc hs hl had
  simp only [o_al] at h
  split at h
  · cases h
    exact lv_aload_n hx hb hdg hi (hl.2.2.2 _ _ (by assumption)) (G ad H locs cells slots ls hP hD hS hc hs hl had)
  · cases h
    exact lv_aload_nN hx hb hdg hi (hl.2.2.2 _ _ (by assumption)) (G ad H locs cells slots ls hP hD hS hc hs hl had)
  · cases h
    exact lv_aload_n hx hb hdg hi (hl.2.2.2 _ _ (by assumption)) (G ad H locs cells slots ls hP hD hS hc hs hl had)
  · cases h
theorem ok_aload (X : ae_X p l e R s m args below meth c D dA ro A B ra own nm cc nL ret KF SF d hd) {i : Nat} (hdg : decode cc pc = .ok (.aload i, 2)) : ae_Ok p l e R s m args below meth c Q D dA ro A nL B ad0 n0 ra KF SF pc (o_al i (pc + 2)) := by
  obtain ⟨hx, hb, hml, hown, hts, hr, hlk, hnm, hK, hRO, hA, hfr, hlo, hKF, hSF, hxt, hst⟩ := X
  intro σ L k σ' L' k' pc' h hcl hn0 hF G ad H locs cells slots ls hP hD hS hc hs hl had
  simp only [o_al] at h
  split at h
  · cases h
    exact lv_aload hx hb hdg (hl.2.2.2 _ _ (by assumption)) (G ad H locs cells slots ls hP hD hS hc hs hl had)
  · cases h
    exact lv_aloadN hx hb hdg (hl.2.2.2 _ _ (by assumption)) (G ad H locs cells slots ls hP hD hS hc hs hl had)
  · cases h
    exact lv_aload hx hb hdg (hl.2.2.2 _ _ (by assumption)) (G ad H locs cells slots ls hP hD hS hc hs hl had)
  · cases h
theorem ok_istore_n (X : ae_X p l e R s m args below meth c D dA ro A B ra own nm cc nL ret KF SF d hd) {k : Fin 4} {i : Nat} (hi : (k : Nat) = i) (hdg : decode cc pc = .ok (.istore_n k, 1)) : ae_Ok p l e R s m args below meth c Q D dA ro A nL B ad0 n0 ra KF SF pc (o_is i (pc + 1)) := by
  obtain ⟨hx, hb, hml, hown, hts, hr, hlk, hnm, hK, hRO, hA, hfr, hlo, hKF, hSF, hxt, hst⟩ := X
  intro σ L k σ' L' k' pc' h hcl hn0 hF G ad H locs cells slots ls hP hD hS hc hs hl had
  simp only [o_is] at h
  split at h
  · split at h
    · cases h
      exact lv_istore_n hx hb hdg hi hl.has (by rw [← hl.1]; assumption) rfl (fun ls' h' => G ad H locs cells slots ls' hP hD hS hc hs (hl.put hcl.2.1 h') had)
    · cases h
  · cases h
theorem ok_istore (X : ae_X p l e R s m args below meth c D dA ro A B ra own nm cc nL ret KF SF d hd) {i : Nat} (hdg : decode cc pc = .ok (.istore i, 2)) : ae_Ok p l e R s m args below meth c Q D dA ro A nL B ad0 n0 ra KF SF pc (o_is i (pc + 2)) := by
  obtain ⟨hx, hb, hml, hown, hts, hr, hlk, hnm, hK, hRO, hA, hfr, hlo, hKF, hSF, hxt, hst⟩ := X
  intro σ L k σ' L' k' pc' h hcl hn0 hF G ad H locs cells slots ls hP hD hS hc hs hl had
  simp only [o_is] at h
  split at h
  · split at h
    · cases h
      exact lv_istore hx hb hdg hl.has (by rw [← hl.1]; assumption) rfl (fun ls' h' => G ad H locs cells slots ls' hP hD hS hc hs (hl.put hcl.2.1 h') had)
    · cases h
  · cases h
theorem ok_astore_n (X : ae_X p l e R s m args below meth c D dA ro A B ra own nm cc nL ret KF SF d hd) {k : Fin 4} {i : Nat} (hi : (k : Nat) = i) (hdg : decode cc pc = .ok (.astore_n k, 1)) : ae_Ok p l e R s m args below meth c Q D dA ro A nL B ad0 n0 ra KF SF pc (o_as i (pc + 1)) := by
  obtain ⟨hx, hb, hml, hown, hts, hr, hlk, hnm, hK, hRO, hA, hfr, hlo, hKF, hSF, hxt, hst⟩ := X
  intro σ L k σ' L' k' pc' h hcl hn0 hF G ad H locs cells slots ls hP hD hS hc hs hl had
  simp only [o_as] at h
  split at h
  · split at h
    · cases h
      exact lv_astore_n hx hb hdg hi hl.has (by rw [← hl.1]; assumption) rfl (fun ls' h' => G ad H locs cells slots ls' hP hD hS hc hs (hl.put (v := .ref _) hcl.2.1 h') had)
    · cases h
  · split at h
    · cases h
      exact lv_astore_nN hx hb hdg hi hl.has (by rw [← hl.1]; assumption) rfl (fun ls' h' => G ad H locs cells slots ls' hP hD hS hc hs (hl.put (v := .null) hcl.2.1 h') had)
    · cases h
  · split at h
    · cases h
      exact lv_astore_n hx hb hdg hi hl.has (by rw [← hl.1]; assumption) rfl (fun ls' h' => G ad H locs cells slots ls' hP hD hS hc hs (hl.put (v := .retAddr _) hcl.2.1 h') had)
    · cases h
  · cases h
theorem ok_astore (X : ae_X p l e R s m args below meth c D dA ro A B ra own nm cc nL ret KF SF d hd) {i : Nat} (hdg : decode cc pc = .ok (.astore i, 2)) : ae_Ok p l e R s m args below meth c Q D dA ro A nL B ad0 n0 ra KF SF pc (o_as i (pc + 2)) := by
  obtain ⟨hx, hb, hml, hown, hts, hr, hlk, hnm, hK, hRO, hA, hfr, hlo, hKF, hSF, hxt, hst⟩ := X
  intro σ L k σ' L' k' pc' h hcl hn0 hF G ad H locs cells slots ls hP hD hS hc hs hl had
  simp only [o_as] at h
  split at h
  · split at h
    · cases h
      exact lv_astore hx hb hdg hl.has (by rw [← hl.1]; assumption) rfl (fun ls' h' => G ad H locs cells slots ls' hP hD hS hc hs (hl.put (v := .ref _) hcl.2.1 h') had)
    · cases h
  · split at h
    · cases h
      exact lv_astoreN hx hb hdg hl.has (by rw [← hl.1]; assumption) rfl (fun ls' h' => G ad H locs cells slots ls' hP hD hS hc hs (hl.put (v := .null) hcl.2.1 h') had)
    · cases h
  · split at h
    · cases h
      exact lv_astore hx hb hdg hl.has (by rw [← hl.1]; assumption) rfl (fun ls' h' => G ad H locs cells slots ls' hP hD hS hc hs (hl.put (v := .retAddr _) hcl.2.1 h') had)
    · cases h
  · cases h
theorem ok_iinc (X : ae_X p l e R s m args below meth c D dA ro A B ra own nm cc nL ret KF SF d hd) {i : Nat} {n : Int} {v : Int32} (hv : Int32.ofInt n = v) (hdg : decode cc pc = .ok (.iinc i n, 3)) : ae_Ok p l e R s m args below meth c Q D dA ro A nL B ad0 n0 ra KF SF pc (o_inc i v (pc + 3)) := by
  obtain ⟨hx, hb, hml, hown, hts, hr, hlk, hnm, hK, hRO, hA, hfr, hlo, hKF, hSF, hxt, hst⟩ := X
  intro σ L k σ' L' k' pc' h hcl hn0 hF G ad H locs cells slots ls hP hD hS hc hs hl had
  simp only [o_inc] at h
  subst hv
  split at h
  · rename_i x hLi
    cases h
    have hi : i < nL := by rw [← hl.1]; exact (List.getElem?_eq_some_iff.mp hLi).1
    obtain ⟨kk, hkk⟩ := List.getElem?_of_mem (ae_as_mem (ad := ad) (ro := ro).mpr ⟨_, hLi, rfl⟩)
    exact lv_iinc hx hb hdg hl.has hkk rfl hi rfl (fun ls' h' => G ad H locs cells slots ls' hP hD hS hc hs (hl.put (v := .int _) hcl.2.1 h') had)
  · cases h
theorem ok_if_eq (X : ae_X p l e R s m args below meth c D dA ro A B ra own nm cc nL ret KF SF d hd) {off : Int} {tg : Nat} (ht : (pc : Int) + off = (tg : Int)) (hdg : decode cc pc = .ok (.ifCond .eq off, 3)) : ae_Ok p l e R s m args below meth c Q D dA ro A nL B ad0 n0 ra KF SF pc (o_if (fun x => decide (x = 0)) tg (pc + 3)) := by
  obtain ⟨hx, hb, hml, hown, hts, hr, hlk, hnm, hK, hRO, hA, hfr, hlo, hKF, hSF, hxt, hst⟩ := X
  intro σ L k σ' L' k' pc' h hcl hn0 hF G ad H locs cells slots ls hP hD hS hc hs hl had
  simp only [o_if] at h
  split at h
  · cases h
    exact lv_if_eq hx hb hdg ht (fun z => by have G2 := (G ad H locs cells slots ls hP hD hS hc hs hl had); rw [if_pos (decide_eq_true z)] at G2; exact G2) (fun z => by have G2 := (G ad H locs cells slots ls hP hD hS hc hs hl had); rw [if_neg (by simp only [decide_eq_true_eq]; exact z)] at G2; exact G2)
  · cases h
theorem ok_ic_eq (X : ae_X p l e R s m args below meth c D dA ro A B ra own nm cc nL ret KF SF d hd) {off : Int} {tg : Nat} (ht : (pc : Int) + off = (tg : Int)) (hdg : decode cc pc = .ok (.if_icmp .eq off, 3)) : ae_Ok p l e R s m args below meth c Q D dA ro A nL B ad0 n0 ra KF SF pc (o_ic (fun x y => decide (x = y)) tg (pc + 3)) := by
  obtain ⟨hx, hb, hml, hown, hts, hr, hlk, hnm, hK, hRO, hA, hfr, hlo, hKF, hSF, hxt, hst⟩ := X
  intro σ L k σ' L' k' pc' h hcl hn0 hF G ad H locs cells slots ls hP hD hS hc hs hl had
  simp only [o_ic] at h
  split at h
  · cases h
    exact lv_icmp_eq hx hb hdg ht (fun z => by have G2 := (G ad H locs cells slots ls hP hD hS hc hs hl had); rw [if_pos (decide_eq_true z)] at G2; exact G2) (fun z => by have G2 := (G ad H locs cells slots ls hP hD hS hc hs hl had); rw [if_neg (by simp only [decide_eq_true_eq]; exact z)] at G2; exact G2)
  · cases h
theorem ok_if_ne (X : ae_X p l e R s m args below meth c D dA ro A B ra own nm cc nL ret KF SF d hd) {off : Int} {tg : Nat} (ht : (pc : Int) + off = (tg : Int)) (hdg : decode cc pc = .ok (.ifCond .ne off, 3)) : ae_Ok p l e R s m args below meth c Q D dA ro A nL B ad0 n0 ra KF SF pc (o_if (fun x => decide (¬ x = 0)) tg (pc + 3)) := by
  obtain ⟨hx, hb, hml, hown, hts, hr, hlk, hnm, hK, hRO, hA, hfr, hlo, hKF, hSF, hxt, hst⟩ := X
  intro σ L k σ' L' k' pc' h hcl hn0 hF G ad H locs cells slots ls hP hD hS hc hs hl had
  simp only [o_if] at h
  split at h
  · cases h
    exact lv_if_ne hx hb hdg ht (fun z => by have G2 := (G ad H locs cells slots ls hP hD hS hc hs hl had); rw [if_pos (decide_eq_true z)] at G2; exact G2) (fun z => by have G2 := (G ad H locs cells slots ls hP hD hS hc hs hl had); rw [if_neg (by simp only [decide_eq_true_eq]; exact fun q => q z)] at G2; exact G2)
  · cases h
theorem ok_ic_ne (X : ae_X p l e R s m args below meth c D dA ro A B ra own nm cc nL ret KF SF d hd) {off : Int} {tg : Nat} (ht : (pc : Int) + off = (tg : Int)) (hdg : decode cc pc = .ok (.if_icmp .ne off, 3)) : ae_Ok p l e R s m args below meth c Q D dA ro A nL B ad0 n0 ra KF SF pc (o_ic (fun x y => decide (¬ x = y)) tg (pc + 3)) := by
  obtain ⟨hx, hb, hml, hown, hts, hr, hlk, hnm, hK, hRO, hA, hfr, hlo, hKF, hSF, hxt, hst⟩ := X
  intro σ L k σ' L' k' pc' h hcl hn0 hF G ad H locs cells slots ls hP hD hS hc hs hl had
  simp only [o_ic] at h
  split at h
  · cases h
    exact lv_icmp_ne hx hb hdg ht (fun z => by have G2 := (G ad H locs cells slots ls hP hD hS hc hs hl had); rw [if_pos (decide_eq_true z)] at G2; exact G2) (fun z => by have G2 := (G ad H locs cells slots ls hP hD hS hc hs hl had); rw [if_neg (by simp only [decide_eq_true_eq]; exact fun q => q z)] at G2; exact G2)
  · cases h
theorem ok_if_lt (X : ae_X p l e R s m args below meth c D dA ro A B ra own nm cc nL ret KF SF d hd) {off : Int} {tg : Nat} (ht : (pc : Int) + off = (tg : Int)) (hdg : decode cc pc = .ok (.ifCond .lt off, 3)) : ae_Ok p l e R s m args below meth c Q D dA ro A nL B ad0 n0 ra KF SF pc (o_if (fun x => decide (x < 0)) tg (pc + 3)) := by
  obtain ⟨hx, hb, hml, hown, hts, hr, hlk, hnm, hK, hRO, hA, hfr, hlo, hKF, hSF, hxt, hst⟩ := X
  intro σ L k σ' L' k' pc' h hcl hn0 hF G ad H locs cells slots ls hP hD hS hc hs hl had
  simp only [o_if] at h
  split at h
  · cases h
    exact lv_if_lt hx hb hdg ht (fun z => by have G2 := (G ad H locs cells slots ls hP hD hS hc hs hl had); rw [if_pos (decide_eq_true z)] at G2; exact G2) (fun z => by have G2 := (G ad H locs cells slots ls hP hD hS hc hs hl had); rw [if_neg (by simp only [decide_eq_true_eq]; exact z)] at G2; exact G2)
  · cases h
theorem ok_ic_lt (X : ae_X p l e R s m args below meth c D dA ro A B ra own nm cc nL ret KF SF d hd) {off : Int} {tg : Nat} (ht : (pc : Int) + off = (tg : Int)) (hdg : decode cc pc = .ok (.if_icmp .lt off, 3)) : ae_Ok p l e R s m args below meth c Q D dA ro A nL B ad0 n0 ra KF SF pc (o_ic (fun x y => decide (x < y)) tg (pc + 3)) := by
  obtain ⟨hx, hb, hml, hown, hts, hr, hlk, hnm, hK, hRO, hA, hfr, hlo, hKF, hSF, hxt, hst⟩ := X
  intro σ L k σ' L' k' pc' h hcl hn0 hF G ad H locs cells slots ls hP hD hS hc hs hl had
  simp only [o_ic] at h
  split at h
  · cases h
    exact lv_icmp_lt hx hb hdg ht (fun z => by have G2 := (G ad H locs cells slots ls hP hD hS hc hs hl had); rw [if_pos (decide_eq_true z)] at G2; exact G2) (fun z => by have G2 := (G ad H locs cells slots ls hP hD hS hc hs hl had); rw [if_neg (by simp only [decide_eq_true_eq]; exact z)] at G2; exact G2)
  · cases h
theorem ok_if_ge (X : ae_X p l e R s m args below meth c D dA ro A B ra own nm cc nL ret KF SF d hd) {off : Int} {tg : Nat} (ht : (pc : Int) + off = (tg : Int)) (hdg : decode cc pc = .ok (.ifCond .ge off, 3)) : ae_Ok p l e R s m args below meth c Q D dA ro A nL B ad0 n0 ra KF SF pc (o_if (fun x => decide (0 ≤ x)) tg (pc + 3)) := by
  obtain ⟨hx, hb, hml, hown, hts, hr, hlk, hnm, hK, hRO, hA, hfr, hlo, hKF, hSF, hxt, hst⟩ := X
  intro σ L k σ' L' k' pc' h hcl hn0 hF G ad H locs cells slots ls hP hD hS hc hs hl had
  simp only [o_if] at h
  split at h
  · cases h
    exact lv_if_ge hx hb hdg ht (fun z => by have G2 := (G ad H locs cells slots ls hP hD hS hc hs hl had); rw [if_pos (decide_eq_true z)] at G2; exact G2) (fun z => by have G2 := (G ad H locs cells slots ls hP hD hS hc hs hl had); rw [if_neg (by simp only [decide_eq_true_eq]; exact z)] at G2; exact G2)
  · cases h
theorem ok_ic_ge (X : ae_X p l e R s m args below meth c D dA ro A B ra own nm cc nL ret KF SF d hd) {off : Int} {tg : Nat} (ht : (pc : Int) + off = (tg : Int)) (hdg : decode cc pc = .ok (.if_icmp .ge off, 3)) : ae_Ok p l e R s m args below meth c Q D dA ro A nL B ad0 n0 ra KF SF pc (o_ic (fun x y => decide (y ≤ x)) tg (pc + 3)) := by
  obtain ⟨hx, hb, hml, hown, hts, hr, hlk, hnm, hK, hRO, hA, hfr, hlo, hKF, hSF, hxt, hst⟩ := X
  intro σ L k σ' L' k' pc' h hcl hn0 hF G ad H locs cells slots ls hP hD hS hc hs hl had
  simp only [o_ic] at h
  split at h
  · cases h
    exact lv_icmp_ge hx hb hdg ht (fun z => by have G2 := (G ad H locs cells slots ls hP hD hS hc hs hl had); rw [if_pos (decide_eq_true z)] at G2; exact G2) (fun z => by have G2 := (G ad H locs cells slots ls hP hD hS hc hs hl had); rw [if_neg (by simp only [decide_eq_true_eq]; exact z)] at G2; exact G2)
  · cases h
theorem ok_if_gt (X : ae_X p l e R s m args below meth c D dA ro A B ra own nm cc nL ret KF SF d hd) {off : Int} {tg : Nat} (ht : (pc : Int) + off = (tg : Int)) (hdg : decode cc pc = .ok (.ifCond .gt off, 3)) : ae_Ok p l e R s m args below meth c Q D dA ro A nL B ad0 n0 ra KF SF pc (o_if (fun x => decide (0 < x)) tg (pc + 3)) := by
  obtain ⟨hx, hb, hml, hown, hts, hr, hlk, hnm, hK, hRO, hA, hfr, hlo, hKF, hSF, hxt, hst⟩ := X
  intro σ L k σ' L' k' pc' h hcl hn0 hF G ad H locs cells slots ls hP hD hS hc hs hl had
  simp only [o_if] at h
  split at h
  · cases h
    exact lv_if_gt hx hb hdg ht (fun z => by have G2 := (G ad H locs cells slots ls hP hD hS hc hs hl had); rw [if_pos (decide_eq_true z)] at G2; exact G2) (fun z => by have G2 := (G ad H locs cells slots ls hP hD hS hc hs hl had); rw [if_neg (by simp only [decide_eq_true_eq]; exact z)] at G2; exact G2)
  · cases h
theorem ok_ic_gt (X : ae_X p l e R s m args below meth c D dA ro A B ra own nm cc nL ret KF SF d hd) {off : Int} {tg : Nat} (ht : (pc : Int) + off = (tg : Int)) (hdg : decode cc pc = .ok (.if_icmp .gt off, 3)) : ae_Ok p l e R s m args below meth c Q D dA ro A nL B ad0 n0 ra KF SF pc (o_ic (fun x y => decide (y < x)) tg (pc + 3)) := by
  obtain ⟨hx, hb, hml, hown, hts, hr, hlk, hnm, hK, hRO, hA, hfr, hlo, hKF, hSF, hxt, hst⟩ := X
  intro σ L k σ' L' k' pc' h hcl hn0 hF G ad H locs cells slots ls hP hD hS hc hs hl had
  simp only [o_ic] at h
  split at h
  · cases h
    exact lv_icmp_gt hx hb hdg ht (fun z => by have G2 := (G ad H locs cells slots ls hP hD hS hc hs hl had); rw [if_pos (decide_eq_true z)] at G2; exact G2) (fun z => by have G2 := (G ad H locs cells slots ls hP hD hS hc hs hl had); rw [if_neg (by simp only [decide_eq_true_eq]; exact z)] at G2; exact G2)
  · cases h
theorem ok_if_le (X : ae_X p l e R s m args below meth c D dA ro A B ra own nm cc nL ret KF SF d hd) {off : Int} {tg : Nat} (ht : (pc : Int) + off = (tg : Int)) (hdg : decode cc pc = .ok (.ifCond .le off, 3)) : ae_Ok p l e R s m args below meth c Q D dA ro A nL B ad0 n0 ra KF SF pc (o_if (fun x => decide (x ≤ 0)) tg (pc + 3)) := by
  obtain ⟨hx, hb, hml, hown, hts, hr, hlk, hnm, hK, hRO, hA, hfr, hlo, hKF, hSF, hxt, hst⟩ := X
  intro σ L k σ' L' k' pc' h hcl hn0 hF G ad H locs cells slots ls hP hD hS hc hs hl had
  simp only [o_if] at h
  split at h
  · cases h
    exact lv_if_le hx hb hdg ht (fun z => by have G2 := (G ad H locs cells slots ls hP hD hS hc hs hl had); rw [if_pos (decide_eq_true z)] at G2; exact G2) (fun z => by have G2 := (G ad H locs cells slots ls hP hD hS hc hs hl had); rw [if_neg (by simp only [decide_eq_true_eq]; exact z)] at G2; exact G2)
  · cases h
theorem ok_ic_le (X : ae_X p l e R s m args below meth c D dA ro A B ra own nm cc nL ret KF SF d hd) {off : Int} {tg : Nat} (ht : (pc : Int) + off = (tg : Int)) (hdg : decode cc pc = .ok (.if_icmp .le off, 3)) : ae_Ok p l e R s m args below meth c Q D dA ro A nL B ad0 n0 ra KF SF pc (o_ic (fun x y => decide (x ≤ y)) tg (pc + 3)) := by
  obtain ⟨hx, hb, hml, hown, hts, hr, hlk, hnm, hK, hRO, hA, hfr, hlo, hKF, hSF, hxt, hst⟩ := X
  intro σ L k σ' L' k' pc' h hcl hn0 hF G ad H locs cells slots ls hP hD hS hc hs hl had
  simp only [o_ic] at h
  split at h
  · cases h
    exact lv_icmp_le hx hb hdg ht (fun z => by have G2 := (G ad H locs cells slots ls hP hD hS hc hs hl had); rw [if_pos (decide_eq_true z)] at G2; exact G2) (fun z => by have G2 := (G ad H locs cells slots ls hP hD hS hc hs hl had); rw [if_neg (by simp only [decide_eq_true_eq]; exact z)] at G2; exact G2)
  · cases h
theorem ok_ifnull (X : ae_X p l e R s m args below meth c D dA ro A B ra own nm cc nL ret KF SF d hd) {off : Int} {tg : Nat} (ht : (pc : Int) + off = (tg : Int)) (hdg : decode cc pc = .ok (.ifnull off, 3)) : ae_Ok p l e R s m args below meth c Q D dA ro A nL B ad0 n0 ra KF SF pc (o_nul tg (pc + 3)) := by
  obtain ⟨hx, hb, hml, hown, hts, hr, hlk, hnm, hK, hRO, hA, hfr, hlo, hKF, hSF, hxt, hst⟩ := X
  intro σ L k σ' L' k' pc' h hcl hn0 hF G ad H locs cells slots ls hP hD hS hc hs hl had
  simp only [o_nul] at h
  split at h
  · cases h
    exact lv_ifnullN hx hb hdg ht (G ad H locs cells slots ls hP hD hS hc hs hl had)
  · cases h
    exact lv_ifnull hx hb hdg (G ad H locs cells slots ls hP hD hS hc hs hl had)
  · cases h
theorem ok_ifnonnull (X : ae_X p l e R s m args below meth c D dA ro A B ra own nm cc nL ret KF SF d hd) {off : Int} {tg : Nat} (ht : (pc : Int) + off = (tg : Int)) (hdg : decode cc pc = .ok (.ifnonnull off, 3)) : ae_Ok p l e R s m args below meth c Q D dA ro A nL B ad0 n0 ra KF SF pc (o_nul (pc + 3) tg) := by
  obtain ⟨hx, hb, hml, hown, hts, hr, hlk, hnm, hK, hRO, hA, hfr, hlo, hKF, hSF, hxt, hst⟩ := X
  intro σ L k σ' L' k' pc' h hcl hn0 hF G ad H locs cells slots ls hP hD hS hc hs hl had
  simp only [o_nul] at h
  split at h
  · cases h
    exact lv_ifnonnullN hx hb hdg (G ad H locs cells slots ls hP hD hS hc hs hl had)
  · cases h
    exact lv_ifnonnull hx hb hdg ht (G ad H locs cells slots ls hP hD hS hc hs hl had)
  · cases h
theorem ok_goto (X : ae_X p l e R s m args below meth c D dA ro A B ra own nm cc nL ret KF SF d hd) {off : Int} {tg : Nat} (ht : (pc : Int) + off = (tg : Int)) (hdg : decode cc pc = .ok (.goto off, 3)) : ae_Ok p l e R s m args below meth c Q D dA ro A nL B ad0 n0 ra KF SF pc (o_goto tg) := by
  obtain ⟨hx, hb, hml, hown, hts, hr, hlk, hnm, hK, hRO, hA, hfr, hlo, hKF, hSF, hxt, hst⟩ := X
  intro σ L k σ' L' k' pc' h hcl hn0 hF G ad H locs cells slots ls hP hD hS hc hs hl had
  simp only [o_goto] at h
  cases h
  exact lv_goto hx hb hdg ht (G ad H locs cells slots ls hP hD hS hc hs hl had)
theorem ok_sw (X : ae_X p l e R s m args below meth c D dA ro A B ra own nm cc nL ret KF SF d hd) {dflt lo hi : Int} {offs : Array Int} {len : Nat} {tgs : List Nat} {df : Nat} (hd : (pc : Int) + dflt = (df : Int)) (ho : ∀ j : Nat, j < (hi - lo + 1).toNat → ∃ off, offs[j]? = some off ∧ (pc : Int) + off = ((tgs.getD j 0 : Nat) : Int)) (hdg : decode cc pc = .ok (.tableswitch dflt lo hi offs, len)) : ae_Ok p l e R s m args below meth c Q D dA ro A nL B ad0 n0 ra KF SF pc (o_sw lo hi tgs df) := by
  obtain ⟨hx, hb, hml, hown, hts, hr, hlk, hnm, hK, hRO, hA, hfr, hlo, hKF, hSF, hxt, hst⟩ := X
  intro σ L k σ' L' k' pc' h hcl hn0 hF G ad H locs cells slots ls hP hD hS hc hs hl had
  simp only [o_sw] at h
  split at h
  · rename_i x r
    cases h
    by_cases hq : x.toInt < lo ∨ hi < x.toInt
    · have G2 := (G ad H locs cells slots ls hP hD hS hc hs hl had)
      rw [if_pos hq] at G2
      exact lv_tableOut hx hb hdg hq hd G2
    · have G2 := (G ad H locs cells slots ls hP hD hS hc hs hl had)
      rw [if_neg hq] at G2
      obtain ⟨off, e1, e2⟩ := ho (x.toInt - lo).toNat (by omega)
      exact lv_tableIn hx hb hdg (fun z => hq (Or.inl z)) (fun z => hq (Or.inr z)) e1 e2 G2
  · cases h
end AEM
section AEH
variable {p : Program} {l : Launch} {e : Env} {R : Room} {s : State} {m : MethodId} {args : Array Value} {below : List Frame} {meth : Method} {c : Code} {Q : State → Prop}
variable {D : va_G} {dA : Nat → ClassId} {ro : Nat → Nat} {A : Nat → Prop} {nL : Nat} {B : Nat × Nat} {ad0 : Nat → Nat} {n0 : Nat}
variable {ra : Nat → Nat × (Nat → Int32)} {own nm : String} {cc : ByteArray} {ret : Option FieldType} {KF SF d : Nat} {pc : Nat} {hd : List (Nat × Nat × Nat × Nat)}
theorem ae_cat_map (ad ro : Nat → Nat) (k : List Value) : ((k.map (ae_v ad ro)).map fun v => v.category).sum = ae_cat k := by
  unfold ae_cat
  rw [List.map_map]
  congr 1
  exact List.map_congr_left fun v _ => ae_v_cat ad ro v
theorem ae_rf (ad ro : Nat → Nat) (o : Option Nat) : ae_v ad ro (va_rf o) = va_rf (o.map ad) := by cases o <;> rfl
theorem ae_uq {U : State} {cA cB : ClassId} {ty : FieldType} (h1 : va_RA U cA ty) (h2 : va_RA U cB ty) : cA = cB := by
  cases ty with
  | object C =>
    obtain ⟨_, _, _, _, _, a⟩ := h1
    obtain ⟨_, _, _, _, _, b⟩ := h2
    exact Option.some.inj (a.symm.trans b)
  | _ =>
    have a : U.vm.findClass _ = some cA := h1
    have b : U.vm.findClass _ = some cB := h2
    exact Option.some.inj (a.symm.trans b)
theorem ae_upm (ad : Nat → Nat) (f : Nat → Option Nat) (j : Nat) (o : Option Nat) : (fun i => (va_up f j o i).map ad) = va_up (fun i => (f i).map ad) j (o.map ad) := by
  funext i
  unfold va_up
  split <;> rfl

theorem ok_get (X : ae_X p l e R s m args below meth c D dA ro A B ra own nm cc nL ret KF SF d hd) {C : String} {T : u_T} {N ci kk index : Nat} (hci : classes[ci]? = some (C, T, N)) (hin : ∀ w ∈ u_ws C T N, w ∈ aw_all) (hkN : kk < N) (hw : Jvm.Cond.fieldLink own index (T kk).1 (T kk).2.1 (T kk).2.2.1 ∈ aw_all) (hdg : decode cc pc = .ok (.getfield index, 3)) : ae_Ok p l e R s m args below meth c Q D dA ro A nL B ad0 n0 ra KF SF pc (o_get ci kk (pc + 3)) := by
  obtain ⟨hx, hb, hml, hown, hts, hr, hlk, hnm, hK, hRO, hA, hfr, hlo, hKF, hSF, hxt, hst⟩ := X
  intro σ L k σ' L' k' pc' h hcl hn0 hF G ad H locs cells slots ls hP hD hS hc hs hl had
  simp only [o_get] at h
  split at h
  · rename_i p r
    split at h
    · rename_i cj fs he0
      split at h
      · rename_i hcj
        subst hcj
        split at h
        · rename_i v hv
          cases h
          exact va_get (D := D) (v := ae_v ad ro v) hx hb hts hin hown hK hP p (ae_w_get he0) hci kk hkN (hts _ hw) (fun _ z => z) (by rw [List.getElem?_map, hv]; rfl) hdg (G ad H locs cells slots ls hP hD hS hc hs hl had)
        · cases h
      · cases h
    · cases h
  · cases h
theorem ok_getN (X : ae_X p l e R s m args below meth c D dA ro A B ra own nm cc nL ret KF SF d hd) {C : String} {T : u_T} {N ci kk index : Nat} (hci : classes[ci]? = some (C, T, N)) (hin : ∀ w ∈ u_ws C T N, w ∈ aw_all) (hkN : kk < N) {host : String} (hw : Jvm.Cond.fieldLinkNest own index (T kk).1 (T kk).2.1 (T kk).2.2.1 host ∈ aw_all) (hdg : decode cc pc = .ok (.getfield index, 3)) : ae_Ok p l e R s m args below meth c Q D dA ro A nL B ad0 n0 ra KF SF pc (o_get ci kk (pc + 3)) := by
  obtain ⟨hx, hb, hml, hown, hts, hr, hlk, hnm, hK, hRO, hA, hfr, hlo, hKF, hSF, hxt, hst⟩ := X
  intro σ L k σ' L' k' pc' h hcl hn0 hF G ad H locs cells slots ls hP hD hS hc hs hl had
  simp only [o_get] at h
  split at h
  · rename_i p r
    split at h
    · rename_i cj fs he0
      split at h
      · rename_i hcj
        subst hcj
        split at h
        · rename_i v hv
          cases h
          exact va_getN (D := D) (v := ae_v ad ro v) hx hb hts hin hown hK hP p (ae_w_get he0) hci kk hkN (hts _ hw) (fun _ z => z) (by rw [List.getElem?_map, hv]; rfl) hdg (G ad H locs cells slots ls hP hD hS hc hs hl had)
        · cases h
      · cases h
    · cases h
  · cases h
theorem ok_put (X : ae_X p l e R s m args below meth c D dA ro A B ra own nm cc nL ret KF SF d hd) {C : String} {T : u_T} {N ci kk index : Nat} (hci : classes[ci]? = some (C, T, N)) (hin : ∀ w ∈ u_ws C T N, w ∈ aw_all) (hkN : kk < N) (hw : Jvm.Cond.fieldLink own index (T kk).1 (T kk).2.1 (T kk).2.2.1 ∈ aw_all) (ty0 : Nat → FieldType) (hty : ∀ k, k < N → parseFieldDescriptor (T k).2.2.1 = some (ty0 k)) (hnm0 : ∀ a, a < N → ∀ b, b < N → a ≠ b → (T a).2.1 ≠ (T b).2.1) {ok : Value → Bool} {ty : FieldType} (hd : parseFieldDescriptor (T kk).2.2.1 = some ty) (hok : ∀ (v : Value) (ad ro : Nat → Nat), ok v = true → narrow ty (ae_v ad ro v) = ae_v ad ro v ∧ fits ty (ae_v ad ro v) = true) (hfin : (T kk).2.2.2 = false) (hdg : decode cc pc = .ok (.putfield index, 3)) : ae_Ok p l e R s m args below meth c Q D dA ro A nL B ad0 n0 ra KF SF pc (o_put ci kk ok (pc + 3)) := by
  obtain ⟨hx, hb, hml, hown, hts, hr, hlk, hnm, hK, hRO, hA, hfr, hlo, hKF, hSF, hxt, hst⟩ := X
  intro σ L k σ' L' k' pc' h hcl hn0 hF G ad H locs cells slots ls hP hD hS hc hs hl had
  simp only [o_put] at h
  split at h
  · rename_i v p r
    split at h
    · rename_i cj fs he0
      split at h
      · rename_i hcj
        obtain ⟨hcj, hov, hlen⟩ := hcj
        subst hcj
        cases h
        have e0 : (ae_w ad ro dA σ.2).set p (ad p, .inr (cj, (fs.map (ae_v ad ro)).set kk (ae_v ad ro v))) = ae_w ad ro dA (σ.2.set p (.inr (cj, fs.set kk v))) := by
          rw [← ae_w_set]
          simp [ae_c, List.map_set]
        exact va_put (D := D) (v := ae_v ad ro v) hx hb hts hin ty0 hty hnm0 hown hK hP hD hS p (ae_w_get he0) hci kk hkN (hts _ hw) (fun _ z => z) hfin hd (hok v ad ro hov).1 (hok v ad ro hov).2 (by simpa using hlen) hdg (fun H1 locs1 hP1 hD1 hS1 => G ad H1 locs1 cells slots ls (e0 ▸ hP1) (e0 ▸ hD1) hS1 hc hs hl had)
      · cases h
    · cases h
  · cases h
theorem ok_putN (X : ae_X p l e R s m args below meth c D dA ro A B ra own nm cc nL ret KF SF d hd) {C : String} {T : u_T} {N ci kk index : Nat} (hci : classes[ci]? = some (C, T, N)) (hin : ∀ w ∈ u_ws C T N, w ∈ aw_all) (hkN : kk < N) {host : String} (hw : Jvm.Cond.fieldLinkNest own index (T kk).1 (T kk).2.1 (T kk).2.2.1 host ∈ aw_all) (ty0 : Nat → FieldType) (hty : ∀ k, k < N → parseFieldDescriptor (T k).2.2.1 = some (ty0 k)) (hnm0 : ∀ a, a < N → ∀ b, b < N → a ≠ b → (T a).2.1 ≠ (T b).2.1) {ok : Value → Bool} {ty : FieldType} (hd : parseFieldDescriptor (T kk).2.2.1 = some ty) (hok : ∀ (v : Value) (ad ro : Nat → Nat), ok v = true → narrow ty (ae_v ad ro v) = ae_v ad ro v ∧ fits ty (ae_v ad ro v) = true) (hfin : (T kk).2.2.2 = false) (hdg : decode cc pc = .ok (.putfield index, 3)) : ae_Ok p l e R s m args below meth c Q D dA ro A nL B ad0 n0 ra KF SF pc (o_put ci kk ok (pc + 3)) := by
  obtain ⟨hx, hb, hml, hown, hts, hr, hlk, hnm, hK, hRO, hA, hfr, hlo, hKF, hSF, hxt, hst⟩ := X
  intro σ L k σ' L' k' pc' h hcl hn0 hF G ad H locs cells slots ls hP hD hS hc hs hl had
  simp only [o_put] at h
  split at h
  · rename_i v p r
    split at h
    · rename_i cj fs he0
      split at h
      · rename_i hcj
        obtain ⟨hcj, hov, hlen⟩ := hcj
        subst hcj
        cases h
        have e0 : (ae_w ad ro dA σ.2).set p (ad p, .inr (cj, (fs.map (ae_v ad ro)).set kk (ae_v ad ro v))) = ae_w ad ro dA (σ.2.set p (.inr (cj, fs.set kk v))) := by
          rw [← ae_w_set]
          simp [ae_c, List.map_set]
        exact va_putN (D := D) (v := ae_v ad ro v) hx hb hts hin ty0 hty hnm0 hown hK hP hD hS p (ae_w_get he0) hci kk hkN (hts _ hw) (fun _ z => z) hfin hd (hok v ad ro hov).1 (hok v ad ro hov).2 (by simpa using hlen) hdg (fun H1 locs1 hP1 hD1 hS1 => G ad H1 locs1 cells slots ls (e0 ▸ hP1) (e0 ▸ hD1) hS1 hc hs hl had)
      · cases h
    · cases h
  · cases h
theorem ok_putF (X : ae_X p l e R s m args below meth c D dA ro A B ra own nm cc nL ret KF SF d hd) {C : String} {T : u_T} {N ci kk index : Nat} (hci : classes[ci]? = some (C, T, N)) (hin : ∀ w ∈ u_ws C T N, w ∈ aw_all) (hkN : kk < N) (hw : Jvm.Cond.fieldLink own index (T kk).1 (T kk).2.1 (T kk).2.2.1 ∈ aw_all) (ty0 : Nat → FieldType) (hty : ∀ k, k < N → parseFieldDescriptor (T k).2.2.1 = some (ty0 k)) (hnm0 : ∀ a, a < N → ∀ b, b < N → a ≠ b → (T a).2.1 ≠ (T b).2.1) {ok : Value → Bool} {ty : FieldType} (hd : parseFieldDescriptor (T kk).2.2.1 = some ty) (hok : ∀ (v : Value) (ad ro : Nat → Nat), ok v = true → narrow ty (ae_v ad ro v) = ae_v ad ro v ∧ fits ty (ae_v ad ro v) = true) (hfin : (T kk).2.2.2 = true) (hini0 : nm = "<init>") (hdec : (T kk).1 = own) (hdg : decode cc pc = .ok (.putfield index, 3)) : ae_Ok p l e R s m args below meth c Q D dA ro A nL B ad0 n0 ra KF SF pc (o_put ci kk ok (pc + 3)) := by
  obtain ⟨hx, hb, hml, hown, hts, hr, hlk, hnm, hK, hRO, hA, hfr, hlo, hKF, hSF, hxt, hst⟩ := X
  intro σ L k σ' L' k' pc' h hcl hn0 hF G ad H locs cells slots ls hP hD hS hc hs hl had
  simp only [o_put] at h
  split at h
  · rename_i v p r
    split at h
    · rename_i cj fs he0
      split at h
      · rename_i hcj
        obtain ⟨hcj, hov, hlen⟩ := hcj
        subst hcj
        cases h
        have e0 : (ae_w ad ro dA σ.2).set p (ad p, .inr (cj, (fs.map (ae_v ad ro)).set kk (ae_v ad ro v))) = ae_w ad ro dA (σ.2.set p (.inr (cj, fs.set kk v))) := by
          rw [← ae_w_set]
          simp [ae_c, List.map_set]
        exact va_putF (D := D) (v := ae_v ad ro v) hx hb hts hin ty0 hty hnm0 hown hK hP hD hS p (ae_w_get he0) hci kk hkN (hts _ hw) (fun _ z => z) hfin (hnm.trans hini0) hdec hd (hok v ad ro hov).1 (hok v ad ro hov).2 (by simpa using hlen) hdg (fun H1 locs1 hP1 hD1 hS1 => G ad H1 locs1 cells slots ls (e0 ▸ hP1) (e0 ▸ hD1) hS1 hc hs hl had)
      · cases h
    · cases h
  · cases h
theorem ok_ia (X : ae_X p l e R s m args below meth c D dA ro A B ra own nm cc nL ret KF SF d hd)  (hdg : decode cc pc = .ok (.iaload, 1)) : ae_Ok p l e R s m args below meth c Q D dA ro A nL B ad0 n0 ra KF SF pc (o_ia (pc + 1)) := by
  obtain ⟨hx, hb, hml, hown, hts, hr, hlk, hnm, hK, hRO, hA, hfr, hlo, hKF, hSF, hxt, hst⟩ := X
  intro σ L k σ' L' k' pc' h hcl hn0 hF G ad H locs cells slots ls hP hD hS hc hs hl had
  simp only [o_ia] at h
  split at h
  · rename_i i p r
    split at h
    · rename_i t n f he0
      split at h
      · rename_i hq
        obtain ⟨hq0, hq⟩ := hq
        subst hq0
        cases h
        exact va_iald hx hb hK hP p 0 (ae_w_get he0) rfl hq hdg (G ad H locs cells slots ls hP hD hS hc hs hl had)
      · cases h
    · cases h
  · rename_i i q r
    split at h
    · rename_i hq
      cases h
      exact va_ti hx hb (hRO.1 q hq.1) hS hq.2 rfl hdg (G ad H locs cells slots ls hP hD hS hc hs hl had)
    · cases h
  · cases h
theorem ok_la (X : ae_X p l e R s m args below meth c D dA ro A B ra own nm cc nL ret KF SF d hd)  (hdg : decode cc pc = .ok (.laload, 1)) : ae_Ok p l e R s m args below meth c Q D dA ro A nL B ad0 n0 ra KF SF pc (o_la (pc + 1)) := by
  obtain ⟨hx, hb, hml, hown, hts, hr, hlk, hnm, hK, hRO, hA, hfr, hlo, hKF, hSF, hxt, hst⟩ := X
  intro σ L k σ' L' k' pc' h hcl hn0 hF G ad H locs cells slots ls hP hD hS hc hs hl had
  simp only [o_la] at h
  split at h
  · rename_i i p r
    split at h
    · rename_i t n f he0
      split at h
      · rename_i hq
        obtain ⟨hq0, hq⟩ := hq
        subst hq0
        cases h
        exact va_lald hx hb hK hP p 3 (ae_w_get he0) rfl hq hdg (G ad H locs cells slots ls hP hD hS hc hs hl had)
      · cases h
    · cases h
  · cases h
theorem ok_ba (X : ae_X p l e R s m args below meth c D dA ro A B ra own nm cc nL ret KF SF d hd)  (hdg : decode cc pc = .ok (.baload, 1)) : ae_Ok p l e R s m args below meth c Q D dA ro A nL B ad0 n0 ra KF SF pc (o_ba (pc + 1)) := by
  obtain ⟨hx, hb, hml, hown, hts, hr, hlk, hnm, hK, hRO, hA, hfr, hlo, hKF, hSF, hxt, hst⟩ := X
  intro σ L k σ' L' k' pc' h hcl hn0 hF G ad H locs cells slots ls hP hD hS hc hs hl had
  simp only [o_ba] at h
  split at h
  · rename_i i p r
    split at h
    · rename_i t n f he0
      split at h
      · rename_i hq
        obtain ⟨hq0, hq⟩ := hq
        cases h
        rcases hq0 with hq0 | hq0
        · subst hq0
          exact va_bald hx hb hK hP p 1 (ae_w_get he0) rfl hq hdg (G ad H locs cells slots ls hP hD hS hc hs hl had)
        · subst hq0
          exact va_zald hx hb hK hP p 2 (ae_w_get he0) rfl hq hdg (G ad H locs cells slots ls hP hD hS hc hs hl had)
      · cases h
    · cases h
  · cases h
theorem ae_ty_o (dA : Nat → ClassId) {t : Nat} (h : 4 ≤ t ∧ t < 10) : ∃ r : vw_C, classes[ae_ec t]? = some r ∧ (ae_ty dA)[t]? = some (dA t, .object r.1) := by
  have h1 : t = 4 ∨ t = 5 ∨ t = 6 ∨ t = 7 ∨ t = 8 ∨ t = 9 := by omega
  rcases h1 with h1 | h1 | h1 | h1 | h1 | h1 <;> subst h1 <;> exact ⟨_, rfl, rfl⟩
theorem ae_ty_a (dA : Nat → ClassId) {t : Nat} (h : t < 10) : ∃ ty, (ae_ty dA)[t]? = some (dA t, ty) := by
  have h1 : t = 0 ∨ t = 1 ∨ t = 2 ∨ t = 3 ∨ t = 4 ∨ t = 5 ∨ t = 6 ∨ t = 7 ∨ t = 8 ∨ t = 9 := by omega
  rcases h1 with h1 | h1 | h1 | h1 | h1 | h1 | h1 | h1 | h1 | h1 <;> subst h1 <;> exact ⟨_, rfl⟩

theorem ok_aa (X : ae_X p l e R s m args below meth c D dA ro A B ra own nm cc nL ret KF SF d hd)  (hdg : decode cc pc = .ok (.aaload, 1)) : ae_Ok p l e R s m args below meth c Q D dA ro A nL B ad0 n0 ra KF SF pc (o_aa (pc + 1)) := by
  obtain ⟨hx, hb, hml, hown, hts, hr, hlk, hnm, hK, hRO, hA, hfr, hlo, hKF, hSF, hxt, hst⟩ := X
  intro σ L k σ' L' k' pc' h hcl hn0 hF G ad H locs cells slots ls hP hD hS hc hs hl had
  simp only [o_aa] at h
  split at h
  · rename_i i p r
    split at h
    · rename_i t n f he0
      split at h
      · rename_i hq
        cases h
        obtain ⟨r0, -, ht0⟩ := ae_ty_o dA hq.1
        have G2 := (G ad H locs cells slots ls hP hD hS hc hs hl had)
        simp only [List.map_cons, ae_rf] at G2
        exact va_aldq hx hb hK hP p t (ae_w_get he0) ht0 hq.2 hdg G2
      · cases h
    · cases h
  · cases h
theorem ok_ias (X : ae_X p l e R s m args below meth c D dA ro A B ra own nm cc nL ret KF SF d hd)  (hdg : decode cc pc = .ok (.iastore, 1)) : ae_Ok p l e R s m args below meth c Q D dA ro A nL B ad0 n0 ra KF SF pc (o_ias (pc + 1)) := by
  obtain ⟨hx, hb, hml, hown, hts, hr, hlk, hnm, hK, hRO, hA, hfr, hlo, hKF, hSF, hxt, hst⟩ := X
  intro σ L k σ' L' k' pc' h hcl hn0 hF G ad H locs cells slots ls hP hD hS hc hs hl had
  simp only [o_ias] at h
  split at h
  · rename_i x i p r
    split at h
    · rename_i t n f he0
      split at h
      · rename_i hq
        obtain ⟨hq0, hq⟩ := hq
        subst hq0
        cases h
        have e0 := ae_w_set ad ro dA σ.2 p (.inl (0, n, .inl (upd f i.toNatClampNeg x)))
        exact va_iast hx hb hK hP hD hS p 0 (ae_w_get he0) rfl hq hdg (fun H1 locs1 hP1 hD1 hS1 => G ad H1 locs1 cells slots ls (e0 ▸ hP1) (e0 ▸ hD1) hS1 hc hs hl had)
      · cases h
    · cases h
  · cases h
theorem ok_las (X : ae_X p l e R s m args below meth c D dA ro A B ra own nm cc nL ret KF SF d hd)  (hdg : decode cc pc = .ok (.lastore, 1)) : ae_Ok p l e R s m args below meth c Q D dA ro A nL B ad0 n0 ra KF SF pc (o_las (pc + 1)) := by
  obtain ⟨hx, hb, hml, hown, hts, hr, hlk, hnm, hK, hRO, hA, hfr, hlo, hKF, hSF, hxt, hst⟩ := X
  intro σ L k σ' L' k' pc' h hcl hn0 hF G ad H locs cells slots ls hP hD hS hc hs hl had
  simp only [o_las] at h
  split at h
  · rename_i x i p r
    split at h
    · rename_i t n f he0
      split at h
      · rename_i hq
        obtain ⟨hq0, hq⟩ := hq
        subst hq0
        cases h
        have e0 := ae_w_set ad ro dA σ.2 p (.inl (3, n, .inr (.inl (vp_updL f i.toNatClampNeg x))))
        exact va_last hx hb hK hP hD hS p 3 (ae_w_get he0) rfl hq hdg (fun H1 locs1 hP1 hD1 hS1 => G ad H1 locs1 cells slots ls (e0 ▸ hP1) (e0 ▸ hD1) hS1 hc hs hl had)
      · cases h
    · cases h
  · cases h
theorem ok_bas (X : ae_X p l e R s m args below meth c D dA ro A B ra own nm cc nL ret KF SF d hd)  (hdg : decode cc pc = .ok (.bastore, 1)) : ae_Ok p l e R s m args below meth c Q D dA ro A nL B ad0 n0 ra KF SF pc (o_bas (pc + 1)) := by
  obtain ⟨hx, hb, hml, hown, hts, hr, hlk, hnm, hK, hRO, hA, hfr, hlo, hKF, hSF, hxt, hst⟩ := X
  intro σ L k σ' L' k' pc' h hcl hn0 hF G ad H locs cells slots ls hP hD hS hc hs hl had
  simp only [o_bas] at h
  split at h
  · rename_i x i p r
    split at h
    · rename_i t n f he0
      split at h
      · rename_i hq
        split at h
        · rename_i hq0
          subst hq0
          cases h
          have e0 := ae_w_set ad ro dA σ.2 p (.inl (1, n, .inl (upd f i.toNatClampNeg (vp_nar .byte x))))
          exact va_bast hx hb hK hP hD hS p 1 (ae_w_get he0) rfl hq hdg (fun H1 locs1 hP1 hD1 hS1 => G ad H1 locs1 cells slots ls (e0 ▸ hP1) (e0 ▸ hD1) hS1 hc hs hl had)
        · split at h
          · rename_i hq0
            subst hq0
            cases h
            have e0 := ae_w_set ad ro dA σ.2 p (.inl (2, n, .inl (upd f i.toNatClampNeg (vp_nar .boolean x))))
            exact va_zast hx hb hK hP hD hS p 2 (ae_w_get he0) rfl hq hdg (fun H1 locs1 hP1 hD1 hS1 => G ad H1 locs1 cells slots ls (e0 ▸ hP1) (e0 ▸ hD1) hS1 hc hs hl had)
          · cases h
      · cases h
    · cases h
  · cases h
theorem ok_aas (X : ae_X p l e R s m args below meth c D dA ro A B ra own nm cc nL ret KF SF d hd)  (hdg : decode cc pc = .ok (.aastore, 1)) : ae_Ok p l e R s m args below meth c Q D dA ro A nL B ad0 n0 ra KF SF pc (o_aas (pc + 1)) := by
  obtain ⟨hx, hb, hml, hown, hts, hr, hlk, hnm, hK, hRO, hA, hfr, hlo, hKF, hSF, hxt, hst⟩ := X
  intro σ L k σ' L' k' pc' h hcl hn0 hF G ad H locs cells slots ls hP hD hS hc hs hl had
  simp only [o_aas] at h
  split at h
  · rename_i q i p r
    split at h
    · rename_i t n f ci vs he0 he1
      split at h
      · rename_i hq
        obtain ⟨⟨hq1, hq2, hq3⟩, hq⟩ := hq
        cases h
        obtain ⟨r0, hr0, ht0⟩ := ae_ty_o dA ⟨hq1, hq2⟩
        have e0 := ae_w_set ad ro dA σ.2 p (.inl (t, n, .inr (.inr (.inr (.inr (va_up f i.toNatClampNeg (some q)))))))
        simp only [ae_c, ae_a, ae_upm, Option.map_some] at e0
        exact va_astq hx hb hK hP hD hS p t q ci (ae_w_get he0) ht0 (ae_w_get he1) (hq3 ▸ hr0) hq hdg (fun H1 locs1 hP1 hD1 hS1 => G ad H1 locs1 cells slots ls (e0 ▸ hP1) (e0 ▸ hD1) hS1 hc hs hl had)
      · cases h
    · cases h
  · rename_i i p r
    split at h
    · rename_i t n f he0
      split at h
      · rename_i hq
        cases h
        obtain ⟨r0, hr0, ht0⟩ := ae_ty_o dA hq.1
        have e0 := ae_w_set ad ro dA σ.2 p (.inl (t, n, .inr (.inr (.inr (.inr (va_up f i.toNatClampNeg none))))))
        simp only [ae_c, ae_a, ae_upm, Option.map_none] at e0
        exact va_astqN hx hb hK hP hD hS p t (ae_w_get he0) ht0 hq.2 hdg (fun H1 locs1 hP1 hD1 hS1 => G ad H1 locs1 cells slots ls (e0 ▸ hP1) (e0 ▸ hD1) hS1 hc hs hl had)
      · cases h
    · cases h
  · cases h
theorem ok_len (X : ae_X p l e R s m args below meth c D dA ro A B ra own nm cc nL ret KF SF d hd)  (hdg : decode cc pc = .ok (.arraylength, 1)) : ae_Ok p l e R s m args below meth c Q D dA ro A nL B ad0 n0 ra KF SF pc (o_len (pc + 1)) := by
  obtain ⟨hx, hb, hml, hown, hts, hr, hlk, hnm, hK, hRO, hA, hfr, hlo, hKF, hSF, hxt, hst⟩ := X
  intro σ L k σ' L' k' pc' h hcl hn0 hF G ad H locs cells slots ls hP hD hS hc hs hl had
  simp only [o_len] at h
  split at h
  · rename_i p r
    split at h
    · rename_i t n x he0
      split at h
      · rename_i hq
        cases h
        obtain ⟨ty, ht0⟩ := ae_ty_a dA hq
        exact va_alen hx hb hK hP p t (ae_w_get he0) ht0 rfl hdg (G ad H locs cells slots ls hP hD hS hc hs hl had)
      · cases h
    · cases h
  · rename_i q r
    split at h
    · rename_i hq
      cases h
      exact va_tlen hx hb (hRO.1 q hq) hS rfl hdg (G ad H locs cells slots ls hP hD hS hc hs hl had)
    · cases h
  · cases h
theorem ok_new (X : ae_X p l e R s m args below meth c D dA ro A B ra own nm cc nL ret KF SF d hd) {C : String} {T : u_T} {N ci index : Nat} {fs : List Value} (hci : classes[ci]? = some (C, T, N)) (hin : ∀ w ∈ u_ws C T N, w ∈ aw_all) (ty0 : Nat → FieldType) (hty : ∀ k, k < N → parseFieldDescriptor (T k).2.2.1 = some (ty0 k)) (hw1 : Jvm.Cond.classLink own index C ∈ aw_all) (hw2 : Jvm.Cond.instantiable C N ∈ aw_all) (hw3 : Jvm.Cond.initialized C ∈ aw_all) (hfs : ∀ j, j < N → defaultValue (ty0 j) = vp_V fs j) (hfc : ∀ ad ro : Nat → Nat, fs.map (ae_v ad ro) = fs) (hfl : ∀ n, ∀ v ∈ fs, ae_cv n v) (hdg : decode cc pc = .ok (.new index, 3)) : ae_Ok p l e R s m args below meth c Q D dA ro A nL B ad0 n0 ra KF SF pc (o_new ci N fs (pc + 3)) := by
  obtain ⟨hx, hb, hml, hown, hts, hr, hlk, hnm, hK, hRO, hA, hfr, hlo, hKF, hSF, hxt, hst⟩ := X
  intro σ L k σ' L' k' pc' h hcl hn0 hF G ad H locs cells slots ls hP hD hS hc hs hl had
  simp only [o_new] at h
  cases h
  have hF1 : σ.1.1 + 1 ≤ KF := hF.1
  have hF2 : σ.1.2 + N ≤ SF := hF.2
  refine va_new (D := D) (c0 := c) hx hb hts hin ty0 hty hown (hts _ hw1) (hts _ hw2) (hts _ hw3) hK hP hD hS hA hci (fs := fs) hfs (by omega) (by omega) hdg (fun q H1 hP1 hD1 hS1 => ?_)
  have e0 := ae_w_push (ad := ad) (ro := ro) (dA := dA) q (.inr (ci, fs)) hcl.1 (hfl _)
  simp only [ae_c, hfc] at e0
  have e3 : (Value.ref σ.2.length :: k).map (ae_v (ae_up ad σ.2.length q) ro) = .ref q :: k.map (ae_v ad ro) := by
    rw [List.map_cons, ae_k_eq ae_up_lt hcl.2.2]
    simp [ae_v, ae_up_self]
  have G2 := G (ae_up ad σ.2.length q) H1 locs (cells + 1) (slots + N) ls (by rw [e0]; exact hP1) (by rw [e0]; exact hD1) hS1 (by show B.1 + (cells + 1) = σ.1.1 + 1; omega) (by show B.2 + (slots + N) = σ.1.2 + N; omega) (ae_L_up ae_up_lt hcl.2.1 hl) (fun z hz => by rw [ae_up_lt z (by omega)]; exact had z hz)
  rw [e3] at G2
  exact G2
theorem ok_na (X : ae_X p l e R s m args below meth c D dA ro A B ra own nm cc nL ret KF SF d hd) {atype : ArrayType} {t : Nat} {ty : FieldType} (hat : newarray.typeOf atype = ty) (htt : ∀ dA : Nat → ClassId, (ae_ty dA)[t]? = some (dA t, ty)) (hw : Jvm.Cond.arrayClass (newarray.typeOf atype) ∈ aw_all) (hz : ∀ (cA : ClassId) (n : Nat), vp_cell cA (ae_zero t n) = arrV cA n (fun _ => defaultValue ty)) (hcb : componentBytes ty ≤ 8) (hza : ∀ (ad : Nat → Nat) (n : Nat), ae_a ad (ae_zero t n) = ae_zero t n) (hdg : decode cc pc = .ok (.newarray atype, 2)) : ae_Ok p l e R s m args below meth c Q D dA ro A nL B ad0 n0 ra KF SF pc (o_na t (pc + 2)) := by
  obtain ⟨hx, hb, hml, hown, hts, hr, hlk, hnm, hK, hRO, hA, hfr, hlo, hKF, hSF, hxt, hst⟩ := X
  intro σ L k σ' L' k' pc' h hcl hn0 hF G ad H locs cells slots ls hP hD hS hc hs hl had
  simp only [o_na] at h
  split at h
  case h_2 => cases h
  rename_i i r
  split at h
  case isFalse => cases h
  rename_i hq
  cases h
  have hF1 : σ.1.1 + 1 ≤ KF := hF.1
  have hF2 : σ.1.2 + i.toNatClampNeg ≤ SF := hF.2
  refine va_newa (D := D) hx hb (hts _ hw) hat hK hP hD hS hA (a0 := ae_zero t i.toNatClampNeg) (fun cA => hz cA _) hq.1 rfl (Nat.le_trans (Nat.mul_le_mul_left _ hcb) hq.2) (by omega) (by omega) hdg (fun q cA H1 hK1 hP1 hD1 hS1 => ?_)
  have hcA : cA = dA t := ae_uq (hK1.2 (ae_ty dA).length (cA, ty) (by simp)).2 (hK.2 t _ (htt dA)).2
  subst hcA
  have e0 := ae_w_push (ad := ad) (ro := ro) (dA := dA) q (.inl (t, ae_zero t i.toNatClampNeg)) hcl.1 (cc_zero _ _ _)
  simp only [ae_c, hza] at e0
  have e3 : (Value.ref σ.2.length :: r).map (ae_v (ae_up ad σ.2.length q) ro) = .ref q :: r.map (ae_v ad ro) := by
    rw [List.map_cons, ae_k_eq ae_up_lt (ck_t hcl.2.2)]
    simp [ae_v, ae_up_self]
  have G2 := G (ae_up ad σ.2.length q) H1 locs (cells + 1) (slots + i.toNatClampNeg) ls (by rw [e0]; exact hP1) (by rw [e0]; exact hD1) hS1 (by show B.1 + (cells + 1) = σ.1.1 + 1; omega) (by show B.2 + (slots + i.toNatClampNeg) = σ.1.2 + i.toNatClampNeg; omega) (ae_L_up ae_up_lt hcl.2.1 hl) (fun z hz => by rw [ae_up_lt z (by omega)]; exact had z hz)
  rw [e3] at G2
  exact G2
theorem ok_nq (X : ae_X p l e R s m args below meth c D dA ro A B ra own nm cc nL ret KF SF d hd) {t index : Nat} {C : String} (htt : ∀ dA : Nat → ClassId, (ae_ty dA)[t]? = some (dA t, .object C)) (hw1 : Jvm.Cond.classLink own index C ∈ aw_all) (hw2 : Jvm.Cond.arrayOver (.object C) ∈ aw_all) (hdg : decode cc pc = .ok (.anewarray index, 3)) : ae_Ok p l e R s m args below meth c Q D dA ro A nL B ad0 n0 ra KF SF pc (o_nq t (pc + 3)) := by
  obtain ⟨hx, hb, hml, hown, hts, hr, hlk, hnm, hK, hRO, hA, hfr, hlo, hKF, hSF, hxt, hst⟩ := X
  intro σ L k σ' L' k' pc' h hcl hn0 hF G ad H locs cells slots ls hP hD hS hc hs hl had
  simp only [o_nq] at h
  split at h
  case h_2 => cases h
  rename_i i r
  split at h
  case isFalse => cases h
  rename_i hq
  cases h
  have hF1 : σ.1.1 + 1 ≤ KF := hF.1
  have hF2 : σ.1.2 + i.toNatClampNeg ≤ SF := hF.2
  refine va_newq (D := D) hx hb hown (hts _ hw1) (va_AO.of (hts _ hw2)) hK hP hD hS hA hq.1 rfl (by omega) (by omega) (by omega) hdg (fun q cA H1 hK1 hP1 hD1 hS1 => ?_)
  have hcA : cA = dA t := ae_uq (hK1.2 (ae_ty dA).length (cA, .object C) (by simp)).2 (hK.2 t _ (htt dA)).2
  subst hcA
  have e0 := ae_w_push (ad := ad) (ro := ro) (dA := dA) q (.inl (t, i.toNatClampNeg, .inr (.inr (.inr (.inr (fun _ => none)))))) hcl.1 (fun i p hp => by cases hp)
  simp only [ae_c, ae_a, Option.map_none] at e0
  have e3 : (Value.ref σ.2.length :: r).map (ae_v (ae_up ad σ.2.length q) ro) = .ref q :: r.map (ae_v ad ro) := by
    rw [List.map_cons, ae_k_eq ae_up_lt (ck_t hcl.2.2)]
    simp [ae_v, ae_up_self]
  have G2 := G (ae_up ad σ.2.length q) H1 locs (cells + 1) (slots + i.toNatClampNeg) ls (by rw [e0]; exact hP1) (by rw [e0]; exact hD1) hS1 (by show B.1 + (cells + 1) = σ.1.1 + 1; omega) (by show B.2 + (slots + i.toNatClampNeg) = σ.1.2 + i.toNatClampNeg; omega) (ae_L_up ae_up_lt hcl.2.1 hl) (fun z hz => by rw [ae_up_lt z (by omega)]; exact had z hz)
  rw [e3] at G2
  exact G2
theorem ok_oi (X : ae_X p l e R s m args below meth c D dA ro A B ra own nm cc nL ret KF SF d hd) {index : Nat} (hw1 : Jvm.Cond.methodLink own index Lib.objectInit ∈ aw_all) (hw2 : Jvm.Cond.instanceMethod Lib.objectInit ∈ aw_all) (hw3 : Jvm.Cond.code Lib.objectInit ⟨#[0xb1]⟩ 1 none ∈ aw_all) (hdg : decode cc pc = .ok (.invokespecial index, 3)) : ae_Ok p l e R s m args below meth c Q D dA ro A nL B ad0 n0 ra KF SF pc (o_oi (pc + 3)) := by
  obtain ⟨hx, hb, hml, hown, hts, hr, hlk, hnm, hK, hRO, hA, hfr, hlo, hKF, hSF, hxt, hst⟩ := X
  intro σ L k σ' L' k' pc' h hcl hn0 hF G ad H locs cells slots ls hP hD hS hc hs hl had
  simp only [o_oi] at h
  split at h
  · rename_i p r
    split at h
    · rename_i hq
      cases h
      have hq2 : ((k'.map (ae_v ad ro)).map fun v => v.category).sum ≤ 8 := by rw [ae_cat_map]; exact hq
      have hq3 := lv_room (m := m) (pc := pc) (ls := ls) (rest := (Value.ref p :: k').map (ae_v ad ro)) hq2
      exact W.objInit hx hb hown (hts _ hw1) (hts _ hw2) (hts _ hw3) rfl (hl.2.1.trans hml.symm) (a := ad p) (rest := k'.map (ae_v ad ro)) rfl hdg (by omega) (by omega) (G ad H locs cells slots ls hP hD hS hc hs hl had)
    · cases h
  · cases h
theorem ok_mn (X : ae_X p l e R s m args below meth c D dA ro A B ra own nm cc nL ret KF SF d hd) {index : Nat} (hw1 : Jvm.Cond.methodLink own index Lib.Math.min.name ∈ aw_all) (hw2 : Jvm.Cond.static Lib.Math.min.name ∈ aw_all) (hw3 : Jvm.Cond.initialized "java/lang/Math" ∈ aw_all) (hw4 : Jvm.Cond.code Lib.Math.min.name Lib.Math.min.code 2 (some .int) ∈ aw_all) (hdg : decode cc pc = .ok (.invokestatic index, 3)) : ae_Ok p l e R s m args below meth c Q D dA ro A nL B ad0 n0 ra KF SF pc (o_mn (pc + 3)) := by
  obtain ⟨hx, hb, hml, hown, hts, hr, hlk, hnm, hK, hRO, hA, hfr, hlo, hKF, hSF, hxt, hst⟩ := X
  intro σ L k σ' L' k' pc' h hcl hn0 hF G ad H locs cells slots ls hP hD hS hc hs hl had
  simp only [o_mn] at h
  split at h
  · rename_i y x r
    split at h
    · rename_i hq
      cases h
      have hq2 : ((r.map (ae_v ad ro)).map fun v => v.category).sum ≤ 8 := by rw [ae_cat_map]; exact hq
      have hF1 : σ.1.1 ≤ KF := hF.1
      have hF2 : σ.1.2 ≤ SF := hF.2
      exact va_mmin hx hb (hml.trans hl.2.1.symm) hown (hts _ hw1) (hts _ hw2) (hts _ hw3) (hts _ hw4) (by omega) (by omega) (by omega) (by omega) hdg (G ad H locs cells slots ls hP hD hS hc hs hl had)
    · cases h
  · cases h
theorem ok_mx (X : ae_X p l e R s m args below meth c D dA ro A B ra own nm cc nL ret KF SF d hd) {index : Nat} (hw1 : Jvm.Cond.methodLink own index Lib.Math.max.name ∈ aw_all) (hw2 : Jvm.Cond.static Lib.Math.max.name ∈ aw_all) (hw3 : Jvm.Cond.initialized "java/lang/Math" ∈ aw_all) (hw4 : Jvm.Cond.code Lib.Math.max.name Lib.Math.max.code 2 (some .int) ∈ aw_all) (hdg : decode cc pc = .ok (.invokestatic index, 3)) : ae_Ok p l e R s m args below meth c Q D dA ro A nL B ad0 n0 ra KF SF pc (o_mx (pc + 3)) := by
  obtain ⟨hx, hb, hml, hown, hts, hr, hlk, hnm, hK, hRO, hA, hfr, hlo, hKF, hSF, hxt, hst⟩ := X
  intro σ L k σ' L' k' pc' h hcl hn0 hF G ad H locs cells slots ls hP hD hS hc hs hl had
  simp only [o_mx] at h
  split at h
  · rename_i y x r
    split at h
    · rename_i hq
      cases h
      have hq2 : ((r.map (ae_v ad ro)).map fun v => v.category).sum ≤ 8 := by rw [ae_cat_map]; exact hq
      have hF1 : σ.1.1 ≤ KF := hF.1
      have hF2 : σ.1.2 ≤ SF := hF.2
      exact va_mmax hx hb (hml.trans hl.2.1.symm) hown (hts _ hw1) (hts _ hw2) (hts _ hw3) (hts _ hw4) (by omega) (by omega) (by omega) (by omega) hdg (G ad H locs cells slots ls hP hD hS hc hs hl had)
    · cases h
  · cases h
theorem ok_cp (X : ae_X p l e R s m args below meth c D dA ro A B ra own nm cc nL ret KF SF d hd) {index : Nat} (hw1 : Jvm.Cond.methodLink own index arraycopyName ∈ aw_all) (hw2 : Jvm.Cond.native arraycopyName ∈ aw_all) (hw3 : Jvm.Cond.static arraycopyName ∈ aw_all) (hw4 : Jvm.Cond.initialized "java/lang/System" ∈ aw_all) (hnf : nativeFrameWords "java/lang/System" "arraycopy" 5 ≤ 21) (hdg : decode cc pc = .ok (.invokestatic index, 3)) : ae_Ok p l e R s m args below meth c Q D dA ro A nL B ad0 n0 ra KF SF pc (o_cp (pc + 3)) := by
  obtain ⟨hx, hb, hml, hown, hts, hr, hlk, hnm, hK, hRO, hA, hfr, hlo, hKF, hSF, hxt, hst⟩ := X
  intro σ L k σ' L' k' pc' h hcl hn0 hF G ad H locs cells slots ls hP hD hS hc hs hl had
  simp only [o_cp] at h
  split at h
  · rename_i n dp p sp q r
    split at h
    · rename_i t0 na f t1 nb g he0 he1
      split at h
      · rename_i hq
        obtain ⟨⟨hq0, hq1, hqc⟩, ⟨hs1, hs2, hs3⟩, hs4, hs5, hs6⟩ := hq
        subst hq0
        subst hq1
        cases h
        have hq2 : ((k'.map (ae_v ad ro)).map fun v => v.category).sum ≤ 8 := by rw [ae_cat_map]; exact hqc
        have e0 := ae_w_set ad ro dA σ.2 p (.inl (1, nb, .inl (va_cpy f g sp.toNatClampNeg dp.toNatClampNeg n.toNatClampNeg)))
        exact va_copyi hx hb (hml.trans hl.2.1.symm) hown (hts _ hw1) (hts _ hw2) (hts _ hw3) (hts _ hw4) hK hP hD hS q p 1 1 (ae_w_get he0) (ae_w_get he1) rfl rfl rfl hs1 hs2 hs3 hs4 hs5 hs6 (by omega) (by omega) hdg (fun H1 locs1 hP1 hD1 hS1 => G ad H1 locs1 cells slots ls (e0 ▸ hP1) (e0 ▸ hD1) hS1 hc hs hl had)
      · cases h
    · cases h
  · cases h
theorem ok_gst (X : ae_X p l e R s m args below meth c D dA ro A B ra own nm cc nL ret KF SF d hd) {q : Nat} {C n dd : String} {index : Nat} (hz : va_Z C n dd (.ref (ro q)) A s s.heap) (hw : Jvm.Cond.fieldLink own index C n dd ∈ aw_all) (hdg : decode cc pc = .ok (.getstatic index, 3)) : ae_Ok p l e R s m args below meth c Q D dA ro A nL B ad0 n0 ra KF SF pc (o_push (.retAddr q) (pc + 3)) := by
  obtain ⟨hx, hb, hml, hown, hts, hr, hlk, hnm, hK, hRO, hA, hfr, hlo, hKF, hSF, hxt, hst⟩ := X
  intro σ L k σ' L' k' pc' h hcl hn0 hF G ad H locs cells slots ls hP hD hS hc hs hl had
  simp only [o_push] at h
  cases h
  exact va_gets hx hb hz hS hown (hts _ hw) (fun _ z => z) hdg (G ad H locs cells slots ls hP hD hS hc hs hl had)
end AEH
end
section
section AEC
abbrev ae_K : Type := Nat × Nat × Nat × Option Nat × List (Nat × Nat × Nat)
abbrev ae_I : Type := ae_Op ⊕ (Option (Value → Bool) ⊕ (ae_K ⊕ (Nat × Nat × Nat)))
abbrev ae_O : Type := Option Value ⊕ Nat
abbrev ae_Ev : Type := Nat → List Value → ae_S → Option (ae_S × ae_O)
abbrev ae_Q4 : Type := MethodName × ByteArray × Nat × Option FieldType × List (Nat × Nat × Nat × Nat)
abbrev ae_Am : Type := Nat → ae_Q4
/-- a method's own code word, with its handlers where it has some -/
def ae_cw (q : ae_Q4) : Cond := match q.2.2.2.2 with
  | [] => .code q.1 q.2.1 q.2.2.1 q.2.2.2.1
  | z :: zs => .codeWith q.1 q.2.1 q.2.2.1 q.2.2.2.1 (z :: zs)
abbrev ae_At : Type := Nat → List (Nat × ae_I)
def ae_tab (t : List (Nat × ae_I)) (pc : Nat) : Option ae_I := (t.find? (fun q => q.1 == pc)).map (fun q => q.2)
/-- the receiver is an object of that class -/
def ae_rcv (σ : ae_S) : Option Nat → List Value → Bool
  | none, _ => true
  | some ci, .ref p :: _ => (match σ.2[p]? with
    | some (.inr (cj, _)) => cj == ci
    | _ => false)
  | some _, _ => false
def ae_run (ra : ae_R) (t : List (Nat × ae_I)) (E : ae_Ev) (th : Bool) : Nat → ae_S → ae_Ls → List Value → Nat → Option (ae_S × ae_O)
  | 0, _, _, _, _ => none
  | n + 1, σ, L, k, pc => match ae_tab t pc with
    | none => none
    | some (.inl f) => (match f ra σ L k with
      | none => none
      | some (σ', L', k', pc') => ae_run ra t E th n σ' L' k' pc')
    | some (.inr (.inl none)) => (match k with
      | [] => some (σ, .inl none)
      | _ => none)
    | some (.inr (.inl (some ok))) => (match k with
      | [v] => if ok v = true then some (σ, .inl (some v)) else none
      | _ => none)
    | some (.inr (.inr (.inl (mid, na, np, rc, hs)))) =>
      if na ≤ k.length ∧ ae_cat (k.drop na) ≤ 8 ∧ ae_rcv σ rc (k.take na).reverse = true ∧ (k.take na).all (fun v => v.category == 1) = true then
        (match E mid (k.take na).reverse σ with
        | none => none
        | some (σ', .inl v) => ae_run ra t E th n σ' L (v.toList ++ k.drop na) np
        | some (σ', .inr x) => (match hs.find? (fun h => h.1 == x) with
          | none => none
          | some (_, hp, i) => ae_run ra t E th n σ' (L.set i none) [] hp))
      else none
    | some (.inr (.inr (.inr (x, c1, c2)))) => if th = true ∧ ae_cat k ≤ 8 then some (((σ.1.1 + c1, σ.1.2 + c2), σ.2), .inr x) else none
def ae_ent (args : List Value) (nL : Nat) : ae_Ls := args.map some ++ List.replicate (nL - args.length) none
def ae_ev (am : ae_Am) (at0 : ae_At) (ra : ae_R) : Nat → Nat → ae_Ev
  | 0, _ => fun _ _ _ => none
  | d + 1, n => fun mid args σ => if args.length ≤ (am mid).2.2.1 then ae_run ra (at0 mid) (ae_ev am at0 ra d n) (decide (5 ≤ d)) n σ (ae_ent args (am mid).2.2.1) [] 0 else none
def ae_pre (D : va_G) (dA : Nat → ClassId) (ro : Nat → Nat) (ra : ae_R) (ad : Nat → Nat) (σ : ae_S) (sz : Nat) (U : State) : Prop :=
  U.heap.size = sz ∧ va_P D classes (ae_w ad ro dA σ.2) U.heap ∧ va_K D classes (ae_ty dA) U ∧ va_D (fun _ => True) (ae_w ad ro dA σ.2) ∧ ae_RO ra ro (va_A (ae_w ad ro dA σ.2) sz) U U.heap ∧ (∀ w ∈ aw_all, w.before #[] U = true)
def ae_pst (D : va_G) (dA : Nat → ClassId) (ro : Nat → Nat) (ad : Nat → Nat) (σ : ae_S) (sz : Nat) (σ' : ae_S) (r : Option Value) : Array Value → State → Outcome → State → Prop := fun _ st oc t =>
  (∃ ad' : Nat → Nat, (∀ q, q < σ.2.length → ad' q = ad q) ∧ oc = .returned (r.map (ae_v ad' ro)) ∧ va_P D classes (ae_w ad' ro dA σ'.2) t.heap ∧ va_D (va_A (ae_w ad ro dA σ.2) sz) (ae_w ad' ro dA σ'.2)) ∧ va_F (va_A (ae_w ad ro dA σ.2) sz) st t
def ae_rm (d : Nat) (σ σ' : ae_S) : Room := { frames := d, cells := σ'.1.1 - σ.1.1, slots := σ'.1.2 - σ.1.2, locals := 40 * d }
def ae_M (l : Launch) (am : ae_Am) (ra : ae_R) (d mid : Nat) (args : List Value) (σ σ' : ae_S) (r : Option Value) : Prop :=
  ∀ (D : va_G) (dA : Nat → ClassId) (ro ad : Nat → Nat) (sz : Nat), Met l (am mid).1 [ae_cw (am mid)] (ae_rm d σ σ')
    (va_Pc (args.map (ae_v ad ro)) (ae_pre D dA ro ra ad σ sz)) (ae_pst D dA ro ad σ sz σ' r) (σ'.1.1 - σ.1.1) (σ'.1.2 - σ.1.2) (va_A (ae_w ad ro dA σ.2) sz)
def ae_xn (x : Nat) : String := if x = 0 then "java/lang/IllegalArgumentException" else "java/lang/IllegalStateException"
/-- what a throw leaves -/
def ae_QX (D : va_G) (dA : Nat → ClassId) (ro : Nat → Nat) (ad : Nat → Nat) (σ : ae_S) (sz : Nat) (σ' : ae_S) (x : Nat) : Array Value → State → Outcome → State → Prop := fun _ st o t =>
  ∃ q : Addr, o = .threw q ∧ st.WarmedH t.vm ∧ (∃ L : List Loc, st.sameButNew ({ t with vm := st.vm } : State) L (σ'.1.1 - σ.1.1) (σ'.1.2 - σ.1.2) ∧ ∀ z ∈ L, va_A (ae_w ad ro dA σ.2) sz z.base) ∧
    (∃ ad' : Nat → Nat, (∀ q, q < σ.2.length → ad' q = ad q) ∧ va_P D classes (ae_w ad' ro dA σ'.2) t.heap ∧ va_D (va_A (ae_w ad ro dA σ.2) sz) (ae_w ad' ro dA σ'.2)) ∧ va_F (va_A (ae_w ad ro dA σ.2) sz) st t ∧
    ∃ ce : Cell, t.heap[q]? = some ce ∧ ce.vm = .none ∧ st.vm.findClass (ae_xn x) = some ce.cls
def ae_MX (l : Launch) (am : ae_Am) (ra : ae_R) (d mid : Nat) (args : List Value) (σ σ' : ae_S) (x : Nat) : Prop :=
  ∀ (D : va_G) (dA : Nat → ClassId) (ro ad : Nat → Nat) (sz : Nat), MetFree l (am mid).1 (headSpec [ae_cw (am mid)] (ae_rm d σ σ'))
    (va_Pc (args.map (ae_v ad ro)) (ae_pre D dA ro ra ad σ sz)) (fun _ _ _ _ _ => True) (ae_QX D dA ro ad σ sz σ' x)
/-- what a call leaves -/
def ae_gd (σ σ' : ae_S) (o : ae_O) : Prop := ae_cs σ' ∧ (∀ v, o = .inl (some v) → ae_cv σ'.2.length v) ∧ σ.1.1 ≤ σ'.1.1 ∧ σ.1.2 ≤ σ'.1.2 ∧ σ.2.length ≤ σ'.2.length
theorem ae_blind {D : va_G} {dA : Nat → ClassId} {ro : Nat → Nat} {ra : ae_R} {ad : Nat → Nat} {σ : ae_S} {sz : Nat} {av : List Value} : FrameBlind (va_Pc av (ae_pre D dA ro ra ad σ sz)) := by
  intro a U g mk q
  obtain ⟨q0, q1, qP, qK, qD, qR, qW⟩ := q
  exact ⟨q0, q1, qP, va_K.moved (u := U) (U := U.calling g mk a) (Vm.Alike.refl U.vm) qK, qD, ae_RO.moved (u := U) (U := U.calling g mk a) (Vm.Alike.refl U.vm) qR, aw_warmAll (s := U) (U := U.calling g mk a) (State.WarmedH.refl U) qW⟩
end AEC
section AEG
variable {p : Program} {l : Launch} {e : Env} {R : Room} {s : State} {m : MethodId} {args : Array Value} {below : List Frame} {meth : Method} {c : Code} {Q : State → Prop}
variable {D : va_G} {dA : Nat → ClassId} {ro : Nat → Nat} {A : Nat → Prop} {nL : Nat} {B : Nat × Nat} {ad0 : Nat → Nat} {n0 : Nat}
variable {ra : Nat → Nat × (Nat → Int32)} {own nm : String} {cc : ByteArray} {ret : Option FieldType} {KF SF d : Nat} {pc : Nat} {hd : List (Nat × Nat × Nat × Nat)}
variable {am : ae_Am}
theorem ae_F0 {σ : ae_S} {ad : Nat → Nat} {H : Heap} {locs : List Loc} (hD : va_D A (ae_w ad ro dA σ.2)) (hS : va_S A s.heap H locs) (hA : ∀ q, s.heap.size ≤ q → A q) : ∀ q, va_A (ae_w ad ro dA σ.2) H.size q → A q := fun q h => by
  rcases h with ⟨k, e0, h⟩ | h
  · exact hD.2 k _ h
  · exact hA q (Nat.le_trans hS.1 h)
theorem ae_preU (X : ae_X p l e R s m args below meth c D dA ro A B ra own nm cc nL ret KF SF d hd) {σ : ae_S} {ad : Nat → Nat} {H : Heap} {locs : List Loc} (hP : va_P D classes (ae_w ad ro dA σ.2) H) (hD : va_D A (ae_w ad ro dA σ.2)) (hS : va_S A s.heap H locs) : ∀ U : State, U.heap = H → s.WarmedH U.vm → ae_pre D dA ro ra ad σ H.size U := by
  obtain ⟨hx, hb, hml, hown, hts, hr, hlk, hnm, hK, hRO, hA, hfr, hlo, hKF, hSF, hxt, hst⟩ := X
  intro U hU hW
  have hR1 : ae_RO ra ro (va_A (ae_w ad ro dA σ.2) H.size) U H := ((hRO.kept (fun a h1 h2 => hS.2.1 a h1 h2)).narrow (ae_F0 hD hS hA)).moved hW.alike
  exact ⟨by rw [hU], by rw [hU]; exact hP, va_K.moved hW.alike hK, hD.weaken (fun _ _ _ _ => trivial), by rw [hU]; exact hR1, aw_warmAll hW hts⟩
/-- a call, as the store sees it -/
def ae_Rn (p : Program) (l : Launch) (e : Env) (R : Room) (s : State) (m : MethodId) (args : Array Value) (below : List Frame) (meth : Method) (c : Code) (D : va_G) (dA : Nat → ClassId) (ro : Nat → Nat) (A : Nat → Prop) (nL : Nat) (B : Nat × Nat) (KF SF pc : Nat) (args0 rest : List Value) (σ σ' : ae_S) (L : ae_Ls) (r : Option Value) : Prop :=
  ∀ (ad : Nat → Nat) (H : Heap) (locs : List Loc) (cells slots : Nat) (ls : Array Slot), va_P D classes (ae_w ad ro dA σ.2) H → va_D A (ae_w ad ro dA σ.2) → va_S A s.heap H locs → B.1 + cells = σ.1.1 → B.2 + slots = σ.1.2 → ae_L ad ro nL L ls →
    va_Run p l e R s m args below meth c H locs cells slots (σ'.1.1 - σ.1.1) (σ'.1.2 - σ.1.2) (F0 m pc ls ((args0.reverse ++ rest).map (ae_v ad ro))) (rest.map (ae_v ad ro)) (ae_pst D dA ro ad σ H.size σ' r (args0.map (ae_v ad ro)).toArray) (va_A (ae_w ad ro dA σ.2) H.size)
theorem ae_goCall (X : ae_X p l e R s m args below meth c D dA ro A B ra own nm cc nL ret KF SF d hd) {σ σ' : ae_S} {L : ae_Ls} {args0 rest : List Value} {r : Option Value} (hrn : ae_Rn p l e R s m args below meth c D dA ro A nL B KF SF pc args0 rest σ σ' L r)
    (hcl : ae_cl σ L (args0.reverse ++ rest)) (hn0 : n0 ≤ σ.2.length) (hg : ae_gd σ σ' (.inl r)) (G0 : ae_Go p l e R s m args below meth c Q D dA ro A nL B ad0 n0 σ' L (r.toList ++ rest) (pc + 3)) : ae_Go p l e R s m args below meth c Q D dA ro A nL B ad0 n0 σ L (args0.reverse ++ rest) pc := by
  obtain ⟨hx, hb, hml, hown, hts, hr, hlk, hnm, hK, hRO, hA, hfr, hlo, hKF, hSF, hxt, hst⟩ := X
  intro ad H locs cells slots ls hP hD hS hc hs hl had T hT XS
  obtain ⟨v, st₀, t, T', L2, h0, X', hL, e1, e2, ⟨⟨ad', hag, hv, hP', hD'⟩, hz, hk⟩, st⟩ := hrn ad H locs cells slots ls hP hD hS hc hs hl T hT XS
  cases hv
  rw [h0] at hz hk
  have hF := ae_F0 hD hS hA
  have hS' : va_S A s.heap T'.heap (locs ++ L2) := ⟨Nat.le_trans hS.1 (by rw [e1]; exact hz), fun q h1 h2 => by rw [e1, hk q (Nat.lt_of_lt_of_le h1 hS.1) (fun z => h2 (hF q z))]; exact hS.2.1 q h1 h2, fun q hq => by
      rcases List.mem_append.mp hq with h | h
      · exact hS.2.2 q h
      · exact hF _ (hL q h)⟩
  obtain ⟨g1, g2, g3, g4, g5⟩ := hg
  have hrest : ae_ck σ.2.length rest := fun u hu => hcl.2.2 u (List.mem_append_right _ hu)
  have G2 := G0 ad' T'.heap (locs ++ L2) (cells + (σ'.1.1 - σ.1.1)) (slots + (σ'.1.2 - σ.1.2)) ls (by rw [e1]; exact hP') (hD'.weaken (fun _ _ _ h => hF _ h)) hS' (by omega) (by omega) (ae_L_up hag hcl.2.1 hl) (fun q hq => by rw [hag q (by omega)]; exact had q hq)
  have e3 : (r.toList ++ rest).map (ae_v ad' ro) = (r.map (ae_v ad' ro)).toList ++ rest.map (ae_v ad ro) := by
    rw [List.map_append, ae_k_eq hag hrest]
    cases r <;> rfl
  rw [e3] at G2
  obtain ⟨t2, a1, b1⟩ := G2 T' rfl X'
  exact ⟨t2, st t2 a1, b1⟩
/-- the callee's side of a call -/
theorem ae_cb (X : ae_X p l e R s m args below meth c D dA ro A B ra own nm cc nL ret KF SF d hd) {mid : Nat} {y : MethodName} {bytes : ByteArray} {maxL n : Nat} {rt : Option FieldType} {σ σ' : ae_S} (hwc : Jvm.Cond.code y bytes maxL rt ∈ aw_all) (hm : maxL ≤ 21) :
    (ae_rm d σ σ').cells = σ'.1.1 - σ.1.1 ∧ (ae_rm d σ σ').slots = σ'.1.2 - σ.1.2 ∧ (ae_rm d σ σ').frames + 1 ≤ R.frames ∧ 8 + (maxL + 11) + (ae_rm d σ σ').locals ≤ R.locals ∧ (∀ w ∈ [Jvm.Cond.code y bytes maxL rt], ∀ (a' : Array Value) (U : State), s.WarmedH U.vm → w.before a' U = true) ∧ Jvm.Cond.code y bytes maxL rt ∈ [Jvm.Cond.code y bytes maxL rt] := by
  obtain ⟨hx, hb, hml, hown, hts, hr, hlk, hnm, hK, hRO, hA, hfr, hlo, hKF, hSF, hxt, hst⟩ := X
  refine ⟨rfl, rfl, hfr, ?_, fun w hw a' U hW => ?_, List.mem_singleton.mpr rfl⟩
  · show 8 + (maxL + 11) + 40 * d ≤ R.locals
    omega
  · rw [List.mem_singleton.mp hw]
    exact aw_warm hW (List.mem_filter.mp hwc).2 (hts _ hwc)
theorem ae_par {y : MethodName} {n : Nat} (h : (parseMethodDescriptor y.desc).map (fun d => d.parameters.length) = some n) : ∀ sig, parseMethodDescriptor y.desc = some sig → n = sig.parameters.length := fun sig hs => by
  rw [hs] at h
  exact (Option.some.inj h).symm
def ae_hy (y : MethodName) : Prop := y.cls ≠ "java/lang/invoke/MethodHandle" ∧ y.cls ≠ "java/lang/invoke/VarHandle"
/-- a call of mid at pc -/
def ae_CO (p : Program) (l : Launch) (e : Env) (R : Room) (s : State) (m : MethodId) (args : Array Value) (below : List Frame) (meth : Method) (c : Code) (Q : State → Prop) (D : va_G) (dA : Nat → ClassId) (ro : Nat → Nat) (A : Nat → Prop) (nL : Nat) (B : Nat × Nat) (ad0 : Nat → Nat) (n0 : Nat) (am : ae_Am) (ra : ae_R) (KF SF d pc mid na np : Nat) (rc : Option Nat) : Prop :=
  ∀ (σ : ae_S) (L : ae_Ls) (args0 rest : List Value) (σ' : ae_S) (r : Option Value), args0.length = na → ae_cat rest ≤ 8 → ae_rcv σ rc args0 = true → ae_M l am ra d mid args0 σ σ' r → ae_cl σ L (args0.reverse ++ rest) → n0 ≤ σ.2.length → ae_gd σ σ' (.inl r) → σ'.1.1 ≤ KF ∧ σ'.1.2 ≤ SF → ae_Go p l e R s m args below meth c Q D dA ro A nL B ad0 n0 σ' L (r.toList ++ rest) np → ae_Go p l e R s m args below meth c Q D dA ro A nL B ad0 n0 σ L (args0.reverse ++ rest) pc

theorem ok_callV (X : ae_X p l e R s m args below meth c D dA ro A B ra own nm cc nL ret KF SF d hd) {mid : Nat} {y : MethodName} {bytes : ByteArray} {maxL n index : Nat} {rt : Option FieldType} (hm : am mid = (y, bytes, maxL, rt, [])) (hmL : maxL ≤ 21) (hy : ae_hy y) (hpr : (parseMethodDescriptor y.desc).map (fun d => d.parameters.length) = some n) (hwc : Jvm.Cond.code y bytes maxL rt ∈ aw_all) (hwi : Jvm.Cond.initialized y.cls ∈ aw_all) (hwl : Jvm.Cond.methodLink own index y ∈ aw_all) (hwn : Jvm.Cond.instanceMethod y ∈ aw_all) (hws : Jvm.Cond.selects y.cls y y ∈ aw_all) {ci N : Nat} {T0 : u_T} (hci : classes[ci]? = some (y.cls, T0, N)) (hdg : decode cc pc = .ok (.invokevirtual index, 3)) : ae_CO p l e R s m args below meth c Q D dA ro A nL B ad0 n0 am ra KF SF d pc mid (n + 1) (pc + 3) (some ci) := by
  intro σ L args0 rest σ' r hna hcat hrc hM hcl hn0 hg hF G0
  obtain ⟨c1, c2, c3, c4, c5, c6⟩ := ae_cb (mid := mid) (n := n) (σ := σ) (σ' := σ') X hwc hmL
  refine ae_goCall X ?_ hcl hn0 hg G0
  have hpU := @ae_preU p l e R s m args below meth c D dA ro A nL B ra own nm cc ret KF SF d hd X
  obtain ⟨hx, hb, hml, hown, hts, hr, hlk, hnm, hK, hRO, hA, hfr, hlo, hKF, hSF, hxt, hst⟩ := X
  intro ad H locs cells slots ls hP hD hS hc hs hl
  have hM1 := hM D dA ro ad H.size
  rw [hm] at hM1
  have hq2 : ((rest.map (ae_v ad ro)).map fun v => v.category).sum ≤ 8 := by rw [ae_cat_map]; exact hcat
  have hg3 := hg.2.2.1
  have hg4 := hg.2.2.2.1
  have hF1 := hF.1
  have hF2 := hF.2
  cases args0 with
  | nil => cases hrc
  | cons a0 as =>
    cases a0 with
    | ref p0 =>
      have hp0 : ∃ fs, σ.2[p0]? = some (.inr (ci, fs)) := by
        simp only [ae_rcv] at hrc
        split at hrc
        · rename_i cj fs he0
          exact ⟨fs, by rw [he0, beq_iff_eq.mp hrc]⟩
        · cases hrc
      obtain ⟨fs, he0⟩ := hp0
      exact va_runV (As := as.map (ae_v ad ro)) (rest := rest.map (ae_v ad ro)) (b := ad p0) ⟨hx, hb, hml, hown, hts⟩ hM1 ⟨⟨c1, c2, c3, c4, c5, c6, hts _ hwc, hts _ hwi, hy, ae_par hpr, hts _ hwl⟩, hts _ hwn, hts _ hws⟩ ⟨ae_blind, va_recv hK hP hci (ae_w_get he0), fun U hU hW => ⟨rfl, hpU hP hD hS U hU hW⟩⟩ rfl (by simpa using hna) hl.2.1 (by simp [ae_v]) (lv_room hq2) hdg ⟨by omega, by omega⟩
    | _ => cases hrc

theorem ok_callVN (X : ae_X p l e R s m args below meth c D dA ro A B ra own nm cc nL ret KF SF d hd) {mid : Nat} {y : MethodName} {bytes : ByteArray} {maxL n index : Nat} {rt : Option FieldType} (hm : am mid = (y, bytes, maxL, rt, [])) (hmL : maxL ≤ 21) (hy : ae_hy y) (hpr : (parseMethodDescriptor y.desc).map (fun d => d.parameters.length) = some n) (hwc : Jvm.Cond.code y bytes maxL rt ∈ aw_all) (hwi : Jvm.Cond.initialized y.cls ∈ aw_all) {host : String} (hwl : Jvm.Cond.methodLinkNest own index y host ∈ aw_all) (hwn : Jvm.Cond.instanceMethod y ∈ aw_all) (hws : Jvm.Cond.selects y.cls y y ∈ aw_all) {ci N : Nat} {T0 : u_T} (hci : classes[ci]? = some (y.cls, T0, N)) (hdg : decode cc pc = .ok (.invokevirtual index, 3)) : ae_CO p l e R s m args below meth c Q D dA ro A nL B ad0 n0 am ra KF SF d pc mid (n + 1) (pc + 3) (some ci) := by
  intro σ L args0 rest σ' r hna hcat hrc hM hcl hn0 hg hF G0
  obtain ⟨c1, c2, c3, c4, c5, c6⟩ := ae_cb (mid := mid) (n := n) (σ := σ) (σ' := σ') X hwc hmL
  refine ae_goCall X ?_ hcl hn0 hg G0
  have hpU := @ae_preU p l e R s m args below meth c D dA ro A nL B ra own nm cc ret KF SF d hd X
  obtain ⟨hx, hb, hml, hown, hts, hr, hlk, hnm, hK, hRO, hA, hfr, hlo, hKF, hSF, hxt, hst⟩ := X
  intro ad H locs cells slots ls hP hD hS hc hs hl
  have hM1 := hM D dA ro ad H.size
  rw [hm] at hM1
  have hq2 : ((rest.map (ae_v ad ro)).map fun v => v.category).sum ≤ 8 := by rw [ae_cat_map]; exact hcat
  have hg3 := hg.2.2.1
  have hg4 := hg.2.2.2.1
  have hF1 := hF.1
  have hF2 := hF.2
  cases args0 with
  | nil => cases hrc
  | cons a0 as =>
    cases a0 with
    | ref p0 =>
      have hp0 : ∃ fs, σ.2[p0]? = some (.inr (ci, fs)) := by
        simp only [ae_rcv] at hrc
        split at hrc
        · rename_i cj fs he0
          exact ⟨fs, by rw [he0, beq_iff_eq.mp hrc]⟩
        · cases hrc
      obtain ⟨fs, he0⟩ := hp0
      exact va_runVN (As := as.map (ae_v ad ro)) (rest := rest.map (ae_v ad ro)) (b := ad p0) ⟨hx, hb, hml, hown, hts⟩ hM1 ⟨⟨⟨c1, c2, c3, c4, c5, c6⟩, hts _ hwc, hts _ hwi, hy, ae_par hpr, hts _ hwl⟩, hts _ hwn, hts _ hws⟩ ⟨ae_blind, va_recv hK hP hci (ae_w_get he0), fun U hU hW => ⟨rfl, hpU hP hD hS U hU hW⟩⟩ rfl (by simpa using hna) hl.2.1 (by simp [ae_v]) (lv_room hq2) hdg ⟨by omega, by omega⟩
    | _ => cases hrc

theorem ok_callS (X : ae_X p l e R s m args below meth c D dA ro A B ra own nm cc nL ret KF SF d hd) {mid : Nat} {y : MethodName} {bytes : ByteArray} {maxL n index : Nat} {rt : Option FieldType} (hm : am mid = (y, bytes, maxL, rt, [])) (hmL : maxL ≤ 21) (hy : ae_hy y) (hpr : (parseMethodDescriptor y.desc).map (fun d => d.parameters.length) = some n) (hwc : Jvm.Cond.code y bytes maxL rt ∈ aw_all) (hwi : Jvm.Cond.initialized y.cls ∈ aw_all) (hwl : Jvm.Cond.methodLink own index y ∈ aw_all) (hwn : Jvm.Cond.static y ∈ aw_all) (hdg : decode cc pc = .ok (.invokestatic index, 3)) : ae_CO p l e R s m args below meth c Q D dA ro A nL B ad0 n0 am ra KF SF d pc mid n (pc + 3) none := by
  intro σ L args0 rest σ' r hna hcat hrc hM hcl hn0 hg hF G0
  obtain ⟨c1, c2, c3, c4, c5, c6⟩ := ae_cb (mid := mid) (n := n) (σ := σ) (σ' := σ') X hwc hmL
  refine ae_goCall X ?_ hcl hn0 hg G0
  have hpU := @ae_preU p l e R s m args below meth c D dA ro A nL B ra own nm cc ret KF SF d hd X
  obtain ⟨hx, hb, hml, hown, hts, hr, hlk, hnm, hK, hRO, hA, hfr, hlo, hKF, hSF, hxt, hst⟩ := X
  intro ad H locs cells slots ls hP hD hS hc hs hl
  have hM1 := hM D dA ro ad H.size
  rw [hm] at hM1
  have hq2 : ((rest.map (ae_v ad ro)).map fun v => v.category).sum ≤ 8 := by rw [ae_cat_map]; exact hcat
  have hg3 := hg.2.2.1
  have hg4 := hg.2.2.2.1
  have hF1 := hF.1
  have hF2 := hF.2
  exact va_runS (As := args0.map (ae_v ad ro)) (rest := rest.map (ae_v ad ro)) ⟨hx, hb, hml, hown, hts⟩ hM1 ⟨⟨c1, c2, c3, c4, c5, c6, hts _ hwc, hts _ hwi, hy, ae_par hpr, hts _ hwl⟩, hts _ hwn⟩ ⟨ae_blind, fun U hU hW => ⟨rfl, hpU hP hD hS U hU hW⟩⟩ rfl (by simpa using hna) hl.2.1 (by simp) (lv_room hq2) hdg ⟨by omega, by omega⟩

theorem ok_callSN (X : ae_X p l e R s m args below meth c D dA ro A B ra own nm cc nL ret KF SF d hd) {mid : Nat} {y : MethodName} {bytes : ByteArray} {maxL n index : Nat} {rt : Option FieldType} (hm : am mid = (y, bytes, maxL, rt, [])) (hmL : maxL ≤ 21) (hy : ae_hy y) (hpr : (parseMethodDescriptor y.desc).map (fun d => d.parameters.length) = some n) (hwc : Jvm.Cond.code y bytes maxL rt ∈ aw_all) (hwi : Jvm.Cond.initialized y.cls ∈ aw_all) {host : String} (hwl : Jvm.Cond.methodLinkNest own index y host ∈ aw_all) (hwn : Jvm.Cond.static y ∈ aw_all) (hdg : decode cc pc = .ok (.invokestatic index, 3)) : ae_CO p l e R s m args below meth c Q D dA ro A nL B ad0 n0 am ra KF SF d pc mid n (pc + 3) none := by
  intro σ L args0 rest σ' r hna hcat hrc hM hcl hn0 hg hF G0
  obtain ⟨c1, c2, c3, c4, c5, c6⟩ := ae_cb (mid := mid) (n := n) (σ := σ) (σ' := σ') X hwc hmL
  refine ae_goCall X ?_ hcl hn0 hg G0
  have hpU := @ae_preU p l e R s m args below meth c D dA ro A nL B ra own nm cc ret KF SF d hd X
  obtain ⟨hx, hb, hml, hown, hts, hr, hlk, hnm, hK, hRO, hA, hfr, hlo, hKF, hSF, hxt, hst⟩ := X
  intro ad H locs cells slots ls hP hD hS hc hs hl
  have hM1 := hM D dA ro ad H.size
  rw [hm] at hM1
  have hq2 : ((rest.map (ae_v ad ro)).map fun v => v.category).sum ≤ 8 := by rw [ae_cat_map]; exact hcat
  have hg3 := hg.2.2.1
  have hg4 := hg.2.2.2.1
  have hF1 := hF.1
  have hF2 := hF.2
  exact va_runSN (As := args0.map (ae_v ad ro)) (rest := rest.map (ae_v ad ro)) ⟨hx, hb, hml, hown, hts⟩ hM1 ⟨⟨⟨c1, c2, c3, c4, c5, c6⟩, hts _ hwc, hts _ hwi, hy, ae_par hpr, hts _ hwl⟩, hts _ hwn, trivial⟩ ⟨ae_blind, fun U hU hW => ⟨rfl, hpU hP hD hS U hU hW⟩⟩ rfl (by simpa using hna) hl.2.1 (by simp) (lv_room hq2) hdg ⟨by omega, by omega⟩

theorem ok_callI (X : ae_X p l e R s m args below meth c D dA ro A B ra own nm cc nL ret KF SF d hd) {mid : Nat} {y : MethodName} {bytes : ByteArray} {maxL n index : Nat} {rt : Option FieldType} (hm : am mid = (y, bytes, maxL, rt, [])) (hmL : maxL ≤ 21) (hy : ae_hy y) (hpr : (parseMethodDescriptor y.desc).map (fun d => d.parameters.length) = some n) (hwc : Jvm.Cond.code y bytes maxL rt ∈ aw_all) (hwi : Jvm.Cond.initialized y.cls ∈ aw_all) (hwl : Jvm.Cond.methodLink own index y ∈ aw_all) (hwn : Jvm.Cond.instanceMethod y ∈ aw_all) (hnm0 : y.name = "<init>") (hrt : rt = none) {ci : Nat} (hdg : decode cc pc = .ok (.invokespecial index, 3)) : ae_CO p l e R s m args below meth c Q D dA ro A nL B ad0 n0 am ra KF SF d pc mid (n + 1) (pc + 3) (some ci) := by
  subst hrt
  intro σ L args0 rest σ' r hna hcat hrc hM hcl hn0 hg hF G0
  obtain ⟨c1, c2, c3, c4, c5, c6⟩ := ae_cb (mid := mid) (n := n) (σ := σ) (σ' := σ') X hwc hmL
  refine ae_goCall X ?_ hcl hn0 hg G0
  have hpU := @ae_preU p l e R s m args below meth c D dA ro A nL B ra own nm cc ret KF SF d hd X
  obtain ⟨hx, hb, hml, hown, hts, hr, hlk, hnm, hK, hRO, hA, hfr, hlo, hKF, hSF, hxt, hst⟩ := X
  intro ad H locs cells slots ls hP hD hS hc hs hl
  have hM1 := hM D dA ro ad H.size
  rw [hm] at hM1
  have hq2 : ((rest.map (ae_v ad ro)).map fun v => v.category).sum ≤ 8 := by rw [ae_cat_map]; exact hcat
  have hg3 := hg.2.2.1
  have hg4 := hg.2.2.2.1
  have hF1 := hF.1
  have hF2 := hF.2
  cases args0 with
  | nil => cases hrc
  | cons a0 as =>
    cases a0 with
    | ref p0 =>
      exact va_runI (As := as.map (ae_v ad ro)) (rest := rest.map (ae_v ad ro)) (b := ad p0) ⟨hx, hb, hml, hown, hts⟩ hM1 ⟨⟨c1, c2, c3, c4, c5, c6, hts _ hwc, hts _ hwi, hy, ae_par hpr, hts _ hwl⟩, hnm0, hts _ hwn⟩ ⟨ae_blind, fun U hU hW => ⟨rfl, hpU hP hD hS U hU hW⟩⟩ rfl (by simpa using hna) hl.2.1 (by simp [ae_v]) (lv_room hq2) hdg ⟨by omega, by omega⟩
    | _ => cases hrc

theorem ok_callIN (X : ae_X p l e R s m args below meth c D dA ro A B ra own nm cc nL ret KF SF d hd) {mid : Nat} {y : MethodName} {bytes : ByteArray} {maxL n index : Nat} {rt : Option FieldType} (hm : am mid = (y, bytes, maxL, rt, [])) (hmL : maxL ≤ 21) (hy : ae_hy y) (hpr : (parseMethodDescriptor y.desc).map (fun d => d.parameters.length) = some n) (hwc : Jvm.Cond.code y bytes maxL rt ∈ aw_all) (hwi : Jvm.Cond.initialized y.cls ∈ aw_all) {host : String} (hwl : Jvm.Cond.methodLinkNest own index y host ∈ aw_all) (hwn : Jvm.Cond.instanceMethod y ∈ aw_all) (hnm0 : y.name = "<init>") (hrt : rt = none) {ci : Nat} (hdg : decode cc pc = .ok (.invokespecial index, 3)) : ae_CO p l e R s m args below meth c Q D dA ro A nL B ad0 n0 am ra KF SF d pc mid (n + 1) (pc + 3) (some ci) := by
  subst hrt
  intro σ L args0 rest σ' r hna hcat hrc hM hcl hn0 hg hF G0
  obtain ⟨c1, c2, c3, c4, c5, c6⟩ := ae_cb (mid := mid) (n := n) (σ := σ) (σ' := σ') X hwc hmL
  refine ae_goCall X ?_ hcl hn0 hg G0
  have hpU := @ae_preU p l e R s m args below meth c D dA ro A nL B ra own nm cc ret KF SF d hd X
  obtain ⟨hx, hb, hml, hown, hts, hr, hlk, hnm, hK, hRO, hA, hfr, hlo, hKF, hSF, hxt, hst⟩ := X
  intro ad H locs cells slots ls hP hD hS hc hs hl
  have hM1 := hM D dA ro ad H.size
  rw [hm] at hM1
  have hq2 : ((rest.map (ae_v ad ro)).map fun v => v.category).sum ≤ 8 := by rw [ae_cat_map]; exact hcat
  have hg3 := hg.2.2.1
  have hg4 := hg.2.2.2.1
  have hF1 := hF.1
  have hF2 := hF.2
  cases args0 with
  | nil => cases hrc
  | cons a0 as =>
    cases a0 with
    | ref p0 =>
      exact va_runIN (As := as.map (ae_v ad ro)) (rest := rest.map (ae_v ad ro)) (b := ad p0) ⟨hx, hb, hml, hown, hts⟩ hM1 ⟨⟨⟨c1, c2, c3, c4, c5, c6⟩, hts _ hwc, hts _ hwi, hy, ae_par hpr, hts _ hwl⟩, hnm0, hts _ hwn⟩ ⟨ae_blind, fun U hU hW => ⟨rfl, hpU hP hD hS U hU hW⟩⟩ rfl (by simpa using hna) hl.2.1 (by simp [ae_v]) (lv_room hq2) hdg ⟨by omega, by omega⟩
    | _ => cases hrc

end AEG
end
section
section XCA
variable {p : Program} {l : Launch} {e : Env} {R : Room} {s : State} {m : MethodId} {args : Array Value} {below : List Frame} {meth : Method} {c : Code} {T : State} {locs : List Loc} {cells slots : Nat}
/-- the state in which nothing but heap and book has moved since the method began -/
def xc_st (s T : State) : State := { s with heap := T.heap, slotsUsed := T.slotsUsed }
/-- the walk, counted afresh from here -/
theorem xc_base (X : Stand p l e R s m args below meth c T locs cells slots) {R' : Room} (h1 : R'.frames ≤ R.frames) (h2 : R'.locals ≤ R.locals) (h3 : cells + R'.cells ≤ R.cells) (h4 : slots + R'.slots ≤ R.slots) :
    Stand p l e R' (xc_st s T) m args below meth c T [] 0 0 := by
  have hz := X.heapSize
  have hu := X.used
  refine ⟨X.admits, X.cas, X.clock, X.frames, ?_, X.hears, X.method, X.code, X.here, X.tail, X.warmed, X.limits, X.bytes, ?_⟩
  · have h := X.room
    have hb := X.book
    have hf : (xc_st s T).frames = s.frames := rfl
    have hm : (xc_st s T).me = s.me := rfl
    have hli : (xc_st s T).localsInUse = s.localsInUse := rfl
    have hst : (xc_st s T).slotsTrue = T.slotsTrue := rfl
    have hhe : (xc_st s T).heap.size = T.heap.size := rfl
    have hsu : (xc_st s T).slotsUsed = T.slotsUsed := rfl
    simp only [State.hasRoom, Bool.and_eq_true, decide_eq_true_eq] at h ⊢
    rw [hf, hm, hli, hst, hhe, hsu]
    obtain ⟨⟨⟨⟨a1, a2, a3, a4, a5, a6⟩, a7⟩, a8⟩, a9⟩ := h
    exact ⟨⟨⟨⟨by omega, by omega, by omega, by omega, by omega, a6⟩, by omega⟩, by omega⟩, hb⟩
  · refine ⟨X.same.1, Nat.le_refl _, Nat.le_refl _, ?_, ?_, fun a x h => ⟨x, h, rfl, rfl, fun _ _ => rfl⟩⟩
    · show T.slotsUsed = T.slotsUsed + ((T.heap.toList.drop T.heap.size).map (·.slots.size)).sum
      rw [show T.heap.toList.drop T.heap.size = [] from List.drop_eq_nil_of_le (by simp)]
      rfl
    · show ((T.heap.toList.drop T.heap.size).map (·.slots.size)).sum ≤ 0
      rw [show T.heap.toList.drop T.heap.size = [] from List.drop_eq_nil_of_le (by simp)]
      exact Nat.le_refl _
theorem xc_same (X : Stand p l e R s m args below meth c T locs cells slots) : s.sameButNew (xc_st s T) locs cells slots := by
  obtain ⟨q1, q2, q3, q4, q5, q6⟩ := X.same
  refine ⟨?_, q2, q3, q4, q5, q6⟩
  obtain ⟨t, ht, -⟩ := State.frames_cons X.frames
  show ({ s with heap := T.heap, slotsUsed := T.slotsUsed } : State) = { s.setFrames s.frames with heap := T.heap, slotsUsed := T.slotsUsed }
  rw [State.setFrames_self ht]
/-- with nothing written, an old cell is the same -/
theorem xc_old {s t : State} {k n : Nat} (h : s.sameButNew t [] k n) : s.heap.size ≤ t.heap.size ∧ ∀ q : Nat, q < s.heap.size → t.heap[q]? = s.heap[q]? := by
  refine ⟨h.2.1, fun q hq => ?_⟩
  obtain ⟨x, hx⟩ : ∃ x, s.heap[q]? = some x := ⟨_, Array.getElem?_eq_some_iff.mpr ⟨hq, rfl⟩⟩
  obtain ⟨y, h1, h2, h3, h4⟩ := h.2.2.2.2.2 q x hx
  have h5 : y.slots = x.slots := Array.ext_getElem? (fun i => h4 i (by simp))
  rw [h1, hx, h2, h5]
end XCA
section XCB
variable {e : Env} {s : State} {f : JFrame} {a : Addr}
/-- one row of the table that names a class: cold or warm -/
theorem xc_row {Q : Handler → Pre} {E : CtlPost} {d : Bool} {acts : List Action} {x : ExceptionTableEntry} {t : List ExceptionTableEntry} {c : ClassId} {cell : Cell} {b : Bool} (hx : covers x f.pc = true) (h0 : x.catchType ≠ 0)
    (hl : s.vm.ClassLinks e.platform f.method.cls x.catchType c) (hcell : s.heap[a]? = some cell) (hobj : ∀ k, cell.vm ≠ .statics k)
    (hk : ∃ k, s.vm.classes[cell.cls]? = some k) (hc : ∃ k, s.vm.classes[c]? = some k) (hb : s.vm.assignable cell.cls c = b) :
    wp (findHandler.go f a (x :: t)) Q E e d acts s ↔ if b = true then Q (.found x.handlerPc) d acts (s.setVm (s.vm.noted f.method.cls x.catchType (.cls c))) else wp (findHandler.go f a t) Q E e d acts (s.setVm (s.vm.noted f.method.cls x.catchType (.cls c))) := by
  simp only [covers] at hx
  obtain ⟨ha, ht⟩ := (resolveClass_links e.toSetting hl).op (op := VmOp.resolveClass f.method.cls x.catchType) rfl
  have hal : s.vm.Alike (s.vm.noted f.method.cls x.catchType (.cls c)) := (Vm.Alike.refl s.vm).noted _ _ _
  obtain ⟨k1, hk1⟩ := hk
  obtain ⟨k2, hk2⟩ := hc
  obtain ⟨k1', hk1', -⟩ := hal.2.2 _ _ hk1
  obtain ⟨k2', hk2', -⟩ := hal.2.2 _ _ hk2
  have hb' : (s.vm.noted f.method.cls x.catchType (.cls c)).assignable cell.cls c = b := by rw [hal.assignable]; exact hb
  cases b <;> simp [findHandler.go, hx, h0, ha, ht, hcell, hobj, hk1', hk2', hb', VmOp.dirties, VmOp.acts]
/-- a row that doesn't take it -/
def xc_no (pl : Platform) (s : State) (d thrown : ClassId) (y : ExceptionTableEntry) : Prop := y.catchType ≠ 0 ∧ ∃ c, s.vm.ClassLinks pl d y.catchType c ∧ s.vm.assignable thrown c = false
theorem xc_go {s0 : State} {cell : Cell} (hobj : ∀ k, cell.vm ≠ .statics k) (hk0 : ∃ k, s0.vm.classes[cell.cls]? = some k) (x : ExceptionTableEntry) (suf : List ExceptionTableEntry) (hx : covers x f.pc = true) (h0 : x.catchType ≠ 0)
    {c : ClassId} (hl : s0.vm.ClassLinks e.platform f.method.cls x.catchType c) (hfit : s0.vm.assignable cell.cls c = true) :
    ∀ (pre : List ExceptionTableEntry), (∀ y ∈ pre, covers y f.pc = true ∧ xc_no e.platform s0 f.method.cls cell.cls y) → ∀ S : State, s0.WarmedH S.vm → S.heap[a]? = some cell →
      ∃ vm', s0.WarmedH vm' ∧ ∀ (Q : Handler → Pre) (E : CtlPost) (d : Bool) (acts : List Action), wp (findHandler.go f a (pre ++ x :: suf)) Q E e d acts S ↔ Q (.found x.handlerPc) d acts (S.setVm vm') := by
  obtain ⟨k0, hk0⟩ := hk0
  intro pre
  induction pre with
  | nil =>
    intro _ S hW hcell
    obtain ⟨k0', hk0', -⟩ := hW.alike.2.2 _ _ hk0
    obtain ⟨dk, _, _, kt, hd, _, _, _, _, hkt, _, hopen⟩ := hl.here
    obtain ⟨kt', hkt', -⟩ := hW.alike.2.2 _ _ hkt
    refine ⟨_, hW.noted hd hopen (State.rightAt_cls hl), fun Q E d acts => ?_⟩
    rw [List.nil_append, xc_row hx h0 (hW.classLinks hl) hcell hobj ⟨k0', hk0'⟩ ⟨kt', hkt'⟩ (b := true) (by rw [hW.alike.assignable]; exact hfit), if_pos rfl]
  | cons y ys ih =>
    intro hp S hW hcell
    obtain ⟨hcov, hy0, c1, hl1, hno⟩ := hp y List.mem_cons_self
    obtain ⟨k0', hk0', -⟩ := hW.alike.2.2 _ _ hk0
    obtain ⟨dk, _, _, kt, hd, _, _, _, _, hkt, _, hopen⟩ := hl1.here
    obtain ⟨kt', hkt', -⟩ := hW.alike.2.2 _ _ hkt
    obtain ⟨vm', hW', hq⟩ := ih (fun z hz => hp z (List.mem_cons_of_mem _ hz)) (S.setVm (S.vm.noted f.method.cls y.catchType (.cls c1))) (hW.noted hd hopen (State.rightAt_cls hl1)) hcell
    refine ⟨vm', hW', fun Q E d acts => ?_⟩
    rw [List.cons_append, xc_row hcov hy0 (hW.classLinks hl1) hcell hobj ⟨k0', hk0'⟩ ⟨kt', hkt'⟩ (b := false) (by rw [hW.alike.assignable]; exact hno), if_neg (by decide)]
    exact hq Q E d acts
theorem xc_step {S : State} {r : List Frame} {pc : Nat} {vm' : Vm} (hfind : ∀ (Q : Handler → Pre) (E : CtlPost) (d : Bool) (acts : List Action), wp (findHandler f a) Q E e d acts S ↔ Q (.found pc) d acts (S.setVm vm')) :
    (stepThrowing e S a (.java f :: r)).Is ((S.setVm vm').setFrames (.java { f with pc := pc, stack := [.ref a] } :: r)) [] := by
  simp only [stepThrowing, searchFrame, vmDo]
  generalize hr : Sem.go _ e false [] S = res
  obtain ⟨as, rfl, ha⟩ := Sem.eq_ok_of hr (a := Handler.found pc) (s' := S.setVm vm') (acts' := []) (by simp [hfind _ _ _ _])
  exact ⟨rfl, ha⟩
end XCB
section XCC
variable {p : Program} {l : Launch} {e : Env} {R : Room} {s : State} {m : MethodId} {args : Array Value} {below : List Frame} {meth : Method} {c : Code} {T : State} {locs : List Loc} {cells slots : Nat}
/-- from the note of the throw to the handler -/
theorem xc_catch (X : Stand p l e R s m args below meth c T locs cells slots) {g : JFrame} (hg : g.method = m) {a : Addr} {cell : Cell} (hcell : T.heap[a]? = some cell) (hv : cell.vm = .none)
    {E own : String} (hown : s.vm.findClass own = some m.cls) (hE : s.vm.findClass E = some cell.cls) (hcast : (Cond.castable E E).before args s = true) (pre : List ExceptionTableEntry) (x : ExceptionTableEntry) (suf : List ExceptionTableEntry) (hsplit : c.exceptionTable.toList = pre ++ x :: suf)
    (hpre : ∀ y ∈ pre, covers y g.pc = true ∧ y.catchType ≠ 0 ∧ ∃ nm, (Cond.classLink own y.catchType nm).before args s = true ∧ va_Nc E nm s) (hx : covers x g.pc = true) (h0 : x.catchType ≠ 0) (hlink : (Cond.classLink own x.catchType E).before args s = true) :
    ∃ vm', Stand p l e R s m args below meth c (T.setVm vm') locs cells slots ∧ ∀ target, Steps p.tables e below ((T.setVm vm').setTop { g with pc := x.handlerPc, stack := [.ref a] }) target → Steps p.tables e below ((T.setTop g).pushFrame (.throwing a)) target := by
  have hpl : e.platform.magicAccessors = ({} : Platform).magicAccessors := by rw [X.admits.platform]
  obtain ⟨c3, c4, hc3, hc4, hasg⟩ := Cond.castable_spec hcast
  cases Option.some.inj (hc3.symm.trans hE)
  cases Option.some.inj (hc4.symm.trans hE)
  obtain ⟨c5, hc5, hcl5⟩ := Cond.classLink_spec hown hlink e.platform hpl
  cases Option.some.inj (hE.symm.trans hc5)
  obtain ⟨k9, h9, -⟩ := Vm.findClass_spec hE
  subst hg
  obtain ⟨vm', hW', hq⟩ := xc_go (e := e) (f := g) (a := a) (s0 := s) (cell := cell) (fun k h => by rw [hv] at h; cases h) ⟨k9, h9⟩ x suf hx h0 hcl5 hasg pre (fun y hy => by
    obtain ⟨q1, q2, nm, q3, q4⟩ := hpre y hy
    obtain ⟨c6, hc6, hcl6⟩ := Cond.classLink_spec hown q3 e.platform hpl
    obtain ⟨a8, b8, r1, r2, r3⟩ := q4
    cases Option.some.inj (r1.symm.trans hE)
    cases Option.some.inj (r2.symm.trans hc6)
    exact ⟨q1, q2, _, hcl6, r3⟩) ((T.setTop g).pushFrame (.throwing a)) X.warmed hcell
  refine ⟨vm', X.noted hW', fun target hrest => ?_⟩
  have h : At T g.method c below := X.here
  have hfind : ∀ (Q : Handler → Pre) (E : CtlPost) (d : Bool) (acts : List Action), wp (findHandler g a) Q E e d acts ((T.setTop g).pushFrame (.throwing a)) ↔ Q (.found x.handlerPc) d acts (((T.setTop g).pushFrame (.throwing a)).setVm vm') := fun Q E d acts => by
    rw [W.findHandler_eq (s := (T.setTop g).pushFrame (.throwing a)) (meth := meth) (code := c) X.method' X.code, hsplit]
    exact hq Q E d acts
  obtain ⟨hgo, hw⟩ := h.throwing a
  refine Steps.head hgo hw ?_
  rw [stepThread_throwing (frames_entered h.top _), (xc_step (S := (T.setTop g).pushFrame (.throwing a)) hfind).1]
  obtain ⟨g₀, hg0⟩ := Option.isSome_iff_exists.mp h.top
  obtain ⟨r, hr⟩ := State.topJava?_eq_some.mp hg0
  have hr' : (T.setVm vm').frames = .java g₀ :: r := hr
  rw [State.setTop_of_frames _ hr'] at hrest
  have hsf : ∀ (u : State) (F F2 : List Frame), ((u.setFrames F).setVm vm').setFrames F2 = (u.setVm vm').setFrames F2 := fun u F F2 => by
    rw [show (u.setFrames F).setVm vm' = (u.setVm vm').setFrames F from rfl, State.setFrames_setFrames]
  rw [hr, List.tail_cons, State.pushFrame, hsf, State.setTop_of_frames _ hr, hsf]
  exact hrest
end XCC
end
section
section XD
variable {p : Program} {l : Launch} {e : Env} {R : Room} {s : State} {m : MethodId} {args : Array Value} {below : List Frame} {meth : Method} {c : Code} {Q : State → Prop}
variable {D : va_G} {dA : Nat → ClassId} {ro : Nat → Nat} {A : Nat → Prop} {nL : Nat} {B : Nat × Nat} {ad0 : Nat → Nat} {n0 : Nat}
variable {ra : Nat → Nat × (Nat → Int32)} {own nm : String} {cc : ByteArray} {ret : Option FieldType} {KF SF d : Nat} {pc : Nat} {hd : List (Nat × Nat × Nat × Nat)}
variable {am : ae_Am}
/-- a body that ends, whatever its end -/
def ae_MQ (below : List Frame) (Qc : Array Value → State → Outcome → State → Prop) (a : Array Value) (s : State) : State → Prop := fun t => ∃ o, t.status = .running ∧ Ended t below o ∧ Qc a s o t
def ae_xl : List String := ["java/lang/RuntimeException", "java/lang/Exception"]
/-- the words of a throw that speak of the heap -/
def ae_hw : List Cond := [.laysStatic "java/lang/Throwable" "UNASSIGNED_STACK" "[Ljava/lang/StackTraceElement;", .isRef (.static "java/lang/Throwable" "UNASSIGNED_STACK" "[Ljava/lang/StackTraceElement;"), .laysStatic "java/lang/Throwable" "SUPPRESSED_SENTINEL" "Ljava/util/List;", .isRef (.static "java/lang/Throwable" "SUPPRESSED_SENTINEL" "Ljava/util/List;")]
/-- what a throw at pc must be -/
def ae_TE (own : String) (cc : ByteArray) (hd : List (Nat × Nat × Nat × Nat)) (pc x : Nat) : Prop :=
  ∃ ik ic : Nat, decode cc pc = .ok (.new ik, 3) ∧ decode cc (pc + 3) = .ok (.dup, 1) ∧ decode cc (pc + 4) = .ok (.invokespecial ic, 3) ∧ decode cc (pc + 7) = .ok (.athrow, 1) ∧
    Jvm.Cond.classLink own ik (ae_xn x) ∈ aw_all ∧ Jvm.Cond.initialized (ae_xn x) ∈ aw_all ∧ (∀ w ∈ Bundle.ownAtoms0 own ic (ae_xn x) ae_xl, w ∈ aw_all ∨ w ∈ ae_hw) ∧ hd = [] ∧ Bundle.fit (ae_xn x) = true
theorem ae_throw (X : ae_X p l e R s m args below meth c D dA ro A B ra own nm cc nL ret KF SF d hd) {σ0 : ae_S} (hA0 : A = va_A (ae_w ad0 ro dA σ0.2) s.heap.size) (hn : n0 = σ0.2.length) (hB : B = σ0.1) {x : Nat} (hte : ae_TE own cc hd pc x) (hd5 : 5 ≤ d) {σ σF : ae_S} {L : ae_Ls} {k : List Value} (hk : ae_cat k ≤ 8) (hσ : σF = ((σ.1.1 + 1, σ.1.2 + 6), σ.2)) (hKS : σF.1.1 ≤ KF ∧ σF.1.2 ≤ SF) :
    ae_Go p l e R s m args below meth c (ae_MQ below (ae_QX D dA ro ad0 σ0 s.heap.size σF x) args s) D dA ro A nL B ad0 n0 σ L k pc := by
  obtain ⟨hx, hb, hml, hown, hts, hrt, hlk, hnm, hK, hRO, hA, hfr, hlo, hKF, hSF, hxt, hst⟩ := X
  obtain ⟨ik, ic, d0, d3, d4, d7, w1, w2, w3, hd0, hfit⟩ := hte
  intro ad H locs cells slots ls hP hD hS hc hs hl had T hT XS
  subst hσ
  have hK1 : σ.1.1 + 1 ≤ KF := hKS.1
  have hK2 : σ.1.2 + 6 ≤ SF := hKS.2
  have htr : e.platform.stackTraces = false := (show e.platform.stackTraces = l.stackTraces by rw [XS.admits.platform]).trans hst
  have hq2 : ((k.map (ae_v ad ro)).map fun v => v.category).sum ≤ 8 := by rw [ae_cat_map]; exact hk
  have Y := xc_base XS (R' := { frames := R.frames, locals := R.locals, cells := 1, slots := 6 }) (Nat.le_refl _) (Nat.le_refl _) (by show cells + 1 ≤ R.cells; omega) (by show slots + 6 ≤ R.slots; omega)
  have hSm := xc_same XS
  have hvm : (xc_st s T).vm = s.vm := rfl
  have hhp : (xc_st s T).heap = H := hT
  generalize xc_st s T = s' at Y hSm hvm hhp
  have hW0 : s.WarmedH s'.vm := by rw [hvm]; exact State.WarmedH.refl s
  have hts' : ∀ v ∈ aw_all, v.before args s' = true := aw_warmAll hW0 hts
  have hR1 := (hRO.kept (fun a h1 h2 => hS.2.1 a h1 h2)).moved hW0.alike
  have hU1 := ae_LS.words (U := s') (by rw [hhp]; exact hR1.2.2.2.2.2.1) args
  have hU2 := ae_LS.words (U := s') (by rw [hhp]; exact hR1.2.2.2.2.2.2.1) args
  have hat : ∀ v ∈ Bundle.ownAtoms0 own ic (ae_xn x) ae_xl, v.before args s' = true := fun v hv => by
    rcases w3 v hv with h | h
    · exact hts' v h
    · simp only [ae_hw, List.mem_cons, List.not_mem_nil, or_false] at h
      rcases h with h | h | h | h <;> subst h
      · exact hU1.1
      · exact hU1.2
      · exact hU2.1
      · exact hU2.2
  have hown' : s'.vm.findClass own = some m.cls := by rw [hvm]; exact hown
  have hins : (Cond.instantiable (ae_xn x) 6).before args s' = true := hat _ (by simp [Bundle.ownAtoms0])
  obtain ⟨vm₁, cX, kX, hfX, hkX, -, -, X₁, st1⟩ := Y.newCold hx (own := own) (C := ae_xn x) (index := ik) (n := 6) hown' (hts' _ w1) hins (hts' _ w2) (g := F0 m pc ls (k.map (ae_v ad ro))) rfl (by rw [hb]; exact d0) (Nat.le_refl _) (Nat.le_refl _)
  generalize hT1 : (T.setVm vm₁).pushCell { cls := cX, slots := kX.instanceTypes.map defaultValue, vm := .none } = T1 at X₁ st1
  have hcellA : T1.heap[T.heap.size]? = some (freshCell cX kX) := by rw [← hT1]; exact State.heap_pushCell_size _ _
  have hout : ∀ z ∈ c.exceptionTable.toList, covers z (pc + 7) = false := by
    rw [hxt, hd0]
    intro z hz
    cases hz
  have hq3 := lv_room (m := m) (pc := pc) (ls := ls) (rest := k.map (ae_v ad ro)) hq2
  obtain ⟨U, hsteps, hrun, hend, hW, hsame, ce, hce, hO⟩ := X₁.ctorThrow0 hx htr (own := own) (cls := ae_xn x) (names := ae_xl) (ic := ic) hown' hfit (by decide) hat (fun z hz => nomatch hz) hfX hkX hcellA (by rw [hhp, hT]; exact Nat.le_refl _)
    (g := { method := m, pc := pc + 4, locals := ls, stack := .ref T.heap.size :: .ref T.heap.size :: k.map (ae_v ad ro), locked := none }) rfl (hl.2.1.trans hml.symm) rfl rfl (rest := k.map (ae_v ad ro)) rfl
    (by rw [hb]; exact d4) (by rw [hb]; exact d7) hout (by show 2 + 3 < R.frames; omega) (by
      show 2 * 0 + ((Value.ref T.heap.size :: k.map (ae_v ad ro)).map fun v => v.category).sum + (13 * (2 + 1) + 41) ≤ R.locals
      have hrf : (Value.ref T.heap.size).category = 1 := rfl
      simp only [List.map_cons, List.sum_cons, hrf]
      omega) hlk
  obtain ⟨f1, f2⟩ := xc_old hsame
  rw [hhp] at f1 f2
  have f1' : H.size ≤ U.heap.size := f1
  have f2' : ∀ q : Nat, q < H.size → U.heap[q]? = H[q]? := f2
  have hWs : s.WarmedH U.vm := State.WarmedH.trans hW0 hW
  have hsU : s.sameButNew ({ U with vm := s.vm } : State) locs (cells + 1) (slots + 6) := by
    have h9 : s'.sameButNew ({ U with vm := s.vm } : State) [] (0 + 1) (0 + 6) := by
      have := hsame
      rw [hvm] at this
      exact this
    have := hSm.trans h9
    simpa using this
  refine ⟨U, ?_, .threw T.heap.size, hrun, hend, T.heap.size, rfl, hWs, ⟨locs, ?_, ?_⟩, ⟨ad, ?_, ?_, ?_⟩, ?_, ce, hce, hO.vm, ?_⟩
  · refine st1 _ ?_
    have d3' : decode c.code (pc + 3) = .ok (.dup, 1) := by rw [hb]; exact d3
    have hdup : ∀ tg, Steps p.tables e below (T1.setTop (F0 m (pc + 4) ls (.ref T.heap.size :: .ref T.heap.size :: k.map (ae_v ad ro)))) tg → Steps p.tables e below (T1.setTop (F0 m (pc + 3) ls (.ref T.heap.size :: k.map (ae_v ad ro)))) tg := by
      intro tg a
      jvm_step X₁.here [X₁.here.top, hx, d3', Value.category]
      exact a
    exact hdup _ hsteps
  · have e1 : σ.1.1 + 1 - σ0.1.1 = cells + 1 := by rw [hB] at hc; omega
    have e2 : σ.1.2 + 6 - σ0.1.2 = slots + 6 := by rw [hB] at hs; omega
    show s.sameButNew _ locs (σ.1.1 + 1 - σ0.1.1) (σ.1.2 + 6 - σ0.1.2)
    rw [e1, e2]
    exact hsU
  · rw [← hA0]
    exact hS.2.2
  · exact fun q hq => had q (by rw [hn]; exact hq)
  · exact hP.kept (fun j q hj => f2' q.1 ((hP j q hj).lt))
  · rw [← hA0]
    exact hD
  · rw [← hA0]
    exact ⟨Nat.le_trans hS.1 f1', fun q h1 h2 => (f2' q (Nat.lt_of_lt_of_le h1 hS.1)).trans (hS.2.1 q h1 h2)⟩
  · have h9 := hO.cls
    rw [hvm] at h9
    exact h9

end XD
end
section
section XE
variable {p : Program} {l : Launch} {e : Env} {R : Room} {s : State} {m : MethodId} {args : Array Value} {below : List Frame} {meth : Method} {c : Code} {Q : State → Prop}
variable {D : va_G} {dA : Nat → ClassId} {ro : Nat → Nat} {A : Nat → Prop} {nL : Nat} {B : Nat × Nat} {ad0 : Nat → Nat} {n0 : Nat}
variable {ra : Nat → Nat × (Nat → Int32)} {own nm : String} {cc : ByteArray} {ret : Option FieldType} {KF SF d : Nat} {pc : Nat} {hd : List (Nat × Nat × Nat × Nat)}
variable {am : ae_Am}
theorem ae_ofW {l : Launch} {q : ae_Q4} {rm : Room} {Pc : Array Value → State → Prop} {Q : Array Value → State → Outcome → State → Prop} (hy : plainName q.1.cls = true)
    (body : ∀ p e s m args below meth c s₁, BodyLoose p l q.1 (headSpec [ae_cw q] rm) q.2.1 q.2.2.1 q.2.2.2.1 e s m args below meth c s₁ → c.maxLocals = q.2.2.1 → c.exceptionTable.toList = tableOf q.2.2.2.2 → Pc args s →
      W p l e (headSpec [ae_cw q] rm).room s m args below meth c s.heap [] 0 0 (ae_MQ below Q args s) (entryFrame m args q.2.2.1)) : MetFree l q.1 (headSpec [ae_cw q] rm) Pc (fun _ _ _ _ _ => True) Q := by
  obtain ⟨y, b, n, r, hs⟩ := q
  refine MetFree.of_bodyS (code := b) (maxLocals := n) (ret := r) hy ?_ ?_
  · intro args s m h hn
    have hw := atoms_spec (ws := [ae_cw (y, b, n, r, hs)]) h _ List.mem_cons_self
    cases hs with
    | nil =>
      obtain ⟨meth, c, h1, h2, h3, h4, h5, h6, -, -⟩ := Cond.code_spec hn hw
      exact ⟨meth, c, h1, h2, h3, h4, h5, h6⟩
    | cons z zs =>
      obtain ⟨m', meth, c, hn', hmeth, hcode, hbytes, hlocals, htable, hret, hlocks, -⟩ := Cond.codeWith_spec hw
      cases hn.symm.trans hn'
      exact ⟨meth, c, hmeth, hcode, hbytes, hlocals, hret, hlocks⟩
  · intro p e s m args below meth c s₁ B hml hP _
    have hh0 : s₁.heap = s.heap := by rw [B.state]; rfl
    have hw := atoms_spec (ws := [ae_cw (y, b, n, r, hs)]) B.pre _ List.mem_cons_self
    have htab : c.exceptionTable.toList = tableOf hs := by
      cases hs with
      | nil =>
        have h9 := B.noHandlers hw
        rw [Array.isEmpty_iff] at h9
        rw [h9]
        rfl
      | cons z zs =>
        obtain ⟨m', meth', c', hn', hmeth, hcode, hbytes, hlocals, htable, hret, hlocks, -⟩ := Cond.codeWith_spec hw
        cases B.named.symm.trans hn'
        cases B.method.symm.trans hmeth
        cases (Stand.of_body B).code.symm.trans hcode
        rw [← htable, table_eq]
    obtain ⟨t, a1, o, b1, b2, b3⟩ := body p e s m args below meth c s₁ B hml htab hP s₁ hh0 (Stand.of_body B)
    exact ⟨t, o, a1, b1, b2, b3⟩
/-- a callee with handlers pays as one without -/
theorem ae_backW {l : Launch} {R : Room} {p : Program} {e : Env} {below : List Frame} {s : State} {sargs : Array Value} {y : MethodName} {w0 : Cond} {bytes : ByteArray} {maxL : Nat} {ret : Option FieldType} {hs : List (Nat × Nat × Nat × Nat)} {rm : Room} {Pc : Array Value → State → Prop} {Qc : Array Value → State → Outcome → State → Prop} {mc ms : Nat} {free : Addr → Prop} (he : w0 = Jvm.Cond.codeWith y bytes maxL ret hs)
    (hM : Met l y [w0] rm Pc Qc mc ms free) (hblind : FrameBlind Pc) (hrc : rm.cells = mc) (hrs : rm.slots = ms) (hframes : rm.frames + 1 ≤ R.frames) (hlocals : 8 + (maxL + 11) + rm.locals ≤ R.locals)
    (hws : ∀ a' U, s.WarmedH U.vm → w0.before a' U = true) (hinit : ∀ a' U, s.WarmedH U.vm → (Cond.initialized y.cls).before a' U = true) :
    Back l R p e below s sargs y 3 8 (PreOf R mc ms Pc) (PostOf Qc mc ms free) := by
  subst he
  refine Back.of_freeWith (S := headSpec [Jvm.Cond.codeWith y bytes maxL ret hs] rm) (P := Pc) (K := fun _ _ _ _ _ => True) (Q := fun a st o t => Qc a st o t ∧ ∃ L, FrameEnd st o t L mc ms ∧ ∀ q ∈ L, free q.base) (bytes := bytes) (maxL := maxL) (ret := ret) (handlers := hs)
    (E := fun a st o t L k n => k = mc ∧ n = ms ∧ ∀ q ∈ L, free q.base) hM hframes hlocals ?_ ?_ (fun _ _ _ _ _ _ _ _ _ => trivial) ?_ ?_
  · intro m meth c A a X hp
    exact ⟨atoms_intro fun w hw => by rw [List.mem_singleton.mp hw]; exact hws _ _ X.warmed, hws _ _ X.warmed, hinit _ _ X.warmed, by rw [show (headSpec [Jvm.Cond.codeWith y bytes maxL ret hs] rm).room.cells = mc from hrc]; exact hp.1, by rw [show (headSpec [Jvm.Cond.codeWith y bytes maxL ret hs] rm).room.slots = ms from hrs]; exact hp.2.1⟩
  · intro m meth c A a g mk X hp
    exact hblind _ _ _ _ hp.2.2
  · intro a st o t h
    obtain ⟨hq, L, hF, hL⟩ := h
    exact ⟨L, mc, ms, hF, rfl, rfl, hL⟩
  · intro m meth c A a g mk v t L k n X hp hq hF hE
    obtain ⟨e1, e2, hL⟩ := hE
    subst e1
    subst e2
    exact ⟨g, mk, t, L, rfl, rfl, hq.1, rfl, hL, rfl, rfl⟩
theorem ok_callSW (X : ae_X p l e R s m args below meth c D dA ro A B ra own nm cc nL ret KF SF d hd) {mid : Nat} {y : MethodName} {bytes : ByteArray} {maxL n index : Nat} {rt : Option FieldType} {hs : List (Nat × Nat × Nat × Nat)} (hm : am mid = (y, bytes, maxL, rt, hs)) (he : ae_cw (y, bytes, maxL, rt, hs) = Jvm.Cond.codeWith y bytes maxL rt hs) (hmL : maxL ≤ 21) (hy : ae_hy y) (hpr : (parseMethodDescriptor y.desc).map (fun d => d.parameters.length) = some n) (hwc : Jvm.Cond.codeWith y bytes maxL rt hs ∈ aw_all) (hwi : Jvm.Cond.initialized y.cls ∈ aw_all) (hwl : Jvm.Cond.methodLink own index y ∈ aw_all) (hwn : Jvm.Cond.static y ∈ aw_all)
    (hdg : decode cc pc = .ok (.invokestatic index, 3)) : ae_CO p l e R s m args below meth c Q D dA ro A nL B ad0 n0 am ra KF SF d pc mid n (pc + 3) none := by
  intro σ L args0 rest σ' r hna hcat hrc hM hcl hn0 hg hF G0
  refine ae_goCall X ?_ hcl hn0 hg G0
  have hpU := @ae_preU p l e R s m args below meth c D dA ro A nL B ra own nm cc ret KF SF d hd X
  obtain ⟨hx, hb, hml, hown, hts, hr, hlk, hnm, hK, hRO, hA, hfr, hlo, hKF, hSF, hxt, hst⟩ := X
  intro ad H locs cells slots ls hP hD hS hc hs0 hl
  have hM1 := hM D dA ro ad H.size
  rw [hm] at hM1
  have hq2 : ((rest.map (ae_v ad ro)).map fun v => v.category).sum ≤ 8 := by rw [ae_cat_map]; exact hcat
  have hg3 := hg.2.2.1
  have hg4 := hg.2.2.2.1
  have hF1 := hF.1
  have hF2 := hF.2
  have hK1 : Back l R p e below s args y 3 8 (PreOf R (σ'.1.1 - σ.1.1) (σ'.1.2 - σ.1.2) _) (PostOf _ (σ'.1.1 - σ.1.1) (σ'.1.2 - σ.1.2) _) := ae_backW he hM1 ae_blind rfl rfl hfr (by show 8 + (maxL + 11) + 40 * d ≤ R.locals; omega) (fun a' U hW => by rw [he]; exact aw_warm hW (List.mem_filter.mp hwc).2 (hts _ hwc)) (fun a' U hW => aw_warm hW (List.mem_filter.mp hwi).2 (hts _ hwi))
  obtain ⟨m', methM, cM, hnamed, hmethM, -, -, -, -, -, -, hsigM⟩ := Cond.codeWith_spec (hts _ hwc)
  intro T hT XS
  obtain ⟨v, vm₁, ⟨U', l2, c2, s2⟩, hW₁, X', ⟨g', mk, t, L2, e1, e2, hq, h1, hL, h2, h3⟩, st⟩ := XS.staticBack hx hown (hts _ hwl) (hts _ hwn) (hts _ hwi) hnamed hmethM hsigM hy hK1 (g := F0 m pc ls ((args0.reverse ++ rest).map (ae_v ad ro))) rfl (hl.2.1.trans hml.symm) (Steps.refl _) (argsL := args0.map (ae_v ad ro)) (rest := rest.map (ae_v ad ro)) (fun sig h => by rw [List.length_map, hna]; exact ae_par hpr sig h) (by simp) (lv_room hq2) (by rw [hb]; exact hdg)
    (fun vm₁ hW₁ => ⟨by show cells + _ ≤ R.cells; omega, by show slots + _ ≤ R.slots; omega, rfl, hpU hP hD hS (T.setVm vm₁) hT hW₁⟩)
  dsimp only [Pt.U, Pt.locs, Pt.cells, Pt.slots] at X' e1 e2 h1 h2 h3 st
  subst h1
  subst h2
  subst h3
  exact ⟨v, (T.setVm vm₁).calling g' mk (args0.map (ae_v ad ro)).toArray, t, U', L2, hT, X', hL, e1, e2, hq, fun tg h => st.trans h⟩
/-- a call whose throw is caught -/
def ae_CX (p : Program) (l : Launch) (e : Env) (R : Room) (s : State) (m : MethodId) (args : Array Value) (below : List Frame) (meth : Method) (c : Code) (Q : State → Prop) (D : va_G) (dA : Nat → ClassId) (ro : Nat → Nat) (A : Nat → Prop) (nL : Nat) (B : Nat × Nat) (ad0 : Nat → Nat) (n0 : Nat) (am : ae_Am) (ra : ae_R) (KF SF d pc mid na : Nat) (rc : Option Nat) (x hp i : Nat) : Prop :=
  ∀ (σ : ae_S) (L : ae_Ls) (args0 rest : List Value) (σ' : ae_S), args0.length = na → ae_cat rest ≤ 8 → ae_rcv σ rc args0 = true → ae_MX l am ra d mid args0 σ σ' x → ae_cl σ L (args0.reverse ++ rest) → n0 ≤ σ.2.length → ae_gd σ σ' (.inr x) → σ'.1.1 ≤ KF ∧ σ'.1.2 ≤ SF → ae_Go p l e R s m args below meth c Q D dA ro A nL B ad0 n0 σ' (L.set i none) [] hp → ae_Go p l e R s m args below meth c Q D dA ro A nL B ad0 n0 σ L (args0.reverse ++ rest) pc
theorem ae_L.del {ad ro : Nat → Nat} {nL n i : Nat} {L : ae_Ls} {ls ls' : Array Slot} {v : Value} (h : ae_L ad ro nL L ls) (hc : ae_cL n L)
    (h' : lv_has ls' nL ((i, v) :: (ae_as ad ro L).filter (fun q => !(q.1 == i) && !(q.1 + 1 == i && q.2.category == 2)))) : ae_L ad ro nL (L.set i none) ls' := by
  refine ⟨by simp [h.1], h'.1, h'.2.1, fun j u hj => ?_⟩
  rw [List.getElem?_set] at hj
  by_cases hji : i = j
  · subst hji
    simp only [if_true] at hj
    split at hj <;> cases hj
  · rw [if_neg hji] at hj
    refine h'.2.2 (j, ae_v ad ro u) (List.mem_cons_of_mem _ (List.mem_filter.mpr ⟨ae_as_mem.mpr ⟨u, hj, rfl⟩, ?_⟩))
    have hcat : (ae_v ad ro u).category = 1 := by rw [ae_v_cat]; exact (hc j u hj).2
    simp [hcat]
    exact fun z => hji z.symm
theorem ok_catchV (X : ae_X p l e R s m args below meth c D dA ro A B ra own nm cc nL ret KF SF d hd) {mid : Nat} {y : MethodName} {bytes : ByteArray} {maxL n index : Nat} {rt : Option FieldType} (hm : am mid = (y, bytes, maxL, rt, [])) (hmL : maxL ≤ 21) (hy : ae_hy y) (hpr : (parseMethodDescriptor y.desc).map (fun d => d.parameters.length) = some n) (hwc : Jvm.Cond.code y bytes maxL rt ∈ aw_all) (hwi : Jvm.Cond.initialized y.cls ∈ aw_all) (hwl : Jvm.Cond.methodLink own index y ∈ aw_all) (hwn : Jvm.Cond.instanceMethod y ∈ aw_all) (hws : Jvm.Cond.selects y.cls y y ∈ aw_all) {ci N : Nat} {T0 : u_T} (hci : classes[ci]? = some (y.cls, T0, N))
    (hdg : decode cc pc = .ok (.invokevirtual index, 3)) {x h0 i st en ct : Nat} {pre suf : List (Nat × Nat × Nat × Nat)} (hsp : hd = pre ++ (st, en, h0, ct) :: suf) (hcov : st ≤ pc ∧ pc < en) (hct : ct ≠ 0) (hwk : Jvm.Cond.classLink own ct (ae_xn x) ∈ aw_all) (hwa : Jvm.Cond.castable (ae_xn x) (ae_xn x) ∈ aw_all)
    (hpre : pre = [] ∨ (x = 1 ∧ ∃ s1 e1 h1 c1, pre = [(s1, e1, h1, c1)] ∧ s1 ≤ pc ∧ pc < e1 ∧ c1 ≠ 0 ∧ Jvm.Cond.classLink own c1 (ae_xn 0) ∈ aw_all)) (hi : i < nL) (hda : decode cc h0 = .ok (.astore i, 2)) :
    ae_CX p l e R s m args below meth c Q D dA ro A nL B ad0 n0 am ra KF SF d pc mid (n + 1) (some ci) x (h0 + 2) i := by
  intro σ L args0 rest σ' hna hcat hrc hM hcl hn0 hg hF G0
  have hpU := @ae_preU p l e R s m args below meth c D dA ro A nL B ra own nm cc ret KF SF d hd X
  obtain ⟨hx, hb, hml, hown, hts, hr, hlk, hnm, hK, hRO, hA, hfr, hlo, hKF, hSF, hxt, hst⟩ := X
  intro ad H locs cells slots ls hP hD hS hc hs hl had
  have hM1 := hM D dA ro ad H.size
  rw [hm] at hM1
  have hq2 : ((rest.map (ae_v ad ro)).map fun v => v.category).sum ≤ 8 := by rw [ae_cat_map]; exact hcat
  obtain ⟨g1, g2, g3, g4, g5⟩ := hg
  have hF1 := hF.1
  have hF2 := hF.2
  cases args0 with
  | nil => cases hrc
  | cons a0 as =>
    cases a0 with
    | ref p0 =>
      have hp0 : ∃ fs, σ.2[p0]? = some (.inr (ci, fs)) := by
        simp only [ae_rcv] at hrc
        split at hrc
        · rename_i cj fs he0
          exact ⟨fs, by rw [he0, beq_iff_eq.mp hrc]⟩
        · cases hrc
      obtain ⟨fs, he0⟩ := hp0
      obtain ⟨cellB, hcB, hoB, hclB⟩ := va_recv hK hP hci (ae_w_get he0)
      intro T hT XS
      obtain ⟨mk, methM, hnamed, hmethM, hstM, habM⟩ := Cond.instanceMethod_spec (hts _ hwn)
      obtain ⟨methM', cM, hmethM', hcM, -, hlM, -, -, -, hsigM⟩ := Cond.code_spec hnamed (hts _ hwc)
      cases hmethM.symm.trans hmethM'
      obtain ⟨c2, r2, m2, q1, q2, q3, q4, kP, hkP, hkPi⟩ := Cond.selects_spec (hts _ hws)
      cases hclB.symm.trans q1
      cases (State.methodFound?_of_named hnamed hy).symm.trans q2
      cases hnamed.symm.trans q3
      have hselP : selectMethod e.platform s.vm cellB.cls mk = .method mk := by rw [Launch.admits_selectMethod XS.admits]; exact q4
      obtain ⟨vm₁, X₁, hstep₁⟩ := XS.invokevirtual hx hown (hts _ hwl) hnamed hmethM hstM hkP hkPi hy (a := ad p0) (cell := cellB) (by rw [hT]; exact hcB) (fun z h => by rw [h] at hoB; cases hoB) hselP hmethM habM hkP hkPi (g := F0 m pc ls (((Value.ref p0 :: as).reverse ++ rest).map (ae_v ad ro))) rfl (argsL := as.map (ae_v ad ro)) (rest := rest.map (ae_v ad ro)) (by rw [List.length_map]; have h9 := ae_par hpr _ hsigM; simp at hna; omega) (by simp [ae_v]) (by rw [hb]; exact hdg)
      have hAt : At (T.setVm vm₁) m c below := X₁.here
      have hnU : (T.setVm vm₁).methodNamed? y = some mk := X₁.named hnamed
      obtain ⟨kY, hkY, -⟩ := className_of_methodNamed hnU
      have hcodeU : (Cond.code y bytes maxL rt).before args (T.setVm vm₁) = true := aw_warm X₁.warmed (List.mem_filter.mp hwc).2 (hts _ hwc)
      have hinitU : (Cond.initialized y.cls).before args (T.setVm vm₁) = true := aw_warm X₁.warmed (List.mem_filter.mp hwi).2 (hts _ hwi)
      have hinitY : kY.init = .initialized := Cond.initialized_spec (findClass_of_methodNamed hnU) hkY hinitU
      obtain ⟨methY, cY, hmY, hcY, -, hlY, -, -, -, -⟩ := Cond.code_spec hnU hcodeU
      have hat1 : (headSpec [ae_cw (y, bytes, maxL, rt, [])] (ae_rm d σ σ')).pre.before (Value.ref (ad p0) :: as.map (ae_v ad ro)).toArray (T.setVm vm₁) = true := atoms_intro fun w hw => by
        rw [List.mem_singleton.mp hw]
        exact aw_warm X₁.warmed (List.mem_filter.mp hwc).2 (hts _ hwc)
      have happ := Spec.appliesLoose_calling (e := e) (S := headSpec [ae_cw (y, bytes, maxL, rt, [])] (ae_rm d σ σ')) (g := F0 m pc ls (rest.map (ae_v ad ro))) hAt (by rw [hb]; exact hdg) hnU hkY hinitY
        (X₁.room_calling (g := F0 m pc ls (rest.map (ae_v ad ro))) (args' := (Value.ref (ad p0) :: as.map (ae_v ad ro)).toArray) (R' := (headSpec [ae_cw (y, bytes, maxL, rt, [])] (ae_rm d σ σ')).room) (hl.2.1.trans hml.symm) hmY hcY hfr (by
          show 2 * (F0 m pc ls (rest.map (ae_v ad ro))).monitorRoom + ((rest.map (ae_v ad ro)).map fun v => v.category).sum + (cY.maxLocals + 11) + 40 * d ≤ R.locals
          rw [hlY]
          have h9 := lv_room (m := m) (pc := pc) (ls := ls) (rest := rest.map (ae_v ad ro)) hq2
          omega) (by show cells + (σ'.1.1 - σ.1.1) ≤ R.cells; omega) (by show slots + (σ'.1.2 - σ.1.2) ≤ R.slots; omega)) hat1
      obtain ⟨mid0, hmid⟩ := hAt.above
      have hfr2 : ((T.setVm vm₁).setTop (F0 m pc ls (rest.map (ae_v ad ro)))).frames = (.java (F0 m pc ls (rest.map (ae_v ad ro))) :: mid0) ++ below := by rw [State.frames_setTop' _ hAt.top, hmid]; rfl
      obtain ⟨o, s₂, hsteps, -, hend, hq⟩ := Steps.callFree hM1 p XS.admits XS.cas XS.clock (acts := []) hfr2 happ (ae_blind _ _ (F0 m pc ls (rest.map (ae_v ad ro))) mk ⟨rfl, hpU hP hD hS (T.setVm vm₁) hT X₁.warmed⟩) trivial
      obtain ⟨q, ho, hW2, ⟨L2, hsame2, hL2⟩, ⟨ad', hag, hP', hD'⟩, ⟨hz, hkk⟩, ce, hce, hcv, hcc⟩ := hq
      subst ho
      rw [State.frames_setTop' _ hAt.top] at hend
      have hend2 : Ended s₂ (.java (F0 m pc ls (rest.map (ae_v ad ro))) :: below) (.threw q) := by
        have h9 := X₁.tail
        rw [h9] at hend
        exact hend
      obtain ⟨T', X', hWT, hsT, ht⟩ := X₁.outOfThrown (g := F0 m pc ls (rest.map (ae_v ad ro))) rfl hend2 hW2 hsame2
      have hT'h : s₂.heap = T'.heap := by rw [ht]; exact throwing_heap T' _ q
      rw [hT'h] at hP' hce hz hkk
      have hz : H.size ≤ T'.heap.size := by rw [← hT]; exact hz
      have hkk : ∀ z : Nat, z < H.size → ¬ va_A (ae_w ad ro dA σ.2) H.size z → T'.heap[z]? = H[z]? := by rw [← hT] at *; exact hkk
      have hE : s.vm.findClass (ae_xn x) = some ce.cls := by
        have h9 : vm₁.findClass (ae_xn x) = some ce.cls := hcc
        have h8 : s.WarmedH vm₁ := X₁.warmed
        rw [h8.alike.findClass] at h9
        exact h9
      obtain ⟨vm2, X2, hst2⟩ := xc_catch X' (g := F0 m pc ls (rest.map (ae_v ad ro))) rfl hce hcv hown hE (hts _ hwa) (tableOf pre) ⟨st, en, h0, ct⟩ (tableOf suf) (by rw [hxt, hsp]; simp [tableOf]) (by
        intro z hz
        rcases hpre with hp0 | ⟨hx1, s1, e1, h1, c1, hp0, hp1, hp2, hp3, hp4⟩
        · rw [hp0] at hz
          cases hz
        · rw [hp0] at hz
          have hz1 : z = ⟨s1, e1, h1, c1⟩ := by simpa [tableOf] using hz
          subst hz1
          subst hx1
          exact ⟨by simp [covers, hp1, hp2], hp3, ae_xn 0, hts _ hp4, hRO.2.2.2.2.2.2.2⟩) (by simp [covers, hcov]) hct (hts _ hwk)
      have hFa := ae_F0 hD hS hA
      have hS' : va_S A s.heap T'.heap (locs ++ L2) := ⟨Nat.le_trans hS.1 hz, fun z h1 h2 => by rw [hkk z (Nat.lt_of_lt_of_le h1 hS.1) (fun y => h2 (hFa z y))]; exact hS.2.1 z h1 h2, fun z hz => by
        rcases List.mem_append.mp hz with h | h
        · exact hS.2.2 z h
        · exact hFa _ (hL2 z h)⟩
      have hW3 : W p l e R s m args below meth c T'.heap (locs ++ L2) (cells + (σ'.1.1 - σ.1.1)) (slots + (σ'.1.2 - σ.1.2)) Q (F0 m h0 ls [.ref q]) :=
        lv_astore hx hb hda hl.has hi rfl (fun ls' h' => G0 ad' T'.heap (locs ++ L2) _ _ ls' hP' (hD'.weaken (fun _ _ _ h => hFa _ h)) hS' (by omega) (by omega) (ae_L_up hag (cL_none hcl.2.1) (hl.del hcl.2.1 h')) (fun z hz => by rw [hag z (by omega)]; exact had z hz))
      obtain ⟨t2, a1, b1⟩ := hW3 (T'.setVm vm2) rfl X2
      refine ⟨t2, hstep₁ _ (fun acts => ?_), b1⟩
      rw [doInvoke_state]
      refine hsteps.trans ?_
      rw [ht]
      exact hst2 _ a1
    | _ => cases hrc
end XE
end
