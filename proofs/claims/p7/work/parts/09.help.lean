section AEHelp
abbrev my_0 : MethodName := ⟨"TwinNetworkLaw", "law", "([I)Z"⟩
abbrev my_1 : MethodName := ⟨"TwinNetwork", "<init>", "()V"⟩
abbrev my_2 : MethodName := ⟨"TwinNetwork$Frame", "<init>", "()V"⟩
abbrev my_3 : MethodName := ⟨"TwinNetwork$Datagram", "<init>", "()V"⟩
abbrev my_4 : MethodName := ⟨"TwinNetwork$Line", "<init>", "(Z)V"⟩
abbrev my_5 : MethodName := ⟨"TwinNetwork$Row", "<init>", "(I)V"⟩
abbrev my_6 : MethodName := ⟨"TwinNetwork", "tick", "(I)I"⟩
abbrev my_7 : MethodName := ⟨"TwinNetwork", "isQuiet", "()Z"⟩
abbrev my_8 : MethodName := ⟨"TwinNetwork$Row", "isEmpty", "()Z"⟩
abbrev my_9 : MethodName := ⟨"TwinNetwork", "passTime", "(I)V"⟩
abbrev my_10 : MethodName := ⟨"TwinNetwork$Link", "growAccounts", "(I)V"⟩
abbrev my_11 : MethodName := ⟨"TwinNetwork", "sendFragments", "()V"⟩
abbrev my_12 : MethodName := ⟨"TwinNetwork", "sendFragment", "(LTwinNetwork$Link;)V"⟩
abbrev my_13 : MethodName := ⟨"TwinNetwork$Link", "removeFragment", "()LTwinNetwork$Fragment;"⟩
abbrev my_14 : MethodName := ⟨"TwinNetwork$Link", "nextSequence", "()I"⟩
abbrev my_15 : MethodName := ⟨"TwinNetwork$Port", "following", "(I)I"⟩
abbrev my_16 : MethodName := ⟨"TwinNetwork$Frame", "begin", "(IIII)V"⟩
abbrev my_17 : MethodName := ⟨"TwinNetwork$Frame", "set", "(II)V"⟩
abbrev my_18 : MethodName := ⟨"TwinNetwork$Frame", "setPair", "(II)V"⟩
abbrev my_19 : MethodName := ⟨"TwinNetwork$Frame", "tellFragment", "(IIZ)V"⟩
abbrev my_20 : MethodName := ⟨"TwinNetwork$Fragment", "datagramByte", "(II)I"⟩
abbrev my_21 : MethodName := ⟨"TwinNetwork$Frame", "seal", "(I)V"⟩
abbrev my_22 : MethodName := ⟨"TwinNetwork$Frame", "sum", "()I"⟩
abbrev my_23 : MethodName := ⟨"TwinNetwork$Frame", "pairAt", "(I)I"⟩
abbrev my_24 : MethodName := ⟨"TwinNetwork$Frame", "check", "()I"⟩
abbrev my_25 : MethodName := ⟨"TwinNetwork", "enqueue", "(IIZLTwinNetwork$Frame;)Z"⟩
abbrev my_26 : MethodName := ⟨"TwinNetwork", "lineAt", "(II)LTwinNetwork$Line;"⟩
abbrev my_27 : MethodName := ⟨"TwinNetwork", "isNetwork", "(I)Z"⟩
abbrev my_28 : MethodName := ⟨"TwinNetwork$Line", "rowFor", "(Z)LTwinNetwork$Row;"⟩
abbrev my_29 : MethodName := ⟨"TwinNetwork$Row", "add", "(LTwinNetwork$Frame;)Z"⟩
abbrev my_30 : MethodName := ⟨"TwinNetwork$Frame", "copyFrom", "(LTwinNetwork$Frame;)V"⟩
abbrev my_31 : MethodName := ⟨"TwinNetwork", "moveFrames", "()V"⟩
abbrev my_32 : MethodName := ⟨"TwinNetwork$Line", "moves", "()Z"⟩
abbrev my_33 : MethodName := ⟨"TwinNetwork", "enterSystem", "(IILTwinNetwork$Frame;)I"⟩
abbrev my_34 : MethodName := ⟨"TwinNetwork$Frame", "hasRightCheck", "()Z"⟩
abbrev my_35 : MethodName := ⟨"TwinNetwork$Frame", "at", "(I)I"⟩
abbrev my_36 : MethodName := ⟨"TwinNetwork$Frame", "linkNumber", "()I"⟩
abbrev my_37 : MethodName := ⟨"TwinNetwork", "linkAt", "(I)LTwinNetwork$Link;"⟩
abbrev my_38 : MethodName := ⟨"TwinNetwork", "isLinkNumber", "(I)Z"⟩
abbrev my_39 : MethodName := ⟨"TwinNetwork$Link", "portOf", "(I)LTwinNetwork$Port;"⟩
abbrev my_40 : MethodName := ⟨"TwinNetwork", "isSystem", "(I)Z"⟩
abbrev my_41 : MethodName := ⟨"TwinNetwork$Frame", "hasRightForm", "()Z"⟩
abbrev my_42 : MethodName := ⟨"TwinNetwork$Frame", "fragmentLength", "()I"⟩
abbrev my_43 : MethodName := ⟨"TwinNetwork$Frame", "sequence", "()I"⟩
abbrev my_44 : MethodName := ⟨"TwinNetwork$Port", "receive", "(III)I"⟩
abbrev my_45 : MethodName := ⟨"TwinNetwork$Port", "isInOrder", "(II)Z"⟩
abbrev my_46 : MethodName := ⟨"TwinNetwork$Port", "isToBeTaken", "(II)Z"⟩
abbrev my_47 : MethodName := ⟨"TwinNetwork$Port", "putTogether", "(LTwinNetwork$Frame;I)I"⟩
abbrev my_48 : MethodName := ⟨"TwinNetwork$Frame", "place", "()I"⟩
abbrev my_49 : MethodName := ⟨"TwinNetwork$Frame", "messageNumber", "()I"⟩
abbrev my_50 : MethodName := ⟨"TwinNetwork$Datagram", "append", "(LTwinNetwork$Frame;I)V"⟩
abbrev my_51 : MethodName := ⟨"TwinNetwork$Frame", "moreFollow", "()Z"⟩
abbrev my_52 : MethodName := ⟨"TwinNetwork$Datagram", "isWhole", "()Z"⟩
abbrev my_53 : MethodName := ⟨"TwinNetwork$Datagram", "at", "(I)I"⟩
abbrev my_54 : MethodName := ⟨"TwinNetwork$Port", "keepBegun", "(I)I"⟩
abbrev my_55 : MethodName := ⟨"TwinNetwork", "passSwitch", "(IILTwinNetwork$Frame;)I"⟩
abbrev my_56 : MethodName := ⟨"TwinNetwork$Link", "uses", "(I)Z"⟩
abbrev my_57 : MethodName := ⟨"TwinNetwork$Link", "pays", "(II)Z"⟩
abbrev my_58 : MethodName := ⟨"TwinNetwork", "takeFrames", "()V"⟩
abbrev my_59 : MethodName := ⟨"TwinNetwork$Line", "takesAfterLoss", "()Z"⟩
abbrev my_60 : MethodName := ⟨"TwinNetwork$Line", "takeFirst", "()V"⟩
abbrev my_61 : MethodName := ⟨"TwinNetwork$Row", "exchangeFirst", "(LTwinNetwork$Frame;)LTwinNetwork$Frame;"⟩
abbrev my_62 : MethodName := ⟨"TwinNetwork$Frame", "spoil", "(II)V"⟩
abbrev my_63 : MethodName := ⟨"TwinNetwork", "byteOf", "(I)I"⟩
abbrev my_64 : MethodName := ⟨"TwinNetwork", "port", "(II)I"⟩
abbrev my_65 : MethodName := ⟨"TwinNetwork", "portAt", "(II)LTwinNetwork$Port;"⟩
abbrev my_66 : MethodName := ⟨"TwinNetwork$Port", "state", "(I)I"⟩
abbrev my_67 : MethodName := ⟨"TwinNetwork", "harm", "(IIII)Z"⟩
abbrev my_68 : MethodName := ⟨"TwinNetwork$Line", "expectHarm", "(II)V"⟩
abbrev my_69 : MethodName := ⟨"TwinNetwork", "babble", "(IIIII)Z"⟩
abbrev my_70 : MethodName := ⟨"TwinNetwork", "onLine", "(III)I"⟩
abbrev my_71 : MethodName := ⟨"TwinNetwork", "waiting", "(III)I"⟩
abbrev my_72 : MethodName := ⟨"TwinNetwork", "fragments", "(I)I"⟩
abbrev my_73 : MethodName := ⟨"TwinNetwork", "account", "(II)I"⟩
abbrev my_74 : MethodName := ⟨"TwinNetwork", "dropped", "(I)I"⟩
abbrev my_75 : MethodName := ⟨"TwinNetwork", "bound", "(II)I"⟩
abbrev my_76 : MethodName := ⟨"TwinNetwork", "pathTo", "(II)I"⟩
abbrev my_77 : MethodName := ⟨"TwinNetwork", "switchOf", "(I)I"⟩
abbrev my_78 : MethodName := ⟨"TwinNetwork", "ticksOfAllLinks", "(I)I"⟩
abbrev my_79 : MethodName := ⟨"TwinNetworkLaw", "link", "(LTwinNetwork;IIIIII)I"⟩
abbrev my_80 : MethodName := ⟨"TwinNetwork", "link", "(IIIIII)V"⟩
abbrev my_81 : MethodName := ⟨"TwinNetwork", "areTargets", "(II)Z"⟩
abbrev my_82 : MethodName := ⟨"TwinNetwork", "areFlags", "(I)Z"⟩
abbrev my_83 : MethodName := ⟨"TwinNetwork$Link", "<init>", "(IIIIII)V"⟩
abbrev my_84 : MethodName := ⟨"TwinNetwork$Port", "<init>", "(ZI)V"⟩
abbrev my_85 : MethodName := ⟨"TwinNetwork$Fragment", "<init>", "()V"⟩
abbrev my_86 : MethodName := ⟨"TwinNetworkLaw", "write", "(LTwinNetwork;III[J)I"⟩
abbrev my_87 : MethodName := ⟨"TwinNetwork", "write", "(III)I"⟩
abbrev my_88 : MethodName := ⟨"TwinNetwork$Link", "fragmentsNeeded", "(I)I"⟩
abbrev my_89 : MethodName := ⟨"TwinNetwork$Link", "fragmentRoom", "()I"⟩
abbrev my_90 : MethodName := ⟨"TwinNetwork$Link", "addMessage", "(II)V"⟩
abbrev my_91 : MethodName := ⟨"TwinNetworkLaw", "read", "(LTwinNetwork;II[J)I"⟩
abbrev my_92 : MethodName := ⟨"TwinNetwork", "read", "(II)I"⟩
abbrev my_93 : MethodName := ⟨"TwinNetwork$Port", "nextMessage", "()LTwinNetwork$Datagram;"⟩
abbrev my_94 : MethodName := ⟨"TwinNetwork$Datagram", "copyFrom", "(LTwinNetwork$Datagram;)V"⟩
abbrev my_95 : MethodName := ⟨"TwinNetworkModel", "<init>", "()V"⟩
abbrev my_96 : MethodName := ⟨"TwinNetworkModel", "next", "(I)I"⟩
abbrev my_97 : MethodName := ⟨"TwinNetworkModel", "link", "(IIIIII)V"⟩
abbrev my_98 : MethodName := ⟨"TwinNetworkModel", "write", "(III)I"⟩
abbrev my_99 : MethodName := ⟨"TwinNetworkModel", "isLink", "(I)Z"⟩
abbrev my_100 : MethodName := ⟨"TwinNetworkModel", "piece", "(I)I"⟩
abbrev my_101 : MethodName := ⟨"TwinNetworkModel", "tick", "(I)I"⟩
abbrev my_102 : MethodName := ⟨"TwinNetworkModel", "shape", "(I)V"⟩
abbrev my_103 : MethodName := ⟨"TwinNetworkModel", "frame", "(IIIIIIZ)I"⟩
abbrev my_104 : MethodName := ⟨"TwinNetworkModel", "take", "()I"⟩
abbrev my_105 : MethodName := ⟨"TwinNetworkModel", "put", "(III)V"⟩
abbrev my_106 : MethodName := ⟨"TwinNetworkModel", "sum", "(I)I"⟩
abbrev my_107 : MethodName := ⟨"TwinNetworkModel", "two", "(II)I"⟩
abbrev my_108 : MethodName := ⟨"TwinNetworkModel", "cell", "(II)I"⟩
abbrev my_109 : MethodName := ⟨"TwinNetworkModel", "datagram", "(IIII)I"⟩
abbrev my_110 : MethodName := ⟨"TwinNetworkModel", "close", "(II)V"⟩
abbrev my_111 : MethodName := ⟨"TwinNetworkModel", "check", "(I)I"⟩
abbrev my_112 : MethodName := ⟨"TwinNetworkModel", "enter", "(IIZ)V"⟩
abbrev my_113 : MethodName := ⟨"TwinNetworkModel", "drop", "(II)V"⟩
abbrev my_114 : MethodName := ⟨"TwinNetworkModel", "move", "(I)V"⟩
abbrev my_115 : MethodName := ⟨"TwinNetworkModel", "to", "(I)I"⟩
abbrev my_116 : MethodName := ⟨"TwinNetworkModel", "atEnd", "(III)V"⟩
abbrev my_117 : MethodName := ⟨"TwinNetworkModel", "linkOf", "(I)I"⟩
abbrev my_118 : MethodName := ⟨"TwinNetworkModel", "isSound", "(I)Z"⟩
abbrev my_119 : MethodName := ⟨"TwinNetworkModel", "isTarget", "(II)Z"⟩
abbrev my_120 : MethodName := ⟨"TwinNetworkModel", "hasHead", "(I)Z"⟩
abbrev my_121 : MethodName := ⟨"TwinNetworkModel", "arrive", "(IIII)I"⟩
abbrev my_122 : MethodName := ⟨"TwinNetworkModel", "next", "(I)I"⟩
abbrev my_123 : MethodName := ⟨"TwinNetworkModel", "join", "(II)I"⟩
abbrev my_124 : MethodName := ⟨"TwinNetworkModel", "atSwitch", "(III)V"⟩
abbrev my_125 : MethodName := ⟨"TwinNetworkModel", "isOnPath", "(II)Z"⟩
abbrev my_126 : MethodName := ⟨"TwinNetworkModel", "isOnWay", "(III)Z"⟩
abbrev my_127 : MethodName := ⟨"TwinNetworkModel", "from", "(I)I"⟩
abbrev my_128 : MethodName := ⟨"TwinNetworkModel", "load", "(I)V"⟩
abbrev my_129 : MethodName := ⟨"TwinNetworkModel", "pull", "(I)I"⟩
abbrev my_130 : MethodName := ⟨"TwinNetworkModel", "read", "(II)I"⟩
abbrev my_131 : MethodName := ⟨"TwinNetworkModel", "byteOf", "(I)I"⟩
abbrev my_132 : MethodName := ⟨"TwinNetworkModel", "port", "(II)I"⟩
abbrev my_133 : MethodName := ⟨"TwinNetworkModel", "harm", "(IIII)Z"⟩
abbrev my_134 : MethodName := ⟨"TwinNetworkModel", "isLine", "(II)Z"⟩
abbrev my_135 : MethodName := ⟨"TwinNetworkModel", "babble", "(IIIII)Z"⟩
abbrev my_136 : MethodName := ⟨"TwinNetworkModel", "onLine", "(III)I"⟩
abbrev my_137 : MethodName := ⟨"TwinNetworkModel", "waiting", "(III)I"⟩
abbrev my_138 : MethodName := ⟨"TwinNetworkModel", "fragments", "(I)I"⟩
abbrev my_139 : MethodName := ⟨"TwinNetworkModel", "account", "(II)I"⟩
abbrev my_140 : MethodName := ⟨"TwinNetworkModel", "dropped", "(I)I"⟩
abbrev my_141 : MethodName := ⟨"TwinNetworkModel", "bound", "(II)I"⟩
def aml : List ae_Q4 := [(my_0, code, 7, ret, []),
  (my_1, prog_1_method_1_code, 2, (Option.none : Option Jvm.ClassFile.FieldType), []),
  (my_2, prog_4_method_1_code, 1, (Option.none : Option Jvm.ClassFile.FieldType), []),
  (my_3, prog_2_method_1_code, 1, (Option.none : Option Jvm.ClassFile.FieldType), []),
  (my_4, prog_5_method_1_code, 2, (Option.none : Option Jvm.ClassFile.FieldType), []),
  (my_5, prog_8_method_1_code, 2, (Option.none : Option Jvm.ClassFile.FieldType), []),
  (my_6, prog_1_method_4_code, 4, (Option.some Jvm.ClassFile.FieldType.int), []),
  (my_7, prog_1_method_27_code, 5, (Option.some Jvm.ClassFile.FieldType.boolean), []),
  (my_8, prog_8_method_2_code, 1, (Option.some Jvm.ClassFile.FieldType.boolean), []),
  (my_9, prog_1_method_35_code, 6, (Option.none : Option Jvm.ClassFile.FieldType), []),
  (my_10, prog_6_method_10_code, 3, (Option.none : Option Jvm.ClassFile.FieldType), []),
  (my_11, prog_1_method_28_code, 5, (Option.none : Option Jvm.ClassFile.FieldType), []),
  (my_12, prog_1_method_29_code, 6, (Option.none : Option Jvm.ClassFile.FieldType), []),
  (my_13, prog_6_method_7_code, 2, (Option.some (Jvm.ClassFile.FieldType.object "TwinNetwork$Fragment")), []),
  (my_14, prog_6_method_8_code, 1, (Option.some Jvm.ClassFile.FieldType.int), []),
  (my_15, prog_7_method_2_code, 1, (Option.some Jvm.ClassFile.FieldType.int), []),
  (my_16, prog_4_method_7_code, 6, (Option.none : Option Jvm.ClassFile.FieldType), []),
  (my_17, prog_4_method_4_code, 3, (Option.none : Option Jvm.ClassFile.FieldType), []),
  (my_18, prog_4_method_5_code, 3, (Option.none : Option Jvm.ClassFile.FieldType), []),
  (my_19, prog_4_method_8_code, 4, (Option.none : Option Jvm.ClassFile.FieldType), []),
  (my_20, prog_3_method_2_code, 4, (Option.some Jvm.ClassFile.FieldType.int), []),
  (my_21, prog_4_method_9_code, 4, (Option.none : Option Jvm.ClassFile.FieldType), []),
  (my_22, prog_4_method_19_code, 3, (Option.some Jvm.ClassFile.FieldType.int), []),
  (my_23, prog_4_method_3_code, 2, (Option.some Jvm.ClassFile.FieldType.int), []),
  (my_24, prog_4_method_20_code, 3, (Option.some Jvm.ClassFile.FieldType.int), []),
  (my_25, prog_1_method_30_code, 7, (Option.some Jvm.ClassFile.FieldType.boolean), []),
  (my_26, prog_1_method_23_code, 3, (Option.some (Jvm.ClassFile.FieldType.object "TwinNetwork$Line")), []),
  (my_27, prog_1_method_16_code, 1, (Option.some Jvm.ClassFile.FieldType.boolean), []),
  (my_28, prog_5_method_2_code, 2, (Option.some (Jvm.ClassFile.FieldType.object "TwinNetwork$Row")), []),
  (my_29, prog_8_method_3_code, 3, (Option.some Jvm.ClassFile.FieldType.boolean), []),
  (my_30, prog_4_method_6_code, 2, (Option.none : Option Jvm.ClassFile.FieldType), []),
  (my_31, prog_1_method_31_code, 4, (Option.none : Option Jvm.ClassFile.FieldType), []),
  (my_32, prog_5_method_4_code, 1, (Option.some Jvm.ClassFile.FieldType.boolean), []),
  (my_33, prog_1_method_33_code, 7, (Option.some Jvm.ClassFile.FieldType.int), []),
  (my_34, prog_4_method_18_code, 3, (Option.some Jvm.ClassFile.FieldType.boolean), []),
  (my_35, prog_4_method_2_code, 2, (Option.some Jvm.ClassFile.FieldType.int), []),
  (my_36, prog_4_method_11_code, 2, (Option.some Jvm.ClassFile.FieldType.int), []),
  (my_37, prog_1_method_21_code, 2, (Option.some (Jvm.ClassFile.FieldType.object "TwinNetwork$Link")), []),
  (my_38, prog_1_method_18_code, 1, (Option.some Jvm.ClassFile.FieldType.boolean), []),
  (my_39, prog_6_method_3_code, 2, (Option.some (Jvm.ClassFile.FieldType.object "TwinNetwork$Port")), []),
  (my_40, prog_1_method_17_code, 1, (Option.some Jvm.ClassFile.FieldType.boolean), []),
  (my_41, prog_4_method_17_code, 1, (Option.some Jvm.ClassFile.FieldType.boolean), []),
  (my_42, prog_4_method_12_code, 1, (Option.some Jvm.ClassFile.FieldType.int), []),
  (my_43, prog_4_method_16_code, 1, (Option.some Jvm.ClassFile.FieldType.int), []),
  (my_44, prog_7_method_3_code, 5, (Option.some Jvm.ClassFile.FieldType.int), []),
  (my_45, prog_7_method_4_code, 2, (Option.some Jvm.ClassFile.FieldType.boolean), []),
  (my_46, prog_7_method_5_code, 4, (Option.some Jvm.ClassFile.FieldType.boolean), []),
  (my_47, prog_7_method_6_code, 6, (Option.some Jvm.ClassFile.FieldType.int), []),
  (my_48, prog_4_method_15_code, 1, (Option.some Jvm.ClassFile.FieldType.int), []),
  (my_49, prog_4_method_13_code, 1, (Option.some Jvm.ClassFile.FieldType.int), []),
  (my_50, prog_2_method_4_code, 4, (Option.none : Option Jvm.ClassFile.FieldType), []),
  (my_51, prog_4_method_14_code, 1, (Option.some Jvm.ClassFile.FieldType.boolean), []),
  (my_52, prog_2_method_5_code, 1, (Option.some Jvm.ClassFile.FieldType.boolean), []),
  (my_53, prog_2_method_2_code, 2, (Option.some Jvm.ClassFile.FieldType.int), []),
  (my_54, prog_7_method_7_code, 4, (Option.some Jvm.ClassFile.FieldType.int), []),
  (my_55, prog_1_method_32_code, 6, (Option.some Jvm.ClassFile.FieldType.int), []),
  (my_56, prog_6_method_2_code, 2, (Option.some Jvm.ClassFile.FieldType.boolean), []),
  (my_57, prog_6_method_9_code, 4, (Option.some Jvm.ClassFile.FieldType.boolean), []),
  (my_58, prog_1_method_34_code, 5, (Option.none : Option Jvm.ClassFile.FieldType), []),
  (my_59, prog_5_method_5_code, 1, (Option.some Jvm.ClassFile.FieldType.boolean), []),
  (my_60, prog_5_method_6_code, 2, (Option.none : Option Jvm.ClassFile.FieldType), []),
  (my_61, prog_8_method_4_code, 3, (Option.some (Jvm.ClassFile.FieldType.object "TwinNetwork$Frame")), []),
  (my_62, prog_4_method_10_code, 4, (Option.none : Option Jvm.ClassFile.FieldType), []),
  (my_63, prog_1_method_6_code, 2, (Option.some Jvm.ClassFile.FieldType.int), []),
  (my_64, prog_1_method_7_code, 4, (Option.some Jvm.ClassFile.FieldType.int), []),
  (my_65, prog_1_method_22_code, 4, (Option.some (Jvm.ClassFile.FieldType.object "TwinNetwork$Port")), []),
  (my_66, prog_7_method_9_code, 2, (Option.some Jvm.ClassFile.FieldType.int), []),
  (my_67, prog_1_method_8_code, 6, (Option.some Jvm.ClassFile.FieldType.boolean), []),
  (my_68, prog_5_method_3_code, 3, (Option.none : Option Jvm.ClassFile.FieldType), []),
  (my_69, prog_1_method_9_code, 6, (Option.some Jvm.ClassFile.FieldType.boolean), []),
  (my_70, prog_1_method_10_code, 5, (Option.some Jvm.ClassFile.FieldType.int), []),
  (my_71, prog_1_method_11_code, 5, (Option.some Jvm.ClassFile.FieldType.int), []),
  (my_72, prog_1_method_12_code, 3, (Option.some Jvm.ClassFile.FieldType.int), []),
  (my_73, prog_1_method_13_code, 4, (Option.some Jvm.ClassFile.FieldType.int), []),
  (my_74, prog_1_method_14_code, 2, (Option.some Jvm.ClassFile.FieldType.int), []),
  (my_75, prog_1_method_15_code, 7, (Option.some Jvm.ClassFile.FieldType.int), []),
  (my_76, prog_1_method_25_code, 4, (Option.some Jvm.ClassFile.FieldType.int), []),
  (my_77, prog_1_method_24_code, 1, (Option.some Jvm.ClassFile.FieldType.int), []),
  (my_78, prog_1_method_26_code, 7, (Option.some Jvm.ClassFile.FieldType.int), []),
  (my_79, method_3_code, 8, (Option.some Jvm.ClassFile.FieldType.int), [(0, 13, 16, 13), (0, 13, 20, 15)]),
  (my_80, prog_1_method_2_code, 7, (Option.none : Option Jvm.ClassFile.FieldType), []),
  (my_81, prog_1_method_19_code, 2, (Option.some Jvm.ClassFile.FieldType.boolean), []),
  (my_82, prog_1_method_20_code, 1, (Option.some Jvm.ClassFile.FieldType.boolean), []),
  (my_83, prog_6_method_1_code, 9, (Option.none : Option Jvm.ClassFile.FieldType), []),
  (my_84, prog_7_method_1_code, 3, (Option.none : Option Jvm.ClassFile.FieldType), []),
  (my_85, prog_3_method_1_code, 1, (Option.none : Option Jvm.ClassFile.FieldType), []),
  (my_86, method_4_code, 6, (Option.some Jvm.ClassFile.FieldType.int), [(0, 12, 15, 13), (0, 12, 19, 15)]),
  (my_87, prog_1_method_3_code, 6, (Option.some Jvm.ClassFile.FieldType.int), []),
  (my_88, prog_6_method_5_code, 4, (Option.some Jvm.ClassFile.FieldType.int), []),
  (my_89, prog_6_method_4_code, 2, (Option.some Jvm.ClassFile.FieldType.int), []),
  (my_90, prog_6_method_6_code, 7, (Option.none : Option Jvm.ClassFile.FieldType), []),
  (my_91, method_5_code, 5, (Option.some Jvm.ClassFile.FieldType.int), [(0, 10, 13, 13)]),
  (my_92, prog_1_method_5_code, 5, (Option.some Jvm.ClassFile.FieldType.int), []),
  (my_93, prog_7_method_8_code, 2, (Option.some (Jvm.ClassFile.FieldType.object "TwinNetwork$Datagram")), []),
  (my_94, prog_2_method_3_code, 2, (Option.none : Option Jvm.ClassFile.FieldType), []),
  (my_95, prog_10_method_1_code, 2, (Option.none : Option Jvm.ClassFile.FieldType), []),
  (my_96, prog_10_method_31_code, 1, (Option.some Jvm.ClassFile.FieldType.int), []),
  (my_97, prog_10_method_9_code, 10, (Option.none : Option Jvm.ClassFile.FieldType), []),
  (my_98, prog_10_method_11_code, 8, (Option.some Jvm.ClassFile.FieldType.int), []),
  (my_99, prog_10_method_7_code, 2, (Option.some Jvm.ClassFile.FieldType.boolean), []),
  (my_100, prog_10_method_10_code, 2, (Option.some Jvm.ClassFile.FieldType.int), []),
  (my_101, prog_10_method_35_code, 5, (Option.some Jvm.ClassFile.FieldType.int), []),
  (my_102, prog_10_method_24_code, 8, (Option.none : Option Jvm.ClassFile.FieldType), []),
  (my_103, prog_10_method_19_code, 10, (Option.some Jvm.ClassFile.FieldType.int), []),
  (my_104, prog_10_method_12_code, 3, (Option.some Jvm.ClassFile.FieldType.int), []),
  (my_105, prog_10_method_15_code, 4, (Option.none : Option Jvm.ClassFile.FieldType), []),
  (my_106, prog_10_method_16_code, 4, (Option.some Jvm.ClassFile.FieldType.int), []),
  (my_107, prog_10_method_14_code, 3, (Option.some Jvm.ClassFile.FieldType.int), []),
  (my_108, prog_10_method_13_code, 3, (Option.some Jvm.ClassFile.FieldType.int), []),
  (my_109, prog_10_method_21_code, 4, (Option.some Jvm.ClassFile.FieldType.int), []),
  (my_110, prog_10_method_20_code, 5, (Option.none : Option Jvm.ClassFile.FieldType), []),
  (my_111, prog_10_method_17_code, 6, (Option.some Jvm.ClassFile.FieldType.int), []),
  (my_112, prog_10_method_23_code, 6, (Option.none : Option Jvm.ClassFile.FieldType), []),
  (my_113, prog_10_method_22_code, 3, (Option.none : Option Jvm.ClassFile.FieldType), []),
  (my_114, prog_10_method_25_code, 3, (Option.none : Option Jvm.ClassFile.FieldType), []),
  (my_115, prog_10_method_4_code, 1, (Option.some Jvm.ClassFile.FieldType.int), []),
  (my_116, prog_10_method_32_code, 6, (Option.none : Option Jvm.ClassFile.FieldType), []),
  (my_117, prog_10_method_28_code, 4, (Option.some Jvm.ClassFile.FieldType.int), []),
  (my_118, prog_10_method_18_code, 5, (Option.some Jvm.ClassFile.FieldType.boolean), []),
  (my_119, prog_10_method_8_code, 3, (Option.some Jvm.ClassFile.FieldType.boolean), []),
  (my_120, prog_10_method_30_code, 3, (Option.some Jvm.ClassFile.FieldType.boolean), []),
  (my_121, prog_10_method_33_code, 10, (Option.some Jvm.ClassFile.FieldType.int), []),
  (my_122, prog_10_method_31_code, 1, (Option.some Jvm.ClassFile.FieldType.int), []),
  (my_123, prog_10_method_34_code, 9, (Option.some Jvm.ClassFile.FieldType.int), []),
  (my_124, prog_10_method_29_code, 9, (Option.none : Option Jvm.ClassFile.FieldType), []),
  (my_125, prog_10_method_6_code, 5, (Option.some Jvm.ClassFile.FieldType.boolean), []),
  (my_126, prog_10_method_5_code, 5, (Option.some Jvm.ClassFile.FieldType.boolean), []),
  (my_127, prog_10_method_3_code, 1, (Option.some Jvm.ClassFile.FieldType.int), []),
  (my_128, prog_10_method_27_code, 3, (Option.none : Option Jvm.ClassFile.FieldType), []),
  (my_129, prog_10_method_26_code, 4, (Option.some Jvm.ClassFile.FieldType.int), []),
  (my_130, prog_10_method_36_code, 6, (Option.some Jvm.ClassFile.FieldType.int), []),
  (my_131, prog_10_method_37_code, 2, (Option.some Jvm.ClassFile.FieldType.int), []),
  (my_132, prog_10_method_38_code, 4, (Option.some Jvm.ClassFile.FieldType.int), []),
  (my_133, prog_10_method_40_code, 5, (Option.some Jvm.ClassFile.FieldType.boolean), []),
  (my_134, prog_10_method_39_code, 2, (Option.some Jvm.ClassFile.FieldType.boolean), []),
  (my_135, prog_10_method_41_code, 7, (Option.some Jvm.ClassFile.FieldType.boolean), []),
  (my_136, prog_10_method_42_code, 5, (Option.some Jvm.ClassFile.FieldType.int), []),
  (my_137, prog_10_method_43_code, 4, (Option.some Jvm.ClassFile.FieldType.int), []),
  (my_138, prog_10_method_44_code, 2, (Option.some Jvm.ClassFile.FieldType.int), []),
  (my_139, prog_10_method_45_code, 3, (Option.some Jvm.ClassFile.FieldType.int), []),
  (my_140, prog_10_method_46_code, 2, (Option.some Jvm.ClassFile.FieldType.int), []),
  (my_141, prog_10_method_47_code, 6, (Option.some Jvm.ClassFile.FieldType.int), [])]
def am : ae_Am := fun i => aml.getD i (my_0, code, 7, none, [])
theorem sw_ok {pc lo hi : Int} {offs : Array Int} {tgs : List Nat} (h : (List.range (hi - lo + 1).toNat).all (fun j => match offs[j]? with | some off => decide (pc + off = ((tgs.getD j 0 : Nat) : Int)) | none => false) = true) : ∀ j : Nat, j < (hi - lo + 1).toNat → ∃ off, offs[j]? = some off ∧ pc + off = ((tgs.getD j 0 : Nat) : Int) := by
  intro j hj
  have h1 := List.all_eq_true.mp h j (List.mem_range.mpr hj)
  split at h1
  · rename_i off ho
    exact ⟨off, ho, of_decide_eq_true h1⟩
  · cases h1
theorem hk_int (v : Value) (ad ro : Nat → Nat) (h : k_int v = true) : narrow .int (ae_v ad ro v) = ae_v ad ro v ∧ fits .int (ae_v ad ro v) = true := by
  cases v <;> first | exact ⟨rfl, rfl⟩ | cases h
theorem nb_01 {x : Int32} (h : (x == 0 || x == 1) = true) : narrow .boolean (.int x) = .int x ∧ fits .boolean (.int x) = true := by
  simp only [Bool.or_eq_true, beq_iff_eq] at h
  rcases h with h | h <;> subst h <;> exact ⟨by decide, by decide⟩
theorem hk_bool (v : Value) (ad ro : Nat → Nat) (h : k_bool v = true) : narrow .boolean (ae_v ad ro v) = ae_v ad ro v ∧ fits .boolean (ae_v ad ro v) = true := by
  cases v with
  | int x => exact nb_01 h
  | _ => cases h
theorem hk_obj {C : String} (v : Value) (ad ro : Nat → Nat) (h : k_ref v = true) : narrow (.object C) (ae_v ad ro v) = ae_v ad ro v ∧ fits (.object C) (ae_v ad ro v) = true := by
  cases v <;> first | exact ⟨rfl, rfl⟩ | cases h
theorem hk_arr {t : FieldType} (v : Value) (ad ro : Nat → Nat) (h : k_ref v = true) : narrow (.array t) (ae_v ad ro v) = ae_v ad ro v ∧ fits (.array t) (ae_v ad ro v) = true := by
  cases v <;> first | exact ⟨rfl, rfl⟩ | cases h
theorem rt_int (v : Value) (h : k_int v = true) : ∃ x, v = .int x := by
  cases v <;> first | exact ⟨_, rfl⟩ | cases h
theorem rt_bool (v : Value) (h : k_bool v = true) : ∃ x, v = .int x ∧ narrow .boolean (.int x) = .int x := by
  cases v with
  | int x => exact ⟨x, rfl, (nb_01 h).1⟩
  | _ => cases h
theorem rt_ref (v : Value) (h : k_ref v = true) : v = .null ∨ ∃ q, v = .ref q := by
  cases v <;> first | exact Or.inl rfl | exact Or.inr ⟨_, rfl⟩ | cases h
theorem ae_mk {am : ae_Am} {own nm : String} {cc : ByteArray} {nL : Nat} {ret : Option FieldType} {hd : List (Nat × Nat × Nat × Nat)} {pc : Nat} {f : ae_Op} (hp : ae_Pu f) (h : ∀ {p : Program} {l : Launch} {e : Env} {R : Room} {s : State} {m : MethodId} {args : Array Value} {below : List Frame} {meth : Method} {c : Code} {Q : State → Prop} {D : va_G} {dA : Nat → ClassId} {ro : Nat → Nat} {A : Nat → Prop} {B : Nat × Nat} {ad0 : Nat → Nat} {n0 : Nat} {ra : ae_R} {KF SF d : Nat}, ae_X p l e R s m args below meth c D dA ro A B ra own nm cc nL ret KF SF d hd → ae_Ok p l e R s m args below meth c Q D dA ro A nL B ad0 n0 ra KF SF pc f) : ae_E am own nm cc nL ret hd (pc, .inl f) := ⟨hp, fun _ _ _ _ _ _ _ _ _ _ _ _ _ _ _ _ _ _ _ _ _ _ X => h X⟩
theorem ae_mkc {am : ae_Am} {own nm : String} {cc : ByteArray} {nL : Nat} {ret : Option FieldType} {hd : List (Nat × Nat × Nat × Nat)} {pc mid na np : Nat} {rc : Option Nat} (h : ∀ {p : Program} {l : Launch} {e : Env} {R : Room} {s : State} {m : MethodId} {args : Array Value} {below : List Frame} {meth : Method} {c : Code} {Q : State → Prop} {D : va_G} {dA : Nat → ClassId} {ro : Nat → Nat} {A : Nat → Prop} {B : Nat × Nat} {ad0 : Nat → Nat} {n0 : Nat} {ra : ae_R} {KF SF d : Nat}, ae_X p l e R s m args below meth c D dA ro A B ra own nm cc nL ret KF SF d hd → ae_CO p l e R s m args below meth c Q D dA ro A nL B ad0 n0 am ra KF SF d pc mid na np rc) : ae_E am own nm cc nL ret hd (pc, .inr (.inr (.inl (mid, na, np, rc, [])))) := ⟨fun _ _ _ _ _ _ _ _ _ _ _ _ _ _ _ _ _ _ _ _ _ _ X => h X, fun z hz => absurd hz List.not_mem_nil⟩
theorem ae_mkx {am : ae_Am} {own nm : String} {cc : ByteArray} {nL : Nat} {ret : Option FieldType} {hd : List (Nat × Nat × Nat × Nat)} {pc mid na np : Nat} {rc : Option Nat} {hs : List (Nat × Nat × Nat)} (h : ∀ {p : Program} {l : Launch} {e : Env} {R : Room} {s : State} {m : MethodId} {args : Array Value} {below : List Frame} {meth : Method} {c : Code} {Q : State → Prop} {D : va_G} {dA : Nat → ClassId} {ro : Nat → Nat} {A : Nat → Prop} {B : Nat × Nat} {ad0 : Nat → Nat} {n0 : Nat} {ra : ae_R} {KF SF d : Nat}, ae_X p l e R s m args below meth c D dA ro A B ra own nm cc nL ret KF SF d hd → ae_CO p l e R s m args below meth c Q D dA ro A nL B ad0 n0 am ra KF SF d pc mid na np rc) (hc : ∀ z ∈ hs, ∀ {p : Program} {l : Launch} {e : Env} {R : Room} {s : State} {m : MethodId} {args : Array Value} {below : List Frame} {meth : Method} {c : Code} {Q : State → Prop} {D : va_G} {dA : Nat → ClassId} {ro : Nat → Nat} {A : Nat → Prop} {B : Nat × Nat} {ad0 : Nat → Nat} {n0 : Nat} {ra : ae_R} {KF SF d : Nat}, ae_X p l e R s m args below meth c D dA ro A B ra own nm cc nL ret KF SF d hd → ae_CX p l e R s m args below meth c Q D dA ro A nL B ad0 n0 am ra KF SF d pc mid na rc z.1 z.2.1 z.2.2) : ae_E am own nm cc nL ret hd (pc, .inr (.inr (.inl (mid, na, np, rc, hs)))) := ⟨fun _ _ _ _ _ _ _ _ _ _ _ _ _ _ _ _ _ _ _ _ _ _ X => h X, fun z hz _ _ _ _ _ _ _ _ _ _ _ _ _ _ _ _ _ _ _ _ _ _ X => hc z hz X⟩
theorem ae_tw {own : String} {ic : Nat} {cls : String} (h : (Bundle.ownAtoms0 own ic cls ae_xl).all (fun w => decide (w ∈ aw_all) || decide (w ∈ ae_hw)) = true) : ∀ w ∈ Bundle.ownAtoms0 own ic cls ae_xl, w ∈ aw_all ∨ w ∈ ae_hw := fun w hw => by
  have h1 := List.all_eq_true.mp h w hw
  simpa using h1
section HX
variable {p : Program} {l : Launch} {e : Env} {R : Room} {s : State} {m : MethodId} {args : Array Value} {below : List Frame} {meth : Method} {c : Code} {Q : State → Prop}
variable {D : va_G} {dA : Nat → ClassId} {ro : Nat → Nat} {A : Nat → Prop} {nL : Nat} {B : Nat × Nat} {ad0 : Nat → Nat} {n0 : Nat}
variable {ra : Nat → Nat × (Nat → Int32)} {own nm : String} {cc : ByteArray} {ret : Option FieldType} {KF SF d : Nat} {pc : Nat} {hd : List (Nat × Nat × Nat × Nat)}
theorem ro_z1 (X : ae_X p l e R s m args below meth c D dA ro A B ra own nm cc nL ret KF SF d hd) : va_Z "TwinNetwork" "LEAVES_SWITCH" "[I" (.ref (ro 1)) A s s.heap := X.2.2.2.2.2.2.2.2.2.1.2.2.1
theorem ro_z2 (X : ae_X p l e R s m args below meth c D dA ro A B ra own nm cc nL ret KF SF d hd) : va_Z "TwinNetwork" "ENDS_AT_SWITCH" "[I" (.ref (ro 2)) A s s.heap := X.2.2.2.2.2.2.2.2.2.1.2.2.2.1
theorem ro_z3 (X : ae_X p l e R s m args below meth c D dA ro A B ra own nm cc nL ret KF SF d hd) : va_Z "TwinNetwork" "CHECK_STEPS" "[I" (.ref (ro 3)) A s s.heap := X.2.2.2.2.2.2.2.2.2.1.2.2.2.2.1
theorem ok_gstN (X : ae_X p l e R s m args below meth c D dA ro A B ra own nm cc nL ret KF SF d hd) {q : Nat} {C n dd host : String} {index : Nat} (hz : va_Z C n dd (.ref (ro q)) A s s.heap) (hw : Jvm.Cond.fieldLinkNest own index C n dd host ∈ aw_all) (hdg : decode cc pc = .ok (.getstatic index, 3)) : ae_Ok p l e R s m args below meth c Q D dA ro A nL B ad0 n0 ra KF SF pc (o_push (.retAddr q) (pc + 3)) := by
  obtain ⟨hx, hb, hml, hown, hts, hr, hlk, hnm, hK, hRO, hA, hfr, hlo, hKF, hSF, hxt, hst⟩ := X
  intro σ L k σ' L' k' pc' h hcl hn0 hF G ad H locs cells slots ls hP hD hS hc hs hl had
  simp only [o_push] at h
  cases h
  exact va_getsN hx hb hz hS hown (hts _ hw) (fun _ z => z) hdg (G ad H locs cells slots ls hP hD hS hc hs hl had)
end HX
def ae_pl : Value → Bool
  | .ref _ => false
  | _ => true
theorem ae_pl_cv {fs : List Value} (h : fs.all ae_pl = true) : ∀ n, ∀ v ∈ fs, ae_cv n v := by
  intro n v hv
  have h1 := List.all_eq_true.mp h v hv
  cases v <;> first | trivial | cases h1
def cd_Datagram : List Value := [.null, .int 0]
theorem cd_Datagram_cv : ∀ n, ∀ v ∈ cd_Datagram, ae_cv n v := ae_pl_cv rfl
theorem cd_Datagram_v : ∀ j, j < 2 → defaultValue (cy_Datagram j) = vp_V cd_Datagram j := by decide +kernel
def cd_Fragment : List Value := [.int 0, .int 0, .int 0, .int 0, .int 0, .int 0]
theorem cd_Fragment_cv : ∀ n, ∀ v ∈ cd_Fragment, ae_cv n v := ae_pl_cv rfl
theorem cd_Fragment_v : ∀ j, j < 6 → defaultValue (cy_Fragment j) = vp_V cd_Fragment j := by decide +kernel
def cd_Frame : List Value := [.null, .int 0]
theorem cd_Frame_cv : ∀ n, ∀ v ∈ cd_Frame, ae_cv n v := ae_pl_cv rfl
theorem cd_Frame_v : ∀ j, j < 2 → defaultValue (cy_Frame j) = vp_V cd_Frame j := by decide +kernel
def cd_Line : List Value := [.null, .null, .int 0, .null, .int 0, .int 0, .int 0, .int 0, .int 0]
theorem cd_Line_cv : ∀ n, ∀ v ∈ cd_Line, ae_cv n v := ae_pl_cv rfl
theorem cd_Line_v : ∀ j, j < 9 → defaultValue (cy_Line j) = vp_V cd_Line j := by decide +kernel
def cd_Link : List Value := [.int 0, .int 0, .int 0, .int 0, .int 0, .int 0, .int 0, .null, .null, .null, .int 0, .int 0, .int 0, .int 0, .int 0]
theorem cd_Link_cv : ∀ n, ∀ v ∈ cd_Link, ae_cv n v := ae_pl_cv rfl
theorem cd_Link_v : ∀ j, j < 15 → defaultValue (cy_Link j) = vp_V cd_Link j := by decide +kernel
def cd_Port : List Value := [.int 0, .int 0, .null, .int 0, .int 0, .int 0, .int 0, .null, .null, .int 0, .int 0, .int 0]
theorem cd_Port_cv : ∀ n, ∀ v ∈ cd_Port, ae_cv n v := ae_pl_cv rfl
theorem cd_Port_v : ∀ j, j < 12 → defaultValue (cy_Port j) = vp_V cd_Port j := by decide +kernel
def cd_Row : List Value := [.null, .int 0, .int 0]
theorem cd_Row_cv : ∀ n, ∀ v ∈ cd_Row, ae_cv n v := ae_pl_cv rfl
theorem cd_Row_v : ∀ j, j < 3 → defaultValue (cy_Row j) = vp_V cd_Row j := by decide +kernel
def cd_Net : List Value := [.null, .null, .null, .null, .null, .int 0]
theorem cd_Net_cv : ∀ n, ∀ v ∈ cd_Net, ae_cv n v := ae_pl_cv rfl
theorem cd_Net_v : ∀ j, j < 6 → defaultValue (cy_Net j) = vp_V cd_Net j := by decide +kernel
def cd_Model : List Value := [.int 0, .int 0, .null, .null, .null, .null, .null, .null, .null, .null, .null, .null, .null, .null, .null, .null, .null, .null, .null, .null, .null, .null, .null, .null, .null, .null, .null, .null, .null, .null, .null, .null, .null, .null, .null, .null, .null, .null, .null, .null, .int 0]
theorem cd_Model_cv : ∀ n, ∀ v ∈ cd_Model, ae_cv n v := ae_pl_cv rfl
theorem cd_Model_v : ∀ j, j < 41 → defaultValue (cy_Model j) = vp_V cd_Model j := by decide +kernel
end AEHelp
