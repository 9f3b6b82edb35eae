section
/-- a private method of a class that the tables say can be made, by its rows of tables_1 -/
def lw_okq (q : MethodName × Nat) : Prop := (q.1.cls ≠ "java/lang/invoke/MethodHandle" ∧ q.1.cls ≠ "java/lang/invoke/VarHandle") ∧ Cond.instantiable q.1.cls q.2 ∈ tables_1 ∧ Cond.privateMethod q.1 ∈ tables_1 ∧ Cond.instanceMethod q.1 ∈ tables_1
theorem lw_p0 : lw_okq (⟨"RoutingField$Reader", "parse", "(II)V"⟩, 12) := ⟨⟨by decide +kernel, by decide +kernel⟩, List.mem_of_getElem? (i := 282) (by decide +kernel), List.mem_of_getElem? (i := 393) (by decide +kernel), List.mem_of_getElem? (i := 394) (by decide +kernel)⟩
theorem lw_p1 : lw_okq (⟨"RoutingField$Reader", "is", "(ILjava/lang/String;)Z"⟩, 12) := ⟨⟨by decide +kernel, by decide +kernel⟩, List.mem_of_getElem? (i := 282) (by decide +kernel), List.mem_of_getElem? (i := 399) (by decide +kernel), List.mem_of_getElem? (i := 400) (by decide +kernel)⟩
theorem lw_p2 : lw_okq (⟨"RoutingField$Reader", "isWord", "(I)Z"⟩, 12) := ⟨⟨by decide +kernel, by decide +kernel⟩, List.mem_of_getElem? (i := 282) (by decide +kernel), List.mem_of_getElem? (i := 403) (by decide +kernel), List.mem_of_getElem? (i := 404) (by decide +kernel)⟩
theorem lw_p3 : lw_okq (⟨"RoutingField$Reader", "linkLine", "()I"⟩, 12) := ⟨⟨by decide +kernel, by decide +kernel⟩, List.mem_of_getElem? (i := 282) (by decide +kernel), List.mem_of_getElem? (i := 455) (by decide +kernel), List.mem_of_getElem? (i := 456) (by decide +kernel)⟩
theorem lw_p4 : lw_okq (⟨"RoutingField$Reader", "hasOptions", "(ILjava/lang/String;Ljava/lang/String;)Z"⟩, 12) := ⟨⟨by decide +kernel, by decide +kernel⟩, List.mem_of_getElem? (i := 282) (by decide +kernel), List.mem_of_getElem? (i := 461) (by decide +kernel), List.mem_of_getElem? (i := 462) (by decide +kernel)⟩
theorem lw_p5 : lw_okq (⟨"RoutingField$Reader", "isName", "(I)Z"⟩, 12) := ⟨⟨by decide +kernel, by decide +kernel⟩, List.mem_of_getElem? (i := 282) (by decide +kernel), List.mem_of_getElem? (i := 465) (by decide +kernel), List.mem_of_getElem? (i := 466) (by decide +kernel)⟩
theorem lw_p6 : lw_okq (⟨"RoutingField$Reader", "linkNamed", "(I)I"⟩, 12) := ⟨⟨by decide +kernel, by decide +kernel⟩, List.mem_of_getElem? (i := 282) (by decide +kernel), List.mem_of_getElem? (i := 469) (by decide +kernel), List.mem_of_getElem? (i := 470) (by decide +kernel)⟩
theorem lw_p7 : lw_okq (⟨"RoutingField$Reader", "number", "(III)I"⟩, 12) := ⟨⟨by decide +kernel, by decide +kernel⟩, List.mem_of_getElem? (i := 282) (by decide +kernel), List.mem_of_getElem? (i := 473) (by decide +kernel), List.mem_of_getElem? (i := 474) (by decide +kernel)⟩
theorem lw_p8 : lw_okq (⟨"RoutingField$Reader", "nameAt", "(I)Ljava/lang/String;"⟩, 12) := ⟨⟨by decide +kernel, by decide +kernel⟩, List.mem_of_getElem? (i := 282) (by decide +kernel), List.mem_of_getElem? (i := 479) (by decide +kernel), List.mem_of_getElem? (i := 480) (by decide +kernel)⟩
theorem lw_p9 : lw_okq (⟨"RoutingField$Reader", "routerLine", "()I"⟩, 12) := ⟨⟨by decide +kernel, by decide +kernel⟩, List.mem_of_getElem? (i := 282) (by decide +kernel), List.mem_of_getElem? (i := 589) (by decide +kernel), List.mem_of_getElem? (i := 590) (by decide +kernel)⟩
theorem lw_p10 : lw_okq (⟨"RoutingField$Reader", "routerNamed", "(I)LRoutingField$Router;"⟩, 12) := ⟨⟨by decide +kernel, by decide +kernel⟩, List.mem_of_getElem? (i := 282) (by decide +kernel), List.mem_of_getElem? (i := 593) (by decide +kernel), List.mem_of_getElem? (i := 594) (by decide +kernel)⟩
theorem lw_p11 : lw_okq (⟨"RoutingField$Reader", "joinLine", "()I"⟩, 12) := ⟨⟨by decide +kernel, by decide +kernel⟩, List.mem_of_getElem? (i := 282) (by decide +kernel), List.mem_of_getElem? (i := 736) (by decide +kernel), List.mem_of_getElem? (i := 737) (by decide +kernel)⟩
theorem lw_p12 : lw_okq (⟨"RoutingField$Reader", "hasJoinOptions", "()Z"⟩, 12) := ⟨⟨by decide +kernel, by decide +kernel⟩, List.mem_of_getElem? (i := 282) (by decide +kernel), List.mem_of_getElem? (i := 740) (by decide +kernel), List.mem_of_getElem? (i := 741) (by decide +kernel)⟩
theorem lw_p13 : lw_okq (⟨"RoutingField$Reader", "joinOption", "(I)I"⟩, 12) := ⟨⟨by decide +kernel, by decide +kernel⟩, List.mem_of_getElem? (i := 282) (by decide +kernel), List.mem_of_getElem? (i := 744) (by decide +kernel), List.mem_of_getElem? (i := 745) (by decide +kernel)⟩
theorem lw_p14 : lw_okq (⟨"RoutingField$Reader", "splitAt", "(I)I"⟩, 12) := ⟨⟨by decide +kernel, by decide +kernel⟩, List.mem_of_getElem? (i := 282) (by decide +kernel), List.mem_of_getElem? (i := 754) (by decide +kernel), List.mem_of_getElem? (i := 755) (by decide +kernel)⟩
theorem lw_p15 : lw_okq (⟨"RoutingField", "linkAt", "(I)LRoutingField$Link;"⟩, 20) := ⟨⟨by decide +kernel, by decide +kernel⟩, List.mem_of_getElem? (i := 26) (by decide +kernel), List.mem_of_getElem? (i := 764) (by decide +kernel), List.mem_of_getElem? (i := 765) (by decide +kernel)⟩
def lw_privs_1 : List (MethodName × Nat) := [(⟨"RoutingField$Reader", "parse", "(II)V"⟩, 12), (⟨"RoutingField$Reader", "is", "(ILjava/lang/String;)Z"⟩, 12), (⟨"RoutingField$Reader", "isWord", "(I)Z"⟩, 12), (⟨"RoutingField$Reader", "linkLine", "()I"⟩, 12), (⟨"RoutingField$Reader", "hasOptions", "(ILjava/lang/String;Ljava/lang/String;)Z"⟩, 12), (⟨"RoutingField$Reader", "isName", "(I)Z"⟩, 12), (⟨"RoutingField$Reader", "linkNamed", "(I)I"⟩, 12), (⟨"RoutingField$Reader", "number", "(III)I"⟩, 12), (⟨"RoutingField$Reader", "nameAt", "(I)Ljava/lang/String;"⟩, 12), (⟨"RoutingField$Reader", "routerLine", "()I"⟩, 12), (⟨"RoutingField$Reader", "routerNamed", "(I)LRoutingField$Router;"⟩, 12), (⟨"RoutingField$Reader", "joinLine", "()I"⟩, 12), (⟨"RoutingField$Reader", "hasJoinOptions", "()Z"⟩, 12), (⟨"RoutingField$Reader", "joinOption", "(I)I"⟩, 12), (⟨"RoutingField$Reader", "splitAt", "(I)I"⟩, 12), (⟨"RoutingField", "linkAt", "(I)LRoutingField$Link;"⟩, 20)]
theorem lw_r1 : ∀ q ∈ lw_privs_1, lw_okq q := List.forall_mem_cons.mpr ⟨lw_p0, List.forall_mem_cons.mpr ⟨lw_p1, List.forall_mem_cons.mpr ⟨lw_p2, List.forall_mem_cons.mpr ⟨lw_p3, List.forall_mem_cons.mpr ⟨lw_p4, List.forall_mem_cons.mpr ⟨lw_p5, List.forall_mem_cons.mpr ⟨lw_p6, List.forall_mem_cons.mpr ⟨lw_p7, List.forall_mem_cons.mpr ⟨lw_p8, List.forall_mem_cons.mpr ⟨lw_p9, List.forall_mem_cons.mpr ⟨lw_p10, List.forall_mem_cons.mpr ⟨lw_p11, List.forall_mem_cons.mpr ⟨lw_p12, List.forall_mem_cons.mpr ⟨lw_p13, List.forall_mem_cons.mpr ⟨lw_p14, List.forall_mem_cons.mpr ⟨lw_p15, fun _ h => absurd h List.not_mem_nil⟩⟩⟩⟩⟩⟩⟩⟩⟩⟩⟩⟩⟩⟩⟩⟩
theorem lw_p16 : lw_okq (⟨"RoutingField$Reader", "takePrefix", "(IZ)Z"⟩, 12) := ⟨⟨by decide +kernel, by decide +kernel⟩, List.mem_of_getElem? (i := 282) (by decide +kernel), List.mem_of_getElem? (i := 768) (by decide +kernel), List.mem_of_getElem? (i := 769) (by decide +kernel)⟩
theorem lw_p17 : lw_okq (⟨"RoutingField$Prefix", "parseSix", "(LRoutingField$Bytes;II)Z"⟩, 4) := ⟨⟨by decide +kernel, by decide +kernel⟩, List.mem_of_getElem? (i := 69) (by decide +kernel), List.mem_of_getElem? (i := 777) (by decide +kernel), List.mem_of_getElem? (i := 778) (by decide +kernel)⟩
theorem lw_p18 : lw_okq (⟨"RoutingField$Prefix", "openGap", "(II)Z"⟩, 4) := ⟨⟨by decide +kernel, by decide +kernel⟩, List.mem_of_getElem? (i := 69) (by decide +kernel), List.mem_of_getElem? (i := 788) (by decide +kernel), List.mem_of_getElem? (i := 789) (by decide +kernel)⟩
theorem lw_p19 : lw_okq (⟨"RoutingField$Prefix", "parseFour", "(LRoutingField$Bytes;II)Z"⟩, 4) := ⟨⟨by decide +kernel, by decide +kernel⟩, List.mem_of_getElem? (i := 69) (by decide +kernel), List.mem_of_getElem? (i := 799) (by decide +kernel), List.mem_of_getElem? (i := 800) (by decide +kernel)⟩
theorem lw_p20 : lw_okq (⟨"RoutingField$Reader", "takeJoinOptions", "(LRoutingField$Port;)I"⟩, 12) := ⟨⟨by decide +kernel, by decide +kernel⟩, List.mem_of_getElem? (i := 282) (by decide +kernel), List.mem_of_getElem? (i := 825) (by decide +kernel), List.mem_of_getElem? (i := 826) (by decide +kernel)⟩
theorem lw_p21 : lw_okq (⟨"RoutingField$Reader", "takeKeyOption", "(II)I"⟩, 12) := ⟨⟨by decide +kernel, by decide +kernel⟩, List.mem_of_getElem? (i := 282) (by decide +kernel), List.mem_of_getElem? (i := 840) (by decide +kernel), List.mem_of_getElem? (i := 841) (by decide +kernel)⟩
theorem lw_p22 : lw_okq (⟨"RoutingField$Reader", "takeSecret", "(I)Z"⟩, 12) := ⟨⟨by decide +kernel, by decide +kernel⟩, List.mem_of_getElem? (i := 282) (by decide +kernel), List.mem_of_getElem? (i := 844) (by decide +kernel), List.mem_of_getElem? (i := 845) (by decide +kernel)⟩
theorem lw_p23 : lw_okq (⟨"RoutingField$Reader", "setJoined", "(LRoutingField$Port;)V"⟩, 12) := ⟨⟨by decide +kernel, by decide +kernel⟩, List.mem_of_getElem? (i := 282) (by decide +kernel), List.mem_of_getElem? (i := 962) (by decide +kernel), List.mem_of_getElem? (i := 963) (by decide +kernel)⟩
theorem lw_p24 : lw_okq (⟨"RoutingField$Router", "portOf", "(LRoutingField$Prefix;)LRoutingField$Port;"⟩, 20) := ⟨⟨by decide +kernel, by decide +kernel⟩, List.mem_of_getElem? (i := 597) (by decide +kernel), List.mem_of_getElem? (i := 989) (by decide +kernel), List.mem_of_getElem? (i := 990) (by decide +kernel)⟩
theorem lw_p25 : lw_okq (⟨"RoutingField$Table", "placeOf", "(LRoutingField$Prefix;)I"⟩, 2) := ⟨⟨by decide +kernel, by decide +kernel⟩, List.mem_of_getElem? (i := 166) (by decide +kernel), List.mem_of_getElem? (i := 1005) (by decide +kernel), List.mem_of_getElem? (i := 1006) (by decide +kernel)⟩
theorem lw_p26 : lw_okq (⟨"RoutingField$Router", "lapse", "(LRoutingField$Route;)V"⟩, 20) := ⟨⟨by decide +kernel, by decide +kernel⟩, List.mem_of_getElem? (i := 597) (by decide +kernel), List.mem_of_getElem? (i := 1014) (by decide +kernel), List.mem_of_getElem? (i := 1015) (by decide +kernel)⟩
theorem lw_p27 : lw_okq (⟨"RoutingField$Router", "die", "(LRoutingField$Route;)V"⟩, 20) := ⟨⟨by decide +kernel, by decide +kernel⟩, List.mem_of_getElem? (i := 597) (by decide +kernel), List.mem_of_getElem? (i := 1018) (by decide +kernel), List.mem_of_getElem? (i := 1019) (by decide +kernel)⟩
theorem lw_p28 : lw_okq (⟨"RoutingField$Router", "startDeadline", "(LRoutingField$Route;I)V"⟩, 20) := ⟨⟨by decide +kernel, by decide +kernel⟩, List.mem_of_getElem? (i := 597) (by decide +kernel), List.mem_of_getElem? (i := 1022) (by decide +kernel), List.mem_of_getElem? (i := 1023) (by decide +kernel)⟩
theorem lw_p29 : lw_okq (⟨"RoutingField$Router", "markChanged", "(LRoutingField$Route;)V"⟩, 20) := ⟨⟨by decide +kernel, by decide +kernel⟩, List.mem_of_getElem? (i := 597) (by decide +kernel), List.mem_of_getElem? (i := 1026) (by decide +kernel), List.mem_of_getElem? (i := 1027) (by decide +kernel)⟩
theorem lw_p30 : lw_okq (⟨"RoutingField$Router", "openDraft", "(LRoutingField$Port;II)I"⟩, 20) := ⟨⟨by decide +kernel, by decide +kernel⟩, List.mem_of_getElem? (i := 597) (by decide +kernel), List.mem_of_getElem? (i := 1116) (by decide +kernel), List.mem_of_getElem? (i := 1117) (by decide +kernel)⟩
theorem lw_p31 : lw_okq (⟨"RoutingField$Chain", "sum", "(LRoutingField$Bytes;II)V"⟩, 12) := ⟨⟨by decide +kernel, by decide +kernel⟩, List.mem_of_getElem? (i := 290) (by decide +kernel), List.mem_of_getElem? (i := 1156) (by decide +kernel), List.mem_of_getElem? (i := 1157) (by decide +kernel)⟩
def lw_privs_2 : List (MethodName × Nat) := [(⟨"RoutingField$Reader", "takePrefix", "(IZ)Z"⟩, 12), (⟨"RoutingField$Prefix", "parseSix", "(LRoutingField$Bytes;II)Z"⟩, 4), (⟨"RoutingField$Prefix", "openGap", "(II)Z"⟩, 4), (⟨"RoutingField$Prefix", "parseFour", "(LRoutingField$Bytes;II)Z"⟩, 4), (⟨"RoutingField$Reader", "takeJoinOptions", "(LRoutingField$Port;)I"⟩, 12), (⟨"RoutingField$Reader", "takeKeyOption", "(II)I"⟩, 12), (⟨"RoutingField$Reader", "takeSecret", "(I)Z"⟩, 12), (⟨"RoutingField$Reader", "setJoined", "(LRoutingField$Port;)V"⟩, 12), (⟨"RoutingField$Router", "portOf", "(LRoutingField$Prefix;)LRoutingField$Port;"⟩, 20), (⟨"RoutingField$Table", "placeOf", "(LRoutingField$Prefix;)I"⟩, 2), (⟨"RoutingField$Router", "lapse", "(LRoutingField$Route;)V"⟩, 20), (⟨"RoutingField$Router", "die", "(LRoutingField$Route;)V"⟩, 20), (⟨"RoutingField$Router", "startDeadline", "(LRoutingField$Route;I)V"⟩, 20), (⟨"RoutingField$Router", "markChanged", "(LRoutingField$Route;)V"⟩, 20), (⟨"RoutingField$Router", "openDraft", "(LRoutingField$Port;II)I"⟩, 20), (⟨"RoutingField$Chain", "sum", "(LRoutingField$Bytes;II)V"⟩, 12)]
theorem lw_r2 : ∀ q ∈ lw_privs_2, lw_okq q := List.forall_mem_cons.mpr ⟨lw_p16, List.forall_mem_cons.mpr ⟨lw_p17, List.forall_mem_cons.mpr ⟨lw_p18, List.forall_mem_cons.mpr ⟨lw_p19, List.forall_mem_cons.mpr ⟨lw_p20, List.forall_mem_cons.mpr ⟨lw_p21, List.forall_mem_cons.mpr ⟨lw_p22, List.forall_mem_cons.mpr ⟨lw_p23, List.forall_mem_cons.mpr ⟨lw_p24, List.forall_mem_cons.mpr ⟨lw_p25, List.forall_mem_cons.mpr ⟨lw_p26, List.forall_mem_cons.mpr ⟨lw_p27, List.forall_mem_cons.mpr ⟨lw_p28, List.forall_mem_cons.mpr ⟨lw_p29, List.forall_mem_cons.mpr ⟨lw_p30, List.forall_mem_cons.mpr ⟨lw_p31, fun _ h => absurd h List.not_mem_nil⟩⟩⟩⟩⟩⟩⟩⟩⟩⟩⟩⟩⟩⟩⟩⟩
theorem lw_p32 : lw_okq (⟨"RoutingField$Chain", "addWork", "([BI)V"⟩, 12) := ⟨⟨by decide +kernel, by decide +kernel⟩, List.mem_of_getElem? (i := 290) (by decide +kernel), List.mem_of_getElem? (i := 1163) (by decide +kernel), List.mem_of_getElem? (i := 1164) (by decide +kernel)⟩
theorem lw_p33 : lw_okq (⟨"RoutingField$Chain", "addSecret", "(III)V"⟩, 12) := ⟨⟨by decide +kernel, by decide +kernel⟩, List.mem_of_getElem? (i := 290) (by decide +kernel), List.mem_of_getElem? (i := 1167) (by decide +kernel), List.mem_of_getElem? (i := 1168) (by decide +kernel)⟩
theorem lw_p34 : lw_okq (⟨"RoutingField$Chain", "fillBlock", "(Z)V"⟩, 12) := ⟨⟨by decide +kernel, by decide +kernel⟩, List.mem_of_getElem? (i := 290) (by decide +kernel), List.mem_of_getElem? (i := 1171) (by decide +kernel), List.mem_of_getElem? (i := 1172) (by decide +kernel)⟩
theorem lw_p35 : lw_okq (⟨"RoutingField$Chain", "md5", "()V"⟩, 12) := ⟨⟨by decide +kernel, by decide +kernel⟩, List.mem_of_getElem? (i := 290) (by decide +kernel), List.mem_of_getElem? (i := 1175) (by decide +kernel), List.mem_of_getElem? (i := 1176) (by decide +kernel)⟩
theorem lw_p36 : lw_okq (⟨"RoutingField$Chain", "begin", "()V"⟩, 12) := ⟨⟨by decide +kernel, by decide +kernel⟩, List.mem_of_getElem? (i := 290) (by decide +kernel), List.mem_of_getElem? (i := 1179) (by decide +kernel), List.mem_of_getElem? (i := 1180) (by decide +kernel)⟩
theorem lw_p37 : lw_okq (⟨"RoutingField$Chain", "md5Block", "()V"⟩, 12) := ⟨⟨by decide +kernel, by decide +kernel⟩, List.mem_of_getElem? (i := 290) (by decide +kernel), List.mem_of_getElem? (i := 1188) (by decide +kernel), List.mem_of_getElem? (i := 1189) (by decide +kernel)⟩
theorem lw_p38 : lw_okq (⟨"RoutingField$Chain", "sha", "()V"⟩, 12) := ⟨⟨by decide +kernel, by decide +kernel⟩, List.mem_of_getElem? (i := 290) (by decide +kernel), List.mem_of_getElem? (i := 1196) (by decide +kernel), List.mem_of_getElem? (i := 1197) (by decide +kernel)⟩
theorem lw_p39 : lw_okq (⟨"RoutingField$Chain", "shaBlock", "()V"⟩, 12) := ⟨⟨by decide +kernel, by decide +kernel⟩, List.mem_of_getElem? (i := 290) (by decide +kernel), List.mem_of_getElem? (i := 1200) (by decide +kernel), List.mem_of_getElem? (i := 1201) (by decide +kernel)⟩
theorem lw_p40 : lw_okq (⟨"RoutingField$Chain", "sumByte", "(II)I"⟩, 12) := ⟨⟨by decide +kernel, by decide +kernel⟩, List.mem_of_getElem? (i := 290) (by decide +kernel), List.mem_of_getElem? (i := 1208) (by decide +kernel), List.mem_of_getElem? (i := 1209) (by decide +kernel)⟩
theorem lw_p41 : lw_okq (⟨"RoutingField$Router", "sendDraft", "(LRoutingField$Port;LRoutingField$Prefix;)V"⟩, 20) := ⟨⟨by decide +kernel, by decide +kernel⟩, List.mem_of_getElem? (i := 597) (by decide +kernel), List.mem_of_getElem? (i := 1212) (by decide +kernel), List.mem_of_getElem? (i := 1213) (by decide +kernel)⟩
theorem lw_p42 : lw_okq (⟨"RoutingField", "launch", "(LRoutingField$Link;)V"⟩, 20) := ⟨⟨by decide +kernel, by decide +kernel⟩, List.mem_of_getElem? (i := 26) (by decide +kernel), List.mem_of_getElem? (i := 1220) (by decide +kernel), List.mem_of_getElem? (i := 1221) (by decide +kernel)⟩
theorem lw_p43 : lw_okq (⟨"RoutingField$Reader", "keyLine", "()I"⟩, 12) := ⟨⟨by decide +kernel, by decide +kernel⟩, List.mem_of_getElem? (i := 282) (by decide +kernel), List.mem_of_getElem? (i := 1233) (by decide +kernel), List.mem_of_getElem? (i := 1234) (by decide +kernel)⟩
theorem lw_p44 : lw_okq (⟨"RoutingField$Reader", "isEither", "(ILjava/lang/String;Ljava/lang/String;)Z"⟩, 12) := ⟨⟨by decide +kernel, by decide +kernel⟩, List.mem_of_getElem? (i := 282) (by decide +kernel), List.mem_of_getElem? (i := 1237) (by decide +kernel), List.mem_of_getElem? (i := 1238) (by decide +kernel)⟩
theorem lw_p45 : lw_okq (⟨"RoutingField$Reader", "portNamed", "()LRoutingField$Port;"⟩, 12) := ⟨⟨by decide +kernel, by decide +kernel⟩, List.mem_of_getElem? (i := 282) (by decide +kernel), List.mem_of_getElem? (i := 1241) (by decide +kernel), List.mem_of_getElem? (i := 1242) (by decide +kernel)⟩
theorem lw_p46 : lw_okq (⟨"RoutingField$Reader", "nokeyLine", "()I"⟩, 12) := ⟨⟨by decide +kernel, by decide +kernel⟩, List.mem_of_getElem? (i := 282) (by decide +kernel), List.mem_of_getElem? (i := 1246) (by decide +kernel), List.mem_of_getElem? (i := 1247) (by decide +kernel)⟩
theorem lw_p47 : lw_okq (⟨"RoutingField$Reader", "staticLine", "()I"⟩, 12) := ⟨⟨by decide +kernel, by decide +kernel⟩, List.mem_of_getElem? (i := 282) (by decide +kernel), List.mem_of_getElem? (i := 1251) (by decide +kernel), List.mem_of_getElem? (i := 1252) (by decide +kernel)⟩
def lw_privs_3 : List (MethodName × Nat) := [(⟨"RoutingField$Chain", "addWork", "([BI)V"⟩, 12), (⟨"RoutingField$Chain", "addSecret", "(III)V"⟩, 12), (⟨"RoutingField$Chain", "fillBlock", "(Z)V"⟩, 12), (⟨"RoutingField$Chain", "md5", "()V"⟩, 12), (⟨"RoutingField$Chain", "begin", "()V"⟩, 12), (⟨"RoutingField$Chain", "md5Block", "()V"⟩, 12), (⟨"RoutingField$Chain", "sha", "()V"⟩, 12), (⟨"RoutingField$Chain", "shaBlock", "()V"⟩, 12), (⟨"RoutingField$Chain", "sumByte", "(II)I"⟩, 12), (⟨"RoutingField$Router", "sendDraft", "(LRoutingField$Port;LRoutingField$Prefix;)V"⟩, 20), (⟨"RoutingField", "launch", "(LRoutingField$Link;)V"⟩, 20), (⟨"RoutingField$Reader", "keyLine", "()I"⟩, 12), (⟨"RoutingField$Reader", "isEither", "(ILjava/lang/String;Ljava/lang/String;)Z"⟩, 12), (⟨"RoutingField$Reader", "portNamed", "()LRoutingField$Port;"⟩, 12), (⟨"RoutingField$Reader", "nokeyLine", "()I"⟩, 12), (⟨"RoutingField$Reader", "staticLine", "()I"⟩, 12)]
theorem lw_r3 : ∀ q ∈ lw_privs_3, lw_okq q := List.forall_mem_cons.mpr ⟨lw_p32, List.forall_mem_cons.mpr ⟨lw_p33, List.forall_mem_cons.mpr ⟨lw_p34, List.forall_mem_cons.mpr ⟨lw_p35, List.forall_mem_cons.mpr ⟨lw_p36, List.forall_mem_cons.mpr ⟨lw_p37, List.forall_mem_cons.mpr ⟨lw_p38, List.forall_mem_cons.mpr ⟨lw_p39, List.forall_mem_cons.mpr ⟨lw_p40, List.forall_mem_cons.mpr ⟨lw_p41, List.forall_mem_cons.mpr ⟨lw_p42, List.forall_mem_cons.mpr ⟨lw_p43, List.forall_mem_cons.mpr ⟨lw_p44, List.forall_mem_cons.mpr ⟨lw_p45, List.forall_mem_cons.mpr ⟨lw_p46, List.forall_mem_cons.mpr ⟨lw_p47, fun _ h => absurd h List.not_mem_nil⟩⟩⟩⟩⟩⟩⟩⟩⟩⟩⟩⟩⟩⟩⟩⟩
theorem lw_p48 : lw_okq (⟨"RoutingField$Reader", "hasTagOption", "(I)Z"⟩, 12) := ⟨⟨by decide +kernel, by decide +kernel⟩, List.mem_of_getElem? (i := 282) (by decide +kernel), List.mem_of_getElem? (i := 1255) (by decide +kernel), List.mem_of_getElem? (i := 1256) (by decide +kernel)⟩
theorem lw_p49 : lw_okq (⟨"RoutingField$Reader", "nostaticLine", "()I"⟩, 12) := ⟨⟨by decide +kernel, by decide +kernel⟩, List.mem_of_getElem? (i := 282) (by decide +kernel), List.mem_of_getElem? (i := 1265) (by decide +kernel), List.mem_of_getElem? (i := 1266) (by decide +kernel)⟩
theorem lw_p50 : lw_okq (⟨"RoutingField$Reader", "filterLine", "()I"⟩, 12) := ⟨⟨by decide +kernel, by decide +kernel⟩, List.mem_of_getElem? (i := 282) (by decide +kernel), List.mem_of_getElem? (i := 1278) (by decide +kernel), List.mem_of_getElem? (i := 1279) (by decide +kernel)⟩
theorem lw_p51 : lw_okq (⟨"RoutingField$Reader", "listLine", "()I"⟩, 12) := ⟨⟨by decide +kernel, by decide +kernel⟩, List.mem_of_getElem? (i := 282) (by decide +kernel), List.mem_of_getElem? (i := 1298) (by decide +kernel), List.mem_of_getElem? (i := 1299) (by decide +kernel)⟩
theorem lw_p52 : lw_okq (⟨"RoutingField$Reader", "listNamed", "(I)I"⟩, 12) := ⟨⟨by decide +kernel, by decide +kernel⟩, List.mem_of_getElem? (i := 282) (by decide +kernel), List.mem_of_getElem? (i := 1305) (by decide +kernel), List.mem_of_getElem? (i := 1306) (by decide +kernel)⟩
theorem lw_p53 : lw_okq (⟨"RoutingField$Reader", "distributeLine", "()I"⟩, 12) := ⟨⟨by decide +kernel, by decide +kernel⟩, List.mem_of_getElem? (i := 282) (by decide +kernel), List.mem_of_getElem? (i := 1312) (by decide +kernel), List.mem_of_getElem? (i := 1313) (by decide +kernel)⟩
theorem lw_p54 : lw_okq (⟨"RoutingField$Reader", "namesPolicy", "()Z"⟩, 12) := ⟨⟨by decide +kernel, by decide +kernel⟩, List.mem_of_getElem? (i := 282) (by decide +kernel), List.mem_of_getElem? (i := 1316) (by decide +kernel), List.mem_of_getElem? (i := 1317) (by decide +kernel)⟩
theorem lw_p55 : lw_okq (⟨"RoutingField$Reader", "setPolicy", "([II)V"⟩, 12) := ⟨⟨by decide +kernel, by decide +kernel⟩, List.mem_of_getElem? (i := 282) (by decide +kernel), List.mem_of_getElem? (i := 1321) (by decide +kernel), List.mem_of_getElem? (i := 1322) (by decide +kernel)⟩
theorem lw_p56 : lw_okq (⟨"RoutingField$Reader", "offsetLine", "()I"⟩, 12) := ⟨⟨by decide +kernel, by decide +kernel⟩, List.mem_of_getElem? (i := 282) (by decide +kernel), List.mem_of_getElem? (i := 1326) (by decide +kernel), List.mem_of_getElem? (i := 1327) (by decide +kernel)⟩
theorem lw_p57 : lw_okq (⟨"RoutingField$Reader", "summaryLine", "()I"⟩, 12) := ⟨⟨by decide +kernel, by decide +kernel⟩, List.mem_of_getElem? (i := 282) (by decide +kernel), List.mem_of_getElem? (i := 1331) (by decide +kernel), List.mem_of_getElem? (i := 1332) (by decide +kernel)⟩
theorem lw_p58 : lw_okq (⟨"RoutingField$Reader", "neighborLine", "()I"⟩, 12) := ⟨⟨by decide +kernel, by decide +kernel⟩, List.mem_of_getElem? (i := 282) (by decide +kernel), List.mem_of_getElem? (i := 1340) (by decide +kernel), List.mem_of_getElem? (i := 1341) (by decide +kernel)⟩
theorem lw_p59 : lw_okq (⟨"RoutingField$Reader", "redistributeLine", "()I"⟩, 12) := ⟨⟨by decide +kernel, by decide +kernel⟩, List.mem_of_getElem? (i := 282) (by decide +kernel), List.mem_of_getElem? (i := 1349) (by decide +kernel), List.mem_of_getElem? (i := 1350) (by decide +kernel)⟩
theorem lw_p60 : lw_okq (⟨"RoutingField$Reader", "defaultLine", "()I"⟩, 12) := ⟨⟨by decide +kernel, by decide +kernel⟩, List.mem_of_getElem? (i := 282) (by decide +kernel), List.mem_of_getElem? (i := 1356) (by decide +kernel), List.mem_of_getElem? (i := 1357) (by decide +kernel)⟩
theorem lw_p61 : lw_okq (⟨"RoutingField$Reader", "timersLine", "()I"⟩, 12) := ⟨⟨by decide +kernel, by decide +kernel⟩, List.mem_of_getElem? (i := 282) (by decide +kernel), List.mem_of_getElem? (i := 1362) (by decide +kernel), List.mem_of_getElem? (i := 1363) (by decide +kernel)⟩
theorem lw_p62 : lw_okq (⟨"RoutingField", "bringDue", "()V"⟩, 20) := ⟨⟨by decide +kernel, by decide +kernel⟩, List.mem_of_getElem? (i := 26) (by decide +kernel), List.mem_of_getElem? (i := 1374) (by decide +kernel), List.mem_of_getElem? (i := 1375) (by decide +kernel)⟩
theorem lw_p63 : lw_okq (⟨"RoutingField", "takeOut", "(I)V"⟩, 20) := ⟨⟨by decide +kernel, by decide +kernel⟩, List.mem_of_getElem? (i := 26) (by decide +kernel), List.mem_of_getElem? (i := 1378) (by decide +kernel), List.mem_of_getElem? (i := 1379) (by decide +kernel)⟩
def lw_privs_4 : List (MethodName × Nat) := [(⟨"RoutingField$Reader", "hasTagOption", "(I)Z"⟩, 12), (⟨"RoutingField$Reader", "nostaticLine", "()I"⟩, 12), (⟨"RoutingField$Reader", "filterLine", "()I"⟩, 12), (⟨"RoutingField$Reader", "listLine", "()I"⟩, 12), (⟨"RoutingField$Reader", "listNamed", "(I)I"⟩, 12), (⟨"RoutingField$Reader", "distributeLine", "()I"⟩, 12), (⟨"RoutingField$Reader", "namesPolicy", "()Z"⟩, 12), (⟨"RoutingField$Reader", "setPolicy", "([II)V"⟩, 12), (⟨"RoutingField$Reader", "offsetLine", "()I"⟩, 12), (⟨"RoutingField$Reader", "summaryLine", "()I"⟩, 12), (⟨"RoutingField$Reader", "neighborLine", "()I"⟩, 12), (⟨"RoutingField$Reader", "redistributeLine", "()I"⟩, 12), (⟨"RoutingField$Reader", "defaultLine", "()I"⟩, 12), (⟨"RoutingField$Reader", "timersLine", "()I"⟩, 12), (⟨"RoutingField", "bringDue", "()V"⟩, 20), (⟨"RoutingField", "takeOut", "(I)V"⟩, 20)]
theorem lw_r4 : ∀ q ∈ lw_privs_4, lw_okq q := List.forall_mem_cons.mpr ⟨lw_p48, List.forall_mem_cons.mpr ⟨lw_p49, List.forall_mem_cons.mpr ⟨lw_p50, List.forall_mem_cons.mpr ⟨lw_p51, List.forall_mem_cons.mpr ⟨lw_p52, List.forall_mem_cons.mpr ⟨lw_p53, List.forall_mem_cons.mpr ⟨lw_p54, List.forall_mem_cons.mpr ⟨lw_p55, List.forall_mem_cons.mpr ⟨lw_p56, List.forall_mem_cons.mpr ⟨lw_p57, List.forall_mem_cons.mpr ⟨lw_p58, List.forall_mem_cons.mpr ⟨lw_p59, List.forall_mem_cons.mpr ⟨lw_p60, List.forall_mem_cons.mpr ⟨lw_p61, List.forall_mem_cons.mpr ⟨lw_p62, List.forall_mem_cons.mpr ⟨lw_p63, fun _ h => absurd h List.not_mem_nil⟩⟩⟩⟩⟩⟩⟩⟩⟩⟩⟩⟩⟩⟩⟩⟩
end
section
theorem lw_p64 : lw_okq (⟨"RoutingField$Chain", "goodKey", "(II)I"⟩, 12) := ⟨⟨by decide +kernel, by decide +kernel⟩, List.mem_of_getElem? (i := 290) (by decide +kernel), List.mem_of_getElem? (i := 1416) (by decide +kernel), List.mem_of_getElem? (i := 1417) (by decide +kernel)⟩
theorem lw_p65 : lw_okq (⟨"RoutingField$Port", "isFresh", "(LRoutingField$Prefix;I)Z"⟩, 19) := ⟨⟨by decide +kernel, by decide +kernel⟩, List.mem_of_getElem? (i := 862) (by decide +kernel), List.mem_of_getElem? (i := 1431) (by decide +kernel), List.mem_of_getElem? (i := 1432) (by decide +kernel)⟩
theorem lw_p66 : lw_okq (⟨"RoutingField$Router", "gather", "(LRoutingField$Port;II)V"⟩, 20) := ⟨⟨by decide +kernel, by decide +kernel⟩, List.mem_of_getElem? (i := 597) (by decide +kernel), List.mem_of_getElem? (i := 1462) (by decide +kernel), List.mem_of_getElem? (i := 1463) (by decide +kernel)⟩
theorem lw_p67 : lw_okq (⟨"RoutingField$Router", "toldMetric", "(LRoutingField$Route;LRoutingField$Port;)I"⟩, 20) := ⟨⟨by decide +kernel, by decide +kernel⟩, List.mem_of_getElem? (i := 597) (by decide +kernel), List.mem_of_getElem? (i := 1474) (by decide +kernel), List.mem_of_getElem? (i := 1475) (by decide +kernel)⟩
theorem lw_p68 : lw_okq (⟨"RoutingField$Router", "refuses", "(ILRoutingField$Link;LRoutingField$Prefix;)Z"⟩, 20) := ⟨⟨by decide +kernel, by decide +kernel⟩, List.mem_of_getElem? (i := 597) (by decide +kernel), List.mem_of_getElem? (i := 1478) (by decide +kernel), List.mem_of_getElem? (i := 1479) (by decide +kernel)⟩
theorem lw_p69 : lw_okq (⟨"RoutingField$Router", "concerns", "([IILRoutingField$Link;)Z"⟩, 20) := ⟨⟨by decide +kernel, by decide +kernel⟩, List.mem_of_getElem? (i := 597) (by decide +kernel), List.mem_of_getElem? (i := 1487) (by decide +kernel), List.mem_of_getElem? (i := 1488) (by decide +kernel)⟩
theorem lw_p70 : lw_okq (⟨"RoutingField$Router", "raised", "(IILRoutingField$Link;LRoutingField$Prefix;)I"⟩, 20) := ⟨⟨by decide +kernel, by decide +kernel⟩, List.mem_of_getElem? (i := 597) (by decide +kernel), List.mem_of_getElem? (i := 1492) (by decide +kernel), List.mem_of_getElem? (i := 1493) (by decide +kernel)⟩
theorem lw_p71 : lw_okq (⟨"RoutingField$Router", "toldTag", "(LRoutingField$Route;)I"⟩, 20) := ⟨⟨by decide +kernel, by decide +kernel⟩, List.mem_of_getElem? (i := 597) (by decide +kernel), List.mem_of_getElem? (i := 1497) (by decide +kernel), List.mem_of_getElem? (i := 1498) (by decide +kernel)⟩
theorem lw_p72 : lw_okq (⟨"RoutingField$Router", "gatherSummaries", "(LRoutingField$Port;)V"⟩, 20) := ⟨⟨by decide +kernel, by decide +kernel⟩, List.mem_of_getElem? (i := 597) (by decide +kernel), List.mem_of_getElem? (i := 1507) (by decide +kernel), List.mem_of_getElem? (i := 1508) (by decide +kernel)⟩
theorem lw_p73 : lw_okq (⟨"RoutingField$Router", "sendTold", "(LRoutingField$Port;ILRoutingField$Prefix;)V"⟩, 20) := ⟨⟨by decide +kernel, by decide +kernel⟩, List.mem_of_getElem? (i := 597) (by decide +kernel), List.mem_of_getElem? (i := 1512) (by decide +kernel), List.mem_of_getElem? (i := 1513) (by decide +kernel)⟩
theorem lw_p74 : lw_okq (⟨"RoutingField$Router", "answerEach", "(LRoutingField$Datagram;LRoutingField$Port;)V"⟩, 20) := ⟨⟨by decide +kernel, by decide +kernel⟩, List.mem_of_getElem? (i := 597) (by decide +kernel), List.mem_of_getElem? (i := 1529) (by decide +kernel), List.mem_of_getElem? (i := 1530) (by decide +kernel)⟩
theorem lw_p75 : lw_okq (⟨"RoutingField$Router", "takeHop", "(LRoutingField$Datagram;ILRoutingField$Port;)V"⟩, 20) := ⟨⟨by decide +kernel, by decide +kernel⟩, List.mem_of_getElem? (i := 597) (by decide +kernel), List.mem_of_getElem? (i := 1556) (by decide +kernel), List.mem_of_getElem? (i := 1557) (by decide +kernel)⟩
theorem lw_p76 : lw_okq (⟨"RoutingField$Router", "hearEntry", "(LRoutingField$Datagram;ILRoutingField$Port;)V"⟩, 20) := ⟨⟨by decide +kernel, by decide +kernel⟩, List.mem_of_getElem? (i := 597) (by decide +kernel), List.mem_of_getElem? (i := 1564) (by decide +kernel), List.mem_of_getElem? (i := 1565) (by decide +kernel)⟩
theorem lw_p77 : lw_okq (⟨"RoutingField$Router", "hearAgain", "(LRoutingField$Route;LRoutingField$Datagram;ILRoutingField$Port;I)V"⟩, 20) := ⟨⟨by decide +kernel, by decide +kernel⟩, List.mem_of_getElem? (i := 597) (by decide +kernel), List.mem_of_getElem? (i := 1576) (by decide +kernel), List.mem_of_getElem? (i := 1577) (by decide +kernel)⟩
theorem lw_p78 : lw_okq (⟨"RoutingField$Router", "startTimeout", "(LRoutingField$Route;)V"⟩, 20) := ⟨⟨by decide +kernel, by decide +kernel⟩, List.mem_of_getElem? (i := 597) (by decide +kernel), List.mem_of_getElem? (i := 1580) (by decide +kernel), List.mem_of_getElem? (i := 1581) (by decide +kernel)⟩
theorem lw_p79 : lw_okq (⟨"RoutingField$Router", "take", "(LRoutingField$Route;LRoutingField$Datagram;ILRoutingField$Port;I)V"⟩, 20) := ⟨⟨by decide +kernel, by decide +kernel⟩, List.mem_of_getElem? (i := 597) (by decide +kernel), List.mem_of_getElem? (i := 1584) (by decide +kernel), List.mem_of_getElem? (i := 1585) (by decide +kernel)⟩
def lw_privs_5 : List (MethodName × Nat) := [(⟨"RoutingField$Chain", "goodKey", "(II)I"⟩, 12), (⟨"RoutingField$Port", "isFresh", "(LRoutingField$Prefix;I)Z"⟩, 19), (⟨"RoutingField$Router", "gather", "(LRoutingField$Port;II)V"⟩, 20), (⟨"RoutingField$Router", "toldMetric", "(LRoutingField$Route;LRoutingField$Port;)I"⟩, 20), (⟨"RoutingField$Router", "refuses", "(ILRoutingField$Link;LRoutingField$Prefix;)Z"⟩, 20), (⟨"RoutingField$Router", "concerns", "([IILRoutingField$Link;)Z"⟩, 20), (⟨"RoutingField$Router", "raised", "(IILRoutingField$Link;LRoutingField$Prefix;)I"⟩, 20), (⟨"RoutingField$Router", "toldTag", "(LRoutingField$Route;)I"⟩, 20), (⟨"RoutingField$Router", "gatherSummaries", "(LRoutingField$Port;)V"⟩, 20), (⟨"RoutingField$Router", "sendTold", "(LRoutingField$Port;ILRoutingField$Prefix;)V"⟩, 20), (⟨"RoutingField$Router", "answerEach", "(LRoutingField$Datagram;LRoutingField$Port;)V"⟩, 20), (⟨"RoutingField$Router", "takeHop", "(LRoutingField$Datagram;ILRoutingField$Port;)V"⟩, 20), (⟨"RoutingField$Router", "hearEntry", "(LRoutingField$Datagram;ILRoutingField$Port;)V"⟩, 20), (⟨"RoutingField$Router", "hearAgain", "(LRoutingField$Route;LRoutingField$Datagram;ILRoutingField$Port;I)V"⟩, 20), (⟨"RoutingField$Router", "startTimeout", "(LRoutingField$Route;)V"⟩, 20), (⟨"RoutingField$Router", "take", "(LRoutingField$Route;LRoutingField$Datagram;ILRoutingField$Port;I)V"⟩, 20)]
theorem lw_r5 : ∀ q ∈ lw_privs_5, lw_okq q := List.forall_mem_cons.mpr ⟨lw_p64, List.forall_mem_cons.mpr ⟨lw_p65, List.forall_mem_cons.mpr ⟨lw_p66, List.forall_mem_cons.mpr ⟨lw_p67, List.forall_mem_cons.mpr ⟨lw_p68, List.forall_mem_cons.mpr ⟨lw_p69, List.forall_mem_cons.mpr ⟨lw_p70, List.forall_mem_cons.mpr ⟨lw_p71, List.forall_mem_cons.mpr ⟨lw_p72, List.forall_mem_cons.mpr ⟨lw_p73, List.forall_mem_cons.mpr ⟨lw_p74, List.forall_mem_cons.mpr ⟨lw_p75, List.forall_mem_cons.mpr ⟨lw_p76, List.forall_mem_cons.mpr ⟨lw_p77, List.forall_mem_cons.mpr ⟨lw_p78, List.forall_mem_cons.mpr ⟨lw_p79, fun _ h => absurd h List.not_mem_nil⟩⟩⟩⟩⟩⟩⟩⟩⟩⟩⟩⟩⟩⟩⟩⟩
theorem lw_p80 : lw_okq (⟨"RoutingField", "giveBack", "(LRoutingField$Datagram;)V"⟩, 20) := ⟨⟨by decide +kernel, by decide +kernel⟩, List.mem_of_getElem? (i := 26) (by decide +kernel), List.mem_of_getElem? (i := 1596) (by decide +kernel), List.mem_of_getElem? (i := 1597) (by decide +kernel)⟩
theorem lw_p81 : lw_okq (⟨"RoutingField$Router", "age", "()V"⟩, 20) := ⟨⟨by decide +kernel, by decide +kernel⟩, List.mem_of_getElem? (i := 597) (by decide +kernel), List.mem_of_getElem? (i := 1604) (by decide +kernel), List.mem_of_getElem? (i := 1605) (by decide +kernel)⟩
theorem lw_p82 : lw_okq (⟨"RoutingField$Router", "tell", "(I)V"⟩, 20) := ⟨⟨by decide +kernel, by decide +kernel⟩, List.mem_of_getElem? (i := 597) (by decide +kernel), List.mem_of_getElem? (i := 1609) (by decide +kernel), List.mem_of_getElem? (i := 1610) (by decide +kernel)⟩
theorem lw_p83 : lw_okq (⟨"RoutingField$Router", "forgetChanges", "()V"⟩, 20) := ⟨⟨by decide +kernel, by decide +kernel⟩, List.mem_of_getElem? (i := 597) (by decide +kernel), List.mem_of_getElem? (i := 1613) (by decide +kernel), List.mem_of_getElem? (i := 1614) (by decide +kernel)⟩
theorem lw_p84 : lw_okq (⟨"RoutingField", "raise", "(LRoutingField$Link;)V"⟩, 20) := ⟨⟨by decide +kernel, by decide +kernel⟩, List.mem_of_getElem? (i := 26) (by decide +kernel), List.mem_of_getElem? (i := 1622) (by decide +kernel), List.mem_of_getElem? (i := 1623) (by decide +kernel)⟩
theorem lw_p85 : lw_okq (⟨"RoutingField", "dropFlights", "(LRoutingField$Link;)V"⟩, 20) := ⟨⟨by decide +kernel, by decide +kernel⟩, List.mem_of_getElem? (i := 26) (by decide +kernel), List.mem_of_getElem? (i := 1629) (by decide +kernel), List.mem_of_getElem? (i := 1630) (by decide +kernel)⟩
theorem lw_p86 : lw_okq (⟨"RoutingField", "lower", "(LRoutingField$Link;)V"⟩, 20) := ⟨⟨by decide +kernel, by decide +kernel⟩, List.mem_of_getElem? (i := 26) (by decide +kernel), List.mem_of_getElem? (i := 1633) (by decide +kernel), List.mem_of_getElem? (i := 1634) (by decide +kernel)⟩
theorem lw_p87 : lw_okq (⟨"RoutingField", "routerAt", "(I)LRoutingField$Router;"⟩, 20) := ⟨⟨by decide +kernel, by decide +kernel⟩, List.mem_of_getElem? (i := 26) (by decide +kernel), List.mem_of_getElem? (i := 1649) (by decide +kernel), List.mem_of_getElem? (i := 1650) (by decide +kernel)⟩
theorem lw_p88 : lw_okq (⟨"RoutingField", "writeRoutes", "(LRoutingField$Router;)V"⟩, 20) := ⟨⟨by decide +kernel, by decide +kernel⟩, List.mem_of_getElem? (i := 26) (by decide +kernel), List.mem_of_getElem? (i := 1673) (by decide +kernel), List.mem_of_getElem? (i := 1674) (by decide +kernel)⟩
theorem lw_p89 : lw_okq (⟨"RoutingField", "writeRoute", "(LRoutingField$Route;)V"⟩, 20) := ⟨⟨by decide +kernel, by decide +kernel⟩, List.mem_of_getElem? (i := 26) (by decide +kernel), List.mem_of_getElem? (i := 1677) (by decide +kernel), List.mem_of_getElem? (i := 1678) (by decide +kernel)⟩
theorem lw_p90 : lw_okq (⟨"RoutingField$Bytes", "addSix", "(LRoutingField$Prefix;)V"⟩, 2) := ⟨⟨by decide +kernel, by decide +kernel⟩, List.mem_of_getElem? (i := 34) (by decide +kernel), List.mem_of_getElem? (i := 1700) (by decide +kernel), List.mem_of_getElem? (i := 1701) (by decide +kernel)⟩
theorem lw_p91 : lw_okq (⟨"RoutingField$Bytes", "addHex", "(I)V"⟩, 2) := ⟨⟨by decide +kernel, by decide +kernel⟩, List.mem_of_getElem? (i := 34) (by decide +kernel), List.mem_of_getElem? (i := 1710) (by decide +kernel), List.mem_of_getElem? (i := 1711) (by decide +kernel)⟩
theorem lw_p92 : lw_okq (⟨"RoutingField", "writePorts", "(LRoutingField$Router;)V"⟩, 20) := ⟨⟨by decide +kernel, by decide +kernel⟩, List.mem_of_getElem? (i := 26) (by decide +kernel), List.mem_of_getElem? (i := 1734) (by decide +kernel), List.mem_of_getElem? (i := 1735) (by decide +kernel)⟩
theorem lw_p93 : lw_okq (⟨"RoutingField", "writeCounts", "(LRoutingField$Router;)V"⟩, 20) := ⟨⟨by decide +kernel, by decide +kernel⟩, List.mem_of_getElem? (i := 26) (by decide +kernel), List.mem_of_getElem? (i := 1756) (by decide +kernel), List.mem_of_getElem? (i := 1757) (by decide +kernel)⟩
theorem lw_p94 : lw_okq (⟨"RoutingField", "writeTimes", "(LRoutingField$Router;)V"⟩, 20) := ⟨⟨by decide +kernel, by decide +kernel⟩, List.mem_of_getElem? (i := 26) (by decide +kernel), List.mem_of_getElem? (i := 1760) (by decide +kernel), List.mem_of_getElem? (i := 1761) (by decide +kernel)⟩
theorem lw_p95 : lw_okq (⟨"RoutingField", "writeLink", "(LRoutingField$Link;)V"⟩, 20) := ⟨⟨by decide +kernel, by decide +kernel⟩, List.mem_of_getElem? (i := 26) (by decide +kernel), List.mem_of_getElem? (i := 1769) (by decide +kernel), List.mem_of_getElem? (i := 1770) (by decide +kernel)⟩
def lw_privs_6 : List (MethodName × Nat) := [(⟨"RoutingField", "giveBack", "(LRoutingField$Datagram;)V"⟩, 20), (⟨"RoutingField$Router", "age", "()V"⟩, 20), (⟨"RoutingField$Router", "tell", "(I)V"⟩, 20), (⟨"RoutingField$Router", "forgetChanges", "()V"⟩, 20), (⟨"RoutingField", "raise", "(LRoutingField$Link;)V"⟩, 20), (⟨"RoutingField", "dropFlights", "(LRoutingField$Link;)V"⟩, 20), (⟨"RoutingField", "lower", "(LRoutingField$Link;)V"⟩, 20), (⟨"RoutingField", "routerAt", "(I)LRoutingField$Router;"⟩, 20), (⟨"RoutingField", "writeRoutes", "(LRoutingField$Router;)V"⟩, 20), (⟨"RoutingField", "writeRoute", "(LRoutingField$Route;)V"⟩, 20), (⟨"RoutingField$Bytes", "addSix", "(LRoutingField$Prefix;)V"⟩, 2), (⟨"RoutingField$Bytes", "addHex", "(I)V"⟩, 2), (⟨"RoutingField", "writePorts", "(LRoutingField$Router;)V"⟩, 20), (⟨"RoutingField", "writeCounts", "(LRoutingField$Router;)V"⟩, 20), (⟨"RoutingField", "writeTimes", "(LRoutingField$Router;)V"⟩, 20), (⟨"RoutingField", "writeLink", "(LRoutingField$Link;)V"⟩, 20)]
theorem lw_r6 : ∀ q ∈ lw_privs_6, lw_okq q := List.forall_mem_cons.mpr ⟨lw_p80, List.forall_mem_cons.mpr ⟨lw_p81, List.forall_mem_cons.mpr ⟨lw_p82, List.forall_mem_cons.mpr ⟨lw_p83, List.forall_mem_cons.mpr ⟨lw_p84, List.forall_mem_cons.mpr ⟨lw_p85, List.forall_mem_cons.mpr ⟨lw_p86, List.forall_mem_cons.mpr ⟨lw_p87, List.forall_mem_cons.mpr ⟨lw_p88, List.forall_mem_cons.mpr ⟨lw_p89, List.forall_mem_cons.mpr ⟨lw_p90, List.forall_mem_cons.mpr ⟨lw_p91, List.forall_mem_cons.mpr ⟨lw_p92, List.forall_mem_cons.mpr ⟨lw_p93, List.forall_mem_cons.mpr ⟨lw_p94, List.forall_mem_cons.mpr ⟨lw_p95, fun _ h => absurd h List.not_mem_nil⟩⟩⟩⟩⟩⟩⟩⟩⟩⟩⟩⟩⟩⟩⟩⟩
theorem lw_p96 : lw_okq (⟨"RoutingField", "writeList", "(LRoutingField$PrefixList;)V"⟩, 20) := ⟨⟨by decide +kernel, by decide +kernel⟩, List.mem_of_getElem? (i := 26) (by decide +kernel), List.mem_of_getElem? (i := 1776) (by decide +kernel), List.mem_of_getElem? (i := 1777) (by decide +kernel)⟩
theorem lw_p97 : lw_okq (⟨"RoutingField", "writeRouter", "(LRoutingField$Router;)V"⟩, 20) := ⟨⟨by decide +kernel, by decide +kernel⟩, List.mem_of_getElem? (i := 26) (by decide +kernel), List.mem_of_getElem? (i := 1785) (by decide +kernel), List.mem_of_getElem? (i := 1786) (by decide +kernel)⟩
theorem lw_p98 : lw_okq (⟨"RoutingField", "writeJoins", "(LRoutingField$Router;LRoutingField$Port;)V"⟩, 20) := ⟨⟨by decide +kernel, by decide +kernel⟩, List.mem_of_getElem? (i := 26) (by decide +kernel), List.mem_of_getElem? (i := 1791) (by decide +kernel), List.mem_of_getElem? (i := 1792) (by decide +kernel)⟩
theorem lw_p99 : lw_okq (⟨"RoutingField", "beginPortLine", "(Ljava/lang/String;LRoutingField$Router;LRoutingField$Port;)V"⟩, 20) := ⟨⟨by decide +kernel, by decide +kernel⟩, List.mem_of_getElem? (i := 26) (by decide +kernel), List.mem_of_getElem? (i := 1796) (by decide +kernel), List.mem_of_getElem? (i := 1797) (by decide +kernel)⟩
theorem lw_p100 : lw_okq (⟨"RoutingField", "writeKeys", "(LRoutingField$Router;LRoutingField$Port;)V"⟩, 20) := ⟨⟨by decide +kernel, by decide +kernel⟩, List.mem_of_getElem? (i := 26) (by decide +kernel), List.mem_of_getElem? (i := 1806) (by decide +kernel), List.mem_of_getElem? (i := 1807) (by decide +kernel)⟩
theorem lw_p101 : lw_okq (⟨"RoutingField", "writeStatics", "(LRoutingField$Router;)V"⟩, 20) := ⟨⟨by decide +kernel, by decide +kernel⟩, List.mem_of_getElem? (i := 26) (by decide +kernel), List.mem_of_getElem? (i := 1813) (by decide +kernel), List.mem_of_getElem? (i := 1814) (by decide +kernel)⟩
theorem lw_p102 : lw_okq (⟨"RoutingField", "writeFilters", "(LRoutingField$Router;I)V"⟩, 20) := ⟨⟨by decide +kernel, by decide +kernel⟩, List.mem_of_getElem? (i := 26) (by decide +kernel), List.mem_of_getElem? (i := 1818) (by decide +kernel), List.mem_of_getElem? (i := 1819) (by decide +kernel)⟩
theorem lw_p103 : lw_okq (⟨"RoutingField", "writePolicies", "(LRoutingField$Router;Ljava/lang/String;[[II)V"⟩, 20) := ⟨⟨by decide +kernel, by decide +kernel⟩, List.mem_of_getElem? (i := 26) (by decide +kernel), List.mem_of_getElem? (i := 1829) (by decide +kernel), List.mem_of_getElem? (i := 1830) (by decide +kernel)⟩
theorem lw_p104 : lw_okq (⟨"RoutingField", "writeExtras", "(LRoutingField$Router;LRoutingField$Port;)V"⟩, 20) := ⟨⟨by decide +kernel, by decide +kernel⟩, List.mem_of_getElem? (i := 26) (by decide +kernel), List.mem_of_getElem? (i := 1835) (by decide +kernel), List.mem_of_getElem? (i := 1836) (by decide +kernel)⟩
theorem lw_p105 : lw_okq (⟨"RoutingField", "writeShare", "(LRoutingField$Router;I)V"⟩, 20) := ⟨⟨by decide +kernel, by decide +kernel⟩, List.mem_of_getElem? (i := 26) (by decide +kernel), List.mem_of_getElem? (i := 1843) (by decide +kernel), List.mem_of_getElem? (i := 1844) (by decide +kernel)⟩
theorem lw_p106 : lw_okq (⟨"RoutingField", "leastSum", "(I)I"⟩, 20) := ⟨⟨by decide +kernel, by decide +kernel⟩, List.mem_of_getElem? (i := 26) (by decide +kernel), List.mem_of_getElem? (i := 1860) (by decide +kernel), List.mem_of_getElem? (i := 1861) (by decide +kernel)⟩
theorem lw_p107 : lw_okq (⟨"RoutingField", "sumByNeighbors", "(LRoutingField$Router;[I)I"⟩, 20) := ⟨⟨by decide +kernel, by decide +kernel⟩, List.mem_of_getElem? (i := 26) (by decide +kernel), List.mem_of_getElem? (i := 1868) (by decide +kernel), List.mem_of_getElem? (i := 1869) (by decide +kernel)⟩
theorem lw_p108 : lw_okq (⟨"java/lang/Throwable", "fillInStackTrace", "(I)Ljava/lang/Throwable;"⟩, 6) := ⟨⟨by decide +kernel, by decide +kernel⟩, List.mem_of_getElem? (i := 1945) (by decide +kernel), List.mem_of_getElem? (i := 1943) (by decide +kernel), List.mem_of_getElem? (i := 1944) (by decide +kernel)⟩
theorem lw_p109 : lw_okq (⟨"RoutingFieldModel", "lay", "(I)V"⟩, 166) := ⟨⟨by decide +kernel, by decide +kernel⟩, List.mem_of_getElem? (i := 1974) (by decide +kernel), List.mem_of_getElem? (i := 2489) (by decide +kernel), List.mem_of_getElem? (i := 2490) (by decide +kernel)⟩
theorem lw_p110 : lw_okq (⟨"RoutingFieldModel", "part", "(II)V"⟩, 166) := ⟨⟨by decide +kernel, by decide +kernel⟩, List.mem_of_getElem? (i := 1974) (by decide +kernel), List.mem_of_getElem? (i := 2505) (by decide +kernel), List.mem_of_getElem? (i := 2506) (by decide +kernel)⟩
theorem lw_p111 : lw_okq (⟨"RoutingFieldModel", "line", "()I"⟩, 166) := ⟨⟨by decide +kernel, by decide +kernel⟩, List.mem_of_getElem? (i := 1974) (by decide +kernel), List.mem_of_getElem? (i := 2512) (by decide +kernel), List.mem_of_getElem? (i := 2513) (by decide +kernel)⟩
def lw_privs_7 : List (MethodName × Nat) := [(⟨"RoutingField", "writeList", "(LRoutingField$PrefixList;)V"⟩, 20), (⟨"RoutingField", "writeRouter", "(LRoutingField$Router;)V"⟩, 20), (⟨"RoutingField", "writeJoins", "(LRoutingField$Router;LRoutingField$Port;)V"⟩, 20), (⟨"RoutingField", "beginPortLine", "(Ljava/lang/String;LRoutingField$Router;LRoutingField$Port;)V"⟩, 20), (⟨"RoutingField", "writeKeys", "(LRoutingField$Router;LRoutingField$Port;)V"⟩, 20), (⟨"RoutingField", "writeStatics", "(LRoutingField$Router;)V"⟩, 20), (⟨"RoutingField", "writeFilters", "(LRoutingField$Router;I)V"⟩, 20), (⟨"RoutingField", "writePolicies", "(LRoutingField$Router;Ljava/lang/String;[[II)V"⟩, 20), (⟨"RoutingField", "writeExtras", "(LRoutingField$Router;LRoutingField$Port;)V"⟩, 20), (⟨"RoutingField", "writeShare", "(LRoutingField$Router;I)V"⟩, 20), (⟨"RoutingField", "leastSum", "(I)I"⟩, 20), (⟨"RoutingField", "sumByNeighbors", "(LRoutingField$Router;[I)I"⟩, 20), (⟨"java/lang/Throwable", "fillInStackTrace", "(I)Ljava/lang/Throwable;"⟩, 6), (⟨"RoutingFieldModel", "lay", "(I)V"⟩, 166), (⟨"RoutingFieldModel", "part", "(II)V"⟩, 166), (⟨"RoutingFieldModel", "line", "()I"⟩, 166)]
theorem lw_r7 : ∀ q ∈ lw_privs_7, lw_okq q := List.forall_mem_cons.mpr ⟨lw_p96, List.forall_mem_cons.mpr ⟨lw_p97, List.forall_mem_cons.mpr ⟨lw_p98, List.forall_mem_cons.mpr ⟨lw_p99, List.forall_mem_cons.mpr ⟨lw_p100, List.forall_mem_cons.mpr ⟨lw_p101, List.forall_mem_cons.mpr ⟨lw_p102, List.forall_mem_cons.mpr ⟨lw_p103, List.forall_mem_cons.mpr ⟨lw_p104, List.forall_mem_cons.mpr ⟨lw_p105, List.forall_mem_cons.mpr ⟨lw_p106, List.forall_mem_cons.mpr ⟨lw_p107, List.forall_mem_cons.mpr ⟨lw_p108, List.forall_mem_cons.mpr ⟨lw_p109, List.forall_mem_cons.mpr ⟨lw_p110, List.forall_mem_cons.mpr ⟨lw_p111, fun _ h => absurd h List.not_mem_nil⟩⟩⟩⟩⟩⟩⟩⟩⟩⟩⟩⟩⟩⟩⟩⟩
theorem lw_p112 : lw_okq (⟨"RoutingFieldModel", "code", "(I)J"⟩, 166) := ⟨⟨by decide +kernel, by decide +kernel⟩, List.mem_of_getElem? (i := 1974) (by decide +kernel), List.mem_of_getElem? (i := 2516) (by decide +kernel), List.mem_of_getElem? (i := 2517) (by decide +kernel)⟩
theorem lw_p113 : lw_okq (⟨"RoutingFieldModel", "lineLink", "()I"⟩, 166) := ⟨⟨by decide +kernel, by decide +kernel⟩, List.mem_of_getElem? (i := 1974) (by decide +kernel), List.mem_of_getElem? (i := 2526) (by decide +kernel), List.mem_of_getElem? (i := 2527) (by decide +kernel)⟩
theorem lw_p114 : lw_okq (⟨"RoutingFieldModel", "areOptions", "(IJJJJJJ)Z"⟩, 166) := ⟨⟨by decide +kernel, by decide +kernel⟩, List.mem_of_getElem? (i := 1974) (by decide +kernel), List.mem_of_getElem? (i := 2532) (by decide +kernel), List.mem_of_getElem? (i := 2533) (by decide +kernel)⟩
theorem lw_p115 : lw_okq (⟨"RoutingFieldModel", "name", "(I)J"⟩, 166) := ⟨⟨by decide +kernel, by decide +kernel⟩, List.mem_of_getElem? (i := 1974) (by decide +kernel), List.mem_of_getElem? (i := 2543) (by decide +kernel), List.mem_of_getElem? (i := 2544) (by decide +kernel)⟩
theorem lw_p116 : lw_okq (⟨"RoutingFieldModel", "linkNamed", "(J)I"⟩, 166) := ⟨⟨by decide +kernel, by decide +kernel⟩, List.mem_of_getElem? (i := 1974) (by decide +kernel), List.mem_of_getElem? (i := 2547) (by decide +kernel), List.mem_of_getElem? (i := 2548) (by decide +kernel)⟩
theorem lw_p117 : lw_okq (⟨"RoutingFieldModel", "option", "(JI)I"⟩, 166) := ⟨⟨by decide +kernel, by decide +kernel⟩, List.mem_of_getElem? (i := 1974) (by decide +kernel), List.mem_of_getElem? (i := 2551) (by decide +kernel), List.mem_of_getElem? (i := 2552) (by decide +kernel)⟩
theorem lw_p118 : lw_okq (⟨"RoutingFieldModel", "isNumber", "(III)Z"⟩, 166) := ⟨⟨by decide +kernel, by decide +kernel⟩, List.mem_of_getElem? (i := 1974) (by decide +kernel), List.mem_of_getElem? (i := 2555) (by decide +kernel), List.mem_of_getElem? (i := 2556) (by decide +kernel)⟩
theorem lw_p119 : lw_okq (⟨"RoutingFieldModel", "number", "(I)I"⟩, 166) := ⟨⟨by decide +kernel, by decide +kernel⟩, List.mem_of_getElem? (i := 1974) (by decide +kernel), List.mem_of_getElem? (i := 2559) (by decide +kernel), List.mem_of_getElem? (i := 2560) (by decide +kernel)⟩
theorem lw_p120 : lw_okq (⟨"RoutingFieldModel", "lineRouter", "()I"⟩, 166) := ⟨⟨by decide +kernel, by decide +kernel⟩, List.mem_of_getElem? (i := 1974) (by decide +kernel), List.mem_of_getElem? (i := 2564) (by decide +kernel), List.mem_of_getElem? (i := 2565) (by decide +kernel)⟩
theorem lw_p121 : lw_okq (⟨"RoutingFieldModel", "routerNamed", "(J)I"⟩, 166) := ⟨⟨by decide +kernel, by decide +kernel⟩, List.mem_of_getElem? (i := 1974) (by decide +kernel), List.mem_of_getElem? (i := 2568) (by decide +kernel), List.mem_of_getElem? (i := 2569) (by decide +kernel)⟩
theorem lw_p122 : lw_okq (⟨"RoutingFieldModel", "lineJoin", "()I"⟩, 166) := ⟨⟨by decide +kernel, by decide +kernel⟩, List.mem_of_getElem? (i := 1974) (by decide +kernel), List.mem_of_getElem? (i := 2573) (by decide +kernel), List.mem_of_getElem? (i := 2574) (by decide +kernel)⟩
theorem lw_p123 : lw_okq (⟨"RoutingFieldModel", "isAddressWithLength", "(I)Z"⟩, 166) := ⟨⟨by decide +kernel, by decide +kernel⟩, List.mem_of_getElem? (i := 1974) (by decide +kernel), List.mem_of_getElem? (i := 2583) (by decide +kernel), List.mem_of_getElem? (i := 2584) (by decide +kernel)⟩
theorem lw_p124 : lw_okq (⟨"RoutingFieldModel", "readAddress", "(II)Z"⟩, 166) := ⟨⟨by decide +kernel, by decide +kernel⟩, List.mem_of_getElem? (i := 1974) (by decide +kernel), List.mem_of_getElem? (i := 2587) (by decide +kernel), List.mem_of_getElem? (i := 2588) (by decide +kernel)⟩
theorem lw_p125 : lw_okq (⟨"RoutingFieldModel", "readFour", "(II)Z"⟩, 166) := ⟨⟨by decide +kernel, by decide +kernel⟩, List.mem_of_getElem? (i := 1974) (by decide +kernel), List.mem_of_getElem? (i := 2591) (by decide +kernel), List.mem_of_getElem? (i := 2592) (by decide +kernel)⟩
theorem lw_p126 : lw_okq (⟨"RoutingFieldModel", "plain", "(III)I"⟩, 166) := ⟨⟨by decide +kernel, by decide +kernel⟩, List.mem_of_getElem? (i := 1974) (by decide +kernel), List.mem_of_getElem? (i := 2595) (by decide +kernel), List.mem_of_getElem? (i := 2596) (by decide +kernel)⟩
theorem lw_p127 : lw_okq (⟨"RoutingFieldModel", "readSix", "(II)Z"⟩, 166) := ⟨⟨by decide +kernel, by decide +kernel⟩, List.mem_of_getElem? (i := 1974) (by decide +kernel), List.mem_of_getElem? (i := 2599) (by decide +kernel), List.mem_of_getElem? (i := 2600) (by decide +kernel)⟩
def lw_privs_8 : List (MethodName × Nat) := [(⟨"RoutingFieldModel", "code", "(I)J"⟩, 166), (⟨"RoutingFieldModel", "lineLink", "()I"⟩, 166), (⟨"RoutingFieldModel", "areOptions", "(IJJJJJJ)Z"⟩, 166), (⟨"RoutingFieldModel", "name", "(I)J"⟩, 166), (⟨"RoutingFieldModel", "linkNamed", "(J)I"⟩, 166), (⟨"RoutingFieldModel", "option", "(JI)I"⟩, 166), (⟨"RoutingFieldModel", "isNumber", "(III)Z"⟩, 166), (⟨"RoutingFieldModel", "number", "(I)I"⟩, 166), (⟨"RoutingFieldModel", "lineRouter", "()I"⟩, 166), (⟨"RoutingFieldModel", "routerNamed", "(J)I"⟩, 166), (⟨"RoutingFieldModel", "lineJoin", "()I"⟩, 166), (⟨"RoutingFieldModel", "isAddressWithLength", "(I)Z"⟩, 166), (⟨"RoutingFieldModel", "readAddress", "(II)Z"⟩, 166), (⟨"RoutingFieldModel", "readFour", "(II)Z"⟩, 166), (⟨"RoutingFieldModel", "plain", "(III)I"⟩, 166), (⟨"RoutingFieldModel", "readSix", "(II)Z"⟩, 166)]
theorem lw_r8 : ∀ q ∈ lw_privs_8, lw_okq q := List.forall_mem_cons.mpr ⟨lw_p112, List.forall_mem_cons.mpr ⟨lw_p113, List.forall_mem_cons.mpr ⟨lw_p114, List.forall_mem_cons.mpr ⟨lw_p115, List.forall_mem_cons.mpr ⟨lw_p116, List.forall_mem_cons.mpr ⟨lw_p117, List.forall_mem_cons.mpr ⟨lw_p118, List.forall_mem_cons.mpr ⟨lw_p119, List.forall_mem_cons.mpr ⟨lw_p120, List.forall_mem_cons.mpr ⟨lw_p121, List.forall_mem_cons.mpr ⟨lw_p122, List.forall_mem_cons.mpr ⟨lw_p123, List.forall_mem_cons.mpr ⟨lw_p124, List.forall_mem_cons.mpr ⟨lw_p125, List.forall_mem_cons.mpr ⟨lw_p126, List.forall_mem_cons.mpr ⟨lw_p127, fun _ h => absurd h List.not_mem_nil⟩⟩⟩⟩⟩⟩⟩⟩⟩⟩⟩⟩⟩⟩⟩⟩
end
section
theorem lw_p128 : lw_okq (⟨"RoutingFieldModel", "interfaceTo", "(II)I"⟩, 166) := ⟨⟨by decide +kernel, by decide +kernel⟩, List.mem_of_getElem? (i := 1974) (by decide +kernel), List.mem_of_getElem? (i := 2609) (by decide +kernel), List.mem_of_getElem? (i := 2610) (by decide +kernel)⟩
theorem lw_p129 : lw_okq (⟨"RoutingFieldModel", "isSecret", "(I)Z"⟩, 166) := ⟨⟨by decide +kernel, by decide +kernel⟩, List.mem_of_getElem? (i := 1974) (by decide +kernel), List.mem_of_getElem? (i := 2613) (by decide +kernel), List.mem_of_getElem? (i := 2614) (by decide +kernel)⟩
theorem lw_p130 : lw_okq (⟨"RoutingFieldModel", "isKeyOption", "(I)Z"⟩, 166) := ⟨⟨by decide +kernel, by decide +kernel⟩, List.mem_of_getElem? (i := 1974) (by decide +kernel), List.mem_of_getElem? (i := 2617) (by decide +kernel), List.mem_of_getElem? (i := 2618) (by decide +kernel)⟩
theorem lw_p131 : lw_okq (⟨"RoutingFieldModel", "haveRoom", "(IIII)Z"⟩, 166) := ⟨⟨by decide +kernel, by decide +kernel⟩, List.mem_of_getElem? (i := 1974) (by decide +kernel), List.mem_of_getElem? (i := 2621) (by decide +kernel), List.mem_of_getElem? (i := 2622) (by decide +kernel)⟩
theorem lw_p132 : lw_okq (⟨"RoutingFieldModel", "newInterface", "(II)I"⟩, 166) := ⟨⟨by decide +kernel, by decide +kernel⟩, List.mem_of_getElem? (i := 1974) (by decide +kernel), List.mem_of_getElem? (i := 2625) (by decide +kernel), List.mem_of_getElem? (i := 2626) (by decide +kernel)⟩
theorem lw_p133 : lw_okq (⟨"RoutingFieldModel", "takePassword", "(II)V"⟩, 166) := ⟨⟨by decide +kernel, by decide +kernel⟩, List.mem_of_getElem? (i := 1974) (by decide +kernel), List.mem_of_getElem? (i := 2629) (by decide +kernel), List.mem_of_getElem? (i := 2630) (by decide +kernel)⟩
theorem lw_p134 : lw_okq (⟨"RoutingFieldModel", "takeKey", "(IIZIII)V"⟩, 166) := ⟨⟨by decide +kernel, by decide +kernel⟩, List.mem_of_getElem? (i := 1974) (by decide +kernel), List.mem_of_getElem? (i := 2634) (by decide +kernel), List.mem_of_getElem? (i := 2635) (by decide +kernel)⟩
theorem lw_p135 : lw_okq (⟨"RoutingFieldModel", "keyPlace", "(II)I"⟩, 166) := ⟨⟨by decide +kernel, by decide +kernel⟩, List.mem_of_getElem? (i := 1974) (by decide +kernel), List.mem_of_getElem? (i := 2638) (by decide +kernel), List.mem_of_getElem? (i := 2639) (by decide +kernel)⟩
theorem lw_p136 : lw_okq (⟨"RoutingFieldModel", "settle", "(I)V"⟩, 166) := ⟨⟨by decide +kernel, by decide +kernel⟩, List.mem_of_getElem? (i := 1974) (by decide +kernel), List.mem_of_getElem? (i := 2642) (by decide +kernel), List.mem_of_getElem? (i := 2643) (by decide +kernel)⟩
theorem lw_p137 : lw_okq (⟨"RoutingFieldModel", "isDue", "(IIJJI)Z"⟩, 166) := ⟨⟨by decide +kernel, by decide +kernel⟩, List.mem_of_getElem? (i := 1974) (by decide +kernel), List.mem_of_getElem? (i := 2646) (by decide +kernel), List.mem_of_getElem? (i := 2647) (by decide +kernel)⟩
theorem lw_p138 : lw_okq (⟨"RoutingFieldModel", "isNetwork", "(IJJI)Z"⟩, 166) := ⟨⟨by decide +kernel, by decide +kernel⟩, List.mem_of_getElem? (i := 1974) (by decide +kernel), List.mem_of_getElem? (i := 2650) (by decide +kernel), List.mem_of_getElem? (i := 2651) (by decide +kernel)⟩
theorem lw_p139 : lw_okq (⟨"RoutingFieldModel", "staticOf", "(IIJJI)I"⟩, 166) := ⟨⟨by decide +kernel, by decide +kernel⟩, List.mem_of_getElem? (i := 1974) (by decide +kernel), List.mem_of_getElem? (i := 2661) (by decide +kernel), List.mem_of_getElem? (i := 2662) (by decide +kernel)⟩
theorem lw_p140 : lw_okq (⟨"RoutingFieldModel", "become", "(II)V"⟩, 166) := ⟨⟨by decide +kernel, by decide +kernel⟩, List.mem_of_getElem? (i := 1974) (by decide +kernel), List.mem_of_getElem? (i := 2665) (by decide +kernel), List.mem_of_getElem? (i := 2666) (by decide +kernel)⟩
theorem lw_p141 : lw_okq (⟨"RoutingFieldModel", "markChanged", "(II)V"⟩, 166) := ⟨⟨by decide +kernel, by decide +kernel⟩, List.mem_of_getElem? (i := 1974) (by decide +kernel), List.mem_of_getElem? (i := 2669) (by decide +kernel), List.mem_of_getElem? (i := 2670) (by decide +kernel)⟩
theorem lw_p142 : lw_okq (⟨"RoutingFieldModel", "forsake", "(II)V"⟩, 166) := ⟨⟨by decide +kernel, by decide +kernel⟩, List.mem_of_getElem? (i := 1974) (by decide +kernel), List.mem_of_getElem? (i := 2673) (by decide +kernel), List.mem_of_getElem? (i := 2674) (by decide +kernel)⟩
theorem lw_p143 : lw_okq (⟨"RoutingFieldModel", "die", "(II)V"⟩, 166) := ⟨⟨by decide +kernel, by decide +kernel⟩, List.mem_of_getElem? (i := 1974) (by decide +kernel), List.mem_of_getElem? (i := 2677) (by decide +kernel), List.mem_of_getElem? (i := 2678) (by decide +kernel)⟩
def lw_privs_9 : List (MethodName × Nat) := [(⟨"RoutingFieldModel", "interfaceTo", "(II)I"⟩, 166), (⟨"RoutingFieldModel", "isSecret", "(I)Z"⟩, 166), (⟨"RoutingFieldModel", "isKeyOption", "(I)Z"⟩, 166), (⟨"RoutingFieldModel", "haveRoom", "(IIII)Z"⟩, 166), (⟨"RoutingFieldModel", "newInterface", "(II)I"⟩, 166), (⟨"RoutingFieldModel", "takePassword", "(II)V"⟩, 166), (⟨"RoutingFieldModel", "takeKey", "(IIZIII)V"⟩, 166), (⟨"RoutingFieldModel", "keyPlace", "(II)I"⟩, 166), (⟨"RoutingFieldModel", "settle", "(I)V"⟩, 166), (⟨"RoutingFieldModel", "isDue", "(IIJJI)Z"⟩, 166), (⟨"RoutingFieldModel", "isNetwork", "(IJJI)Z"⟩, 166), (⟨"RoutingFieldModel", "staticOf", "(IIJJI)I"⟩, 166), (⟨"RoutingFieldModel", "become", "(II)V"⟩, 166), (⟨"RoutingFieldModel", "markChanged", "(II)V"⟩, 166), (⟨"RoutingFieldModel", "forsake", "(II)V"⟩, 166), (⟨"RoutingFieldModel", "die", "(II)V"⟩, 166)]
theorem lw_r9 : ∀ q ∈ lw_privs_9, lw_okq q := List.forall_mem_cons.mpr ⟨lw_p128, List.forall_mem_cons.mpr ⟨lw_p129, List.forall_mem_cons.mpr ⟨lw_p130, List.forall_mem_cons.mpr ⟨lw_p131, List.forall_mem_cons.mpr ⟨lw_p132, List.forall_mem_cons.mpr ⟨lw_p133, List.forall_mem_cons.mpr ⟨lw_p134, List.forall_mem_cons.mpr ⟨lw_p135, List.forall_mem_cons.mpr ⟨lw_p136, List.forall_mem_cons.mpr ⟨lw_p137, List.forall_mem_cons.mpr ⟨lw_p138, List.forall_mem_cons.mpr ⟨lw_p139, List.forall_mem_cons.mpr ⟨lw_p140, List.forall_mem_cons.mpr ⟨lw_p141, List.forall_mem_cons.mpr ⟨lw_p142, List.forall_mem_cons.mpr ⟨lw_p143, fun _ h => absurd h List.not_mem_nil⟩⟩⟩⟩⟩⟩⟩⟩⟩⟩⟩⟩⟩⟩⟩⟩
theorem lw_p144 : lw_okq (⟨"RoutingFieldModel", "come", "(IIJJI)V"⟩, 166) := ⟨⟨by decide +kernel, by decide +kernel⟩, List.mem_of_getElem? (i := 1974) (by decide +kernel), List.mem_of_getElem? (i := 2681) (by decide +kernel), List.mem_of_getElem? (i := 2682) (by decide +kernel)⟩
theorem lw_p145 : lw_okq (⟨"RoutingFieldModel", "find", "(IIJJI)I"⟩, 166) := ⟨⟨by decide +kernel, by decide +kernel⟩, List.mem_of_getElem? (i := 1974) (by decide +kernel), List.mem_of_getElem? (i := 2685) (by decide +kernel), List.mem_of_getElem? (i := 2686) (by decide +kernel)⟩
theorem lw_p146 : lw_okq (⟨"RoutingFieldModel", "insert", "(IIJJI)I"⟩, 166) := ⟨⟨by decide +kernel, by decide +kernel⟩, List.mem_of_getElem? (i := 1974) (by decide +kernel), List.mem_of_getElem? (i := 2689) (by decide +kernel), List.mem_of_getElem? (i := 2690) (by decide +kernel)⟩
theorem lw_p147 : lw_okq (⟨"RoutingFieldModel", "isBehind", "(IIJJI)Z"⟩, 166) := ⟨⟨by decide +kernel, by decide +kernel⟩, List.mem_of_getElem? (i := 1974) (by decide +kernel), List.mem_of_getElem? (i := 2693) (by decide +kernel), List.mem_of_getElem? (i := 2694) (by decide +kernel)⟩
theorem lw_p148 : lw_okq (⟨"RoutingFieldModel", "copyRoute", "(II)V"⟩, 166) := ⟨⟨by decide +kernel, by decide +kernel⟩, List.mem_of_getElem? (i := 1974) (by decide +kernel), List.mem_of_getElem? (i := 2704) (by decide +kernel), List.mem_of_getElem? (i := 2705) (by decide +kernel)⟩
theorem lw_p149 : lw_okq (⟨"RoutingFieldModel", "request", "(II)V"⟩, 166) := ⟨⟨by decide +kernel, by decide +kernel⟩, List.mem_of_getElem? (i := 1974) (by decide +kernel), List.mem_of_getElem? (i := 2708) (by decide +kernel), List.mem_of_getElem? (i := 2709) (by decide +kernel)⟩
theorem lw_p150 : lw_okq (⟨"RoutingFieldModel", "send", "(IIIIZJJ)V"⟩, 166) := ⟨⟨by decide +kernel, by decide +kernel⟩, List.mem_of_getElem? (i := 1974) (by decide +kernel), List.mem_of_getElem? (i := 2712) (by decide +kernel), List.mem_of_getElem? (i := 2713) (by decide +kernel)⟩
theorem lw_p151 : lw_okq (⟨"RoutingFieldModel", "wrap", "(IIII)Z"⟩, 166) := ⟨⟨by decide +kernel, by decide +kernel⟩, List.mem_of_getElem? (i := 1974) (by decide +kernel), List.mem_of_getElem? (i := 2716) (by decide +kernel), List.mem_of_getElem? (i := 2717) (by decide +kernel)⟩
theorem lw_p152 : lw_okq (⟨"RoutingFieldModel", "bornKey", "(I)I"⟩, 166) := ⟨⟨by decide +kernel, by decide +kernel⟩, List.mem_of_getElem? (i := 1974) (by decide +kernel), List.mem_of_getElem? (i := 2720) (by decide +kernel), List.mem_of_getElem? (i := 2721) (by decide +kernel)⟩
theorem lw_p153 : lw_okq (⟨"RoutingFieldModel", "isGood", "(I)Z"⟩, 166) := ⟨⟨by decide +kernel, by decide +kernel⟩, List.mem_of_getElem? (i := 1974) (by decide +kernel), List.mem_of_getElem? (i := 2724) (by decide +kernel), List.mem_of_getElem? (i := 2725) (by decide +kernel)⟩
theorem lw_p154 : lw_okq (⟨"RoutingFieldModel", "put2", "([III)V"⟩, 166) := ⟨⟨by decide +kernel, by decide +kernel⟩, List.mem_of_getElem? (i := 1974) (by decide +kernel), List.mem_of_getElem? (i := 2729) (by decide +kernel), List.mem_of_getElem? (i := 2730) (by decide +kernel)⟩
theorem lw_p155 : lw_okq (⟨"RoutingFieldModel", "put4", "([III)V"⟩, 166) := ⟨⟨by decide +kernel, by decide +kernel⟩, List.mem_of_getElem? (i := 1974) (by decide +kernel), List.mem_of_getElem? (i := 2733) (by decide +kernel), List.mem_of_getElem? (i := 2734) (by decide +kernel)⟩
theorem lw_p156 : lw_okq (⟨"RoutingFieldModel", "sumOf", "(I[II)V"⟩, 166) := ⟨⟨by decide +kernel, by decide +kernel⟩, List.mem_of_getElem? (i := 1974) (by decide +kernel), List.mem_of_getElem? (i := 2737) (by decide +kernel), List.mem_of_getElem? (i := 2738) (by decide +kernel)⟩
theorem lw_p157 : lw_okq (⟨"RoutingFieldModel", "secret", "(II)I"⟩, 166) := ⟨⟨by decide +kernel, by decide +kernel⟩, List.mem_of_getElem? (i := 1974) (by decide +kernel), List.mem_of_getElem? (i := 2741) (by decide +kernel), List.mem_of_getElem? (i := 2742) (by decide +kernel)⟩
theorem lw_p158 : lw_okq (⟨"RoutingFieldModel", "digest", "(IZ)V"⟩, 166) := ⟨⟨by decide +kernel, by decide +kernel⟩, List.mem_of_getElem? (i := 1974) (by decide +kernel), List.mem_of_getElem? (i := 2745) (by decide +kernel), List.mem_of_getElem? (i := 2746) (by decide +kernel)⟩
theorem lw_p159 : lw_okq (⟨"RoutingFieldModel", "pad", "(IZ)I"⟩, 166) := ⟨⟨by decide +kernel, by decide +kernel⟩, List.mem_of_getElem? (i := 1974) (by decide +kernel), List.mem_of_getElem? (i := 2754) (by decide +kernel), List.mem_of_getElem? (i := 2755) (by decide +kernel)⟩
def lw_privs_10 : List (MethodName × Nat) := [(⟨"RoutingFieldModel", "come", "(IIJJI)V"⟩, 166), (⟨"RoutingFieldModel", "find", "(IIJJI)I"⟩, 166), (⟨"RoutingFieldModel", "insert", "(IIJJI)I"⟩, 166), (⟨"RoutingFieldModel", "isBehind", "(IIJJI)Z"⟩, 166), (⟨"RoutingFieldModel", "copyRoute", "(II)V"⟩, 166), (⟨"RoutingFieldModel", "request", "(II)V"⟩, 166), (⟨"RoutingFieldModel", "send", "(IIIIZJJ)V"⟩, 166), (⟨"RoutingFieldModel", "wrap", "(IIII)Z"⟩, 166), (⟨"RoutingFieldModel", "bornKey", "(I)I"⟩, 166), (⟨"RoutingFieldModel", "isGood", "(I)Z"⟩, 166), (⟨"RoutingFieldModel", "put2", "([III)V"⟩, 166), (⟨"RoutingFieldModel", "put4", "([III)V"⟩, 166), (⟨"RoutingFieldModel", "sumOf", "(I[II)V"⟩, 166), (⟨"RoutingFieldModel", "secret", "(II)I"⟩, 166), (⟨"RoutingFieldModel", "digest", "(IZ)V"⟩, 166), (⟨"RoutingFieldModel", "pad", "(IZ)I"⟩, 166)]
theorem lw_r10 : ∀ q ∈ lw_privs_10, lw_okq q := List.forall_mem_cons.mpr ⟨lw_p144, List.forall_mem_cons.mpr ⟨lw_p145, List.forall_mem_cons.mpr ⟨lw_p146, List.forall_mem_cons.mpr ⟨lw_p147, List.forall_mem_cons.mpr ⟨lw_p148, List.forall_mem_cons.mpr ⟨lw_p149, List.forall_mem_cons.mpr ⟨lw_p150, List.forall_mem_cons.mpr ⟨lw_p151, List.forall_mem_cons.mpr ⟨lw_p152, List.forall_mem_cons.mpr ⟨lw_p153, List.forall_mem_cons.mpr ⟨lw_p154, List.forall_mem_cons.mpr ⟨lw_p155, List.forall_mem_cons.mpr ⟨lw_p156, List.forall_mem_cons.mpr ⟨lw_p157, List.forall_mem_cons.mpr ⟨lw_p158, List.forall_mem_cons.mpr ⟨lw_p159, fun _ h => absurd h List.not_mem_nil⟩⟩⟩⟩⟩⟩⟩⟩⟩⟩⟩⟩⟩⟩⟩⟩
theorem lw_p160 : lw_okq (⟨"RoutingFieldModel", "shaBlock", "(I)V"⟩, 166) := ⟨⟨by decide +kernel, by decide +kernel⟩, List.mem_of_getElem? (i := 1974) (by decide +kernel), List.mem_of_getElem? (i := 2760) (by decide +kernel), List.mem_of_getElem? (i := 2761) (by decide +kernel)⟩
theorem lw_p161 : lw_okq (⟨"RoutingFieldModel", "md5Block", "(I)V"⟩, 166) := ⟨⟨by decide +kernel, by decide +kernel⟩, List.mem_of_getElem? (i := 1974) (by decide +kernel), List.mem_of_getElem? (i := 2771) (by decide +kernel), List.mem_of_getElem? (i := 2772) (by decide +kernel)⟩
theorem lw_p162 : lw_okq (⟨"RoutingFieldModel", "go", "(IIZJJIJJIIZ)V"⟩, 166) := ⟨⟨by decide +kernel, by decide +kernel⟩, List.mem_of_getElem? (i := 1974) (by decide +kernel), List.mem_of_getElem? (i := 2845) (by decide +kernel), List.mem_of_getElem? (i := 2846) (by decide +kernel)⟩
theorem lw_p163 : lw_okq (⟨"RoutingFieldModel", "lineKey", "()I"⟩, 166) := ⟨⟨by decide +kernel, by decide +kernel⟩, List.mem_of_getElem? (i := 1974) (by decide +kernel), List.mem_of_getElem? (i := 2851) (by decide +kernel), List.mem_of_getElem? (i := 2852) (by decide +kernel)⟩
theorem lw_p164 : lw_okq (⟨"RoutingFieldModel", "interfaceWords", "()I"⟩, 166) := ⟨⟨by decide +kernel, by decide +kernel⟩, List.mem_of_getElem? (i := 1974) (by decide +kernel), List.mem_of_getElem? (i := 2855) (by decide +kernel), List.mem_of_getElem? (i := 2856) (by decide +kernel)⟩
theorem lw_p165 : lw_okq (⟨"RoutingFieldModel", "lineNokey", "()I"⟩, 166) := ⟨⟨by decide +kernel, by decide +kernel⟩, List.mem_of_getElem? (i := 1974) (by decide +kernel), List.mem_of_getElem? (i := 2860) (by decide +kernel), List.mem_of_getElem? (i := 2861) (by decide +kernel)⟩
theorem lw_p166 : lw_okq (⟨"RoutingFieldModel", "lineStatic", "()I"⟩, 166) := ⟨⟨by decide +kernel, by decide +kernel⟩, List.mem_of_getElem? (i := 1974) (by decide +kernel), List.mem_of_getElem? (i := 2865) (by decide +kernel), List.mem_of_getElem? (i := 2866) (by decide +kernel)⟩
theorem lw_p167 : lw_okq (⟨"RoutingFieldModel", "isPrefixWord", "(I)Z"⟩, 166) := ⟨⟨by decide +kernel, by decide +kernel⟩, List.mem_of_getElem? (i := 1974) (by decide +kernel), List.mem_of_getElem? (i := 2870) (by decide +kernel), List.mem_of_getElem? (i := 2871) (by decide +kernel)⟩
theorem lw_p168 : lw_okq (⟨"RoutingFieldModel", "lineNostatic", "()I"⟩, 166) := ⟨⟨by decide +kernel, by decide +kernel⟩, List.mem_of_getElem? (i := 1974) (by decide +kernel), List.mem_of_getElem? (i := 2878) (by decide +kernel), List.mem_of_getElem? (i := 2879) (by decide +kernel)⟩
theorem lw_p169 : lw_okq (⟨"RoutingFieldModel", "lineFilter", "()I"⟩, 166) := ⟨⟨by decide +kernel, by decide +kernel⟩, List.mem_of_getElem? (i := 1974) (by decide +kernel), List.mem_of_getElem? (i := 2883) (by decide +kernel), List.mem_of_getElem? (i := 2884) (by decide +kernel)⟩
theorem lw_p170 : lw_okq (⟨"RoutingFieldModel", "isWay", "(I)Z"⟩, 166) := ⟨⟨by decide +kernel, by decide +kernel⟩, List.mem_of_getElem? (i := 1974) (by decide +kernel), List.mem_of_getElem? (i := 2887) (by decide +kernel), List.mem_of_getElem? (i := 2888) (by decide +kernel)⟩
theorem lw_p171 : lw_okq (⟨"RoutingFieldModel", "isDecision", "(I)Z"⟩, 166) := ⟨⟨by decide +kernel, by decide +kernel⟩, List.mem_of_getElem? (i := 1974) (by decide +kernel), List.mem_of_getElem? (i := 2893) (by decide +kernel), List.mem_of_getElem? (i := 2894) (by decide +kernel)⟩
theorem lw_p172 : lw_okq (⟨"RoutingFieldModel", "lineList", "()I"⟩, 166) := ⟨⟨by decide +kernel, by decide +kernel⟩, List.mem_of_getElem? (i := 1974) (by decide +kernel), List.mem_of_getElem? (i := 2900) (by decide +kernel), List.mem_of_getElem? (i := 2901) (by decide +kernel)⟩
theorem lw_p173 : lw_okq (⟨"RoutingFieldModel", "listNamed", "(J)I"⟩, 166) := ⟨⟨by decide +kernel, by decide +kernel⟩, List.mem_of_getElem? (i := 1974) (by decide +kernel), List.mem_of_getElem? (i := 2906) (by decide +kernel), List.mem_of_getElem? (i := 2907) (by decide +kernel)⟩
theorem lw_p174 : lw_okq (⟨"RoutingFieldModel", "lineDistribute", "()I"⟩, 166) := ⟨⟨by decide +kernel, by decide +kernel⟩, List.mem_of_getElem? (i := 1974) (by decide +kernel), List.mem_of_getElem? (i := 2911) (by decide +kernel), List.mem_of_getElem? (i := 2912) (by decide +kernel)⟩
theorem lw_p175 : lw_okq (⟨"RoutingFieldModel", "linkOrAll", "(I)I"⟩, 166) := ⟨⟨by decide +kernel, by decide +kernel⟩, List.mem_of_getElem? (i := 1974) (by decide +kernel), List.mem_of_getElem? (i := 2915) (by decide +kernel), List.mem_of_getElem? (i := 2916) (by decide +kernel)⟩
def lw_privs_11 : List (MethodName × Nat) := [(⟨"RoutingFieldModel", "shaBlock", "(I)V"⟩, 166), (⟨"RoutingFieldModel", "md5Block", "(I)V"⟩, 166), (⟨"RoutingFieldModel", "go", "(IIZJJIJJIIZ)V"⟩, 166), (⟨"RoutingFieldModel", "lineKey", "()I"⟩, 166), (⟨"RoutingFieldModel", "interfaceWords", "()I"⟩, 166), (⟨"RoutingFieldModel", "lineNokey", "()I"⟩, 166), (⟨"RoutingFieldModel", "lineStatic", "()I"⟩, 166), (⟨"RoutingFieldModel", "isPrefixWord", "(I)Z"⟩, 166), (⟨"RoutingFieldModel", "lineNostatic", "()I"⟩, 166), (⟨"RoutingFieldModel", "lineFilter", "()I"⟩, 166), (⟨"RoutingFieldModel", "isWay", "(I)Z"⟩, 166), (⟨"RoutingFieldModel", "isDecision", "(I)Z"⟩, 166), (⟨"RoutingFieldModel", "lineList", "()I"⟩, 166), (⟨"RoutingFieldModel", "listNamed", "(J)I"⟩, 166), (⟨"RoutingFieldModel", "lineDistribute", "()I"⟩, 166), (⟨"RoutingFieldModel", "linkOrAll", "(I)I"⟩, 166)]
theorem lw_r11 : ∀ q ∈ lw_privs_11, lw_okq q := List.forall_mem_cons.mpr ⟨lw_p160, List.forall_mem_cons.mpr ⟨lw_p161, List.forall_mem_cons.mpr ⟨lw_p162, List.forall_mem_cons.mpr ⟨lw_p163, List.forall_mem_cons.mpr ⟨lw_p164, List.forall_mem_cons.mpr ⟨lw_p165, List.forall_mem_cons.mpr ⟨lw_p166, List.forall_mem_cons.mpr ⟨lw_p167, List.forall_mem_cons.mpr ⟨lw_p168, List.forall_mem_cons.mpr ⟨lw_p169, List.forall_mem_cons.mpr ⟨lw_p170, List.forall_mem_cons.mpr ⟨lw_p171, List.forall_mem_cons.mpr ⟨lw_p172, List.forall_mem_cons.mpr ⟨lw_p173, List.forall_mem_cons.mpr ⟨lw_p174, List.forall_mem_cons.mpr ⟨lw_p175, fun _ h => absurd h List.not_mem_nil⟩⟩⟩⟩⟩⟩⟩⟩⟩⟩⟩⟩⟩⟩⟩⟩
theorem lw_p176 : lw_okq (⟨"RoutingFieldModel", "lineOffset", "()I"⟩, 166) := ⟨⟨by decide +kernel, by decide +kernel⟩, List.mem_of_getElem? (i := 1974) (by decide +kernel), List.mem_of_getElem? (i := 2920) (by decide +kernel), List.mem_of_getElem? (i := 2921) (by decide +kernel)⟩
theorem lw_p177 : lw_okq (⟨"RoutingFieldModel", "lineSummary", "()I"⟩, 166) := ⟨⟨by decide +kernel, by decide +kernel⟩, List.mem_of_getElem? (i := 1974) (by decide +kernel), List.mem_of_getElem? (i := 2925) (by decide +kernel), List.mem_of_getElem? (i := 2926) (by decide +kernel)⟩
theorem lw_p178 : lw_okq (⟨"RoutingFieldModel", "lineNeighbor", "()I"⟩, 166) := ⟨⟨by decide +kernel, by decide +kernel⟩, List.mem_of_getElem? (i := 1974) (by decide +kernel), List.mem_of_getElem? (i := 2930) (by decide +kernel), List.mem_of_getElem? (i := 2931) (by decide +kernel)⟩
theorem lw_p179 : lw_okq (⟨"RoutingFieldModel", "isAddress", "(I)Z"⟩, 166) := ⟨⟨by decide +kernel, by decide +kernel⟩, List.mem_of_getElem? (i := 1974) (by decide +kernel), List.mem_of_getElem? (i := 2934) (by decide +kernel), List.mem_of_getElem? (i := 2935) (by decide +kernel)⟩
theorem lw_p180 : lw_okq (⟨"RoutingFieldModel", "lineRedistribute", "()I"⟩, 166) := ⟨⟨by decide +kernel, by decide +kernel⟩, List.mem_of_getElem? (i := 1974) (by decide +kernel), List.mem_of_getElem? (i := 2939) (by decide +kernel), List.mem_of_getElem? (i := 2940) (by decide +kernel)⟩
theorem lw_p181 : lw_okq (⟨"RoutingFieldModel", "lineDefault", "()I"⟩, 166) := ⟨⟨by decide +kernel, by decide +kernel⟩, List.mem_of_getElem? (i := 1974) (by decide +kernel), List.mem_of_getElem? (i := 2946) (by decide +kernel), List.mem_of_getElem? (i := 2947) (by decide +kernel)⟩
theorem lw_p182 : lw_okq (⟨"RoutingFieldModel", "lineTimers", "()I"⟩, 166) := ⟨⟨by decide +kernel, by decide +kernel⟩, List.mem_of_getElem? (i := 1974) (by decide +kernel), List.mem_of_getElem? (i := 2951) (by decide +kernel), List.mem_of_getElem? (i := 2952) (by decide +kernel)⟩
theorem lw_p183 : lw_okq (⟨"RoutingFieldModel", "tick", "()V"⟩, 166) := ⟨⟨by decide +kernel, by decide +kernel⟩, List.mem_of_getElem? (i := 1974) (by decide +kernel), List.mem_of_getElem? (i := 2959) (by decide +kernel), List.mem_of_getElem? (i := 2960) (by decide +kernel)⟩
theorem lw_p184 : lw_okq (⟨"RoutingFieldModel", "arrive", "(I)V"⟩, 166) := ⟨⟨by decide +kernel, by decide +kernel⟩, List.mem_of_getElem? (i := 1974) (by decide +kernel), List.mem_of_getElem? (i := 2963) (by decide +kernel), List.mem_of_getElem? (i := 2964) (by decide +kernel)⟩
theorem lw_p185 : lw_okq (⟨"RoutingFieldModel", "takeOff", "(I)V"⟩, 166) := ⟨⟨by decide +kernel, by decide +kernel⟩, List.mem_of_getElem? (i := 1974) (by decide +kernel), List.mem_of_getElem? (i := 2967) (by decide +kernel), List.mem_of_getElem? (i := 2968) (by decide +kernel)⟩
theorem lw_p186 : lw_okq (⟨"RoutingFieldModel", "receive", "(IIJJII)V"⟩, 166) := ⟨⟨by decide +kernel, by decide +kernel⟩, List.mem_of_getElem? (i := 1974) (by decide +kernel), List.mem_of_getElem? (i := 2971) (by decide +kernel), List.mem_of_getElem? (i := 2972) (by decide +kernel)⟩
theorem lw_p187 : lw_okq (⟨"RoutingFieldModel", "tally", "(III)V"⟩, 166) := ⟨⟨by decide +kernel, by decide +kernel⟩, List.mem_of_getElem? (i := 1974) (by decide +kernel), List.mem_of_getElem? (i := 2975) (by decide +kernel), List.mem_of_getElem? (i := 2976) (by decide +kernel)⟩
theorem lw_p188 : lw_okq (⟨"RoutingFieldModel", "keysAreGood", "(IJ)Z"⟩, 166) := ⟨⟨by decide +kernel, by decide +kernel⟩, List.mem_of_getElem? (i := 1974) (by decide +kernel), List.mem_of_getElem? (i := 2982) (by decide +kernel), List.mem_of_getElem? (i := 2983) (by decide +kernel)⟩
theorem lw_p189 : lw_okq (⟨"RoutingFieldModel", "bytesAre", "(IIIII)Z"⟩, 166) := ⟨⟨by decide +kernel, by decide +kernel⟩, List.mem_of_getElem? (i := 1974) (by decide +kernel), List.mem_of_getElem? (i := 2986) (by decide +kernel), List.mem_of_getElem? (i := 2987) (by decide +kernel)⟩
theorem lw_p190 : lw_okq (⟨"RoutingFieldModel", "areZeros", "(II)Z"⟩, 166) := ⟨⟨by decide +kernel, by decide +kernel⟩, List.mem_of_getElem? (i := 1974) (by decide +kernel), List.mem_of_getElem? (i := 2990) (by decide +kernel), List.mem_of_getElem? (i := 2991) (by decide +kernel)⟩
theorem lw_p191 : lw_okq (⟨"RoutingFieldModel", "isNotOlder", "(IJJ)Z"⟩, 166) := ⟨⟨by decide +kernel, by decide +kernel⟩, List.mem_of_getElem? (i := 1974) (by decide +kernel), List.mem_of_getElem? (i := 2997) (by decide +kernel), List.mem_of_getElem? (i := 2998) (by decide +kernel)⟩
def lw_privs_12 : List (MethodName × Nat) := [(⟨"RoutingFieldModel", "lineOffset", "()I"⟩, 166), (⟨"RoutingFieldModel", "lineSummary", "()I"⟩, 166), (⟨"RoutingFieldModel", "lineNeighbor", "()I"⟩, 166), (⟨"RoutingFieldModel", "isAddress", "(I)Z"⟩, 166), (⟨"RoutingFieldModel", "lineRedistribute", "()I"⟩, 166), (⟨"RoutingFieldModel", "lineDefault", "()I"⟩, 166), (⟨"RoutingFieldModel", "lineTimers", "()I"⟩, 166), (⟨"RoutingFieldModel", "tick", "()V"⟩, 166), (⟨"RoutingFieldModel", "arrive", "(I)V"⟩, 166), (⟨"RoutingFieldModel", "takeOff", "(I)V"⟩, 166), (⟨"RoutingFieldModel", "receive", "(IIJJII)V"⟩, 166), (⟨"RoutingFieldModel", "tally", "(III)V"⟩, 166), (⟨"RoutingFieldModel", "keysAreGood", "(IJ)Z"⟩, 166), (⟨"RoutingFieldModel", "bytesAre", "(IIIII)Z"⟩, 166), (⟨"RoutingFieldModel", "areZeros", "(II)Z"⟩, 166), (⟨"RoutingFieldModel", "isNotOlder", "(IJJ)Z"⟩, 166)]
theorem lw_r12 : ∀ q ∈ lw_privs_12, lw_okq q := List.forall_mem_cons.mpr ⟨lw_p176, List.forall_mem_cons.mpr ⟨lw_p177, List.forall_mem_cons.mpr ⟨lw_p178, List.forall_mem_cons.mpr ⟨lw_p179, List.forall_mem_cons.mpr ⟨lw_p180, List.forall_mem_cons.mpr ⟨lw_p181, List.forall_mem_cons.mpr ⟨lw_p182, List.forall_mem_cons.mpr ⟨lw_p183, List.forall_mem_cons.mpr ⟨lw_p184, List.forall_mem_cons.mpr ⟨lw_p185, List.forall_mem_cons.mpr ⟨lw_p186, List.forall_mem_cons.mpr ⟨lw_p187, List.forall_mem_cons.mpr ⟨lw_p188, List.forall_mem_cons.mpr ⟨lw_p189, List.forall_mem_cons.mpr ⟨lw_p190, List.forall_mem_cons.mpr ⟨lw_p191, fun _ h => absurd h List.not_mem_nil⟩⟩⟩⟩⟩⟩⟩⟩⟩⟩⟩⟩⟩⟩⟩⟩
end
section
theorem lw_p192 : lw_okq (⟨"RoutingFieldModel", "growSources", "()V"⟩, 166) := ⟨⟨by decide +kernel, by decide +kernel⟩, List.mem_of_getElem? (i := 1974) (by decide +kernel), List.mem_of_getElem? (i := 3001) (by decide +kernel), List.mem_of_getElem? (i := 3002) (by decide +kernel)⟩
theorem lw_p193 : lw_okq (⟨"RoutingFieldModel", "takeAll", "(IIJJ)V"⟩, 166) := ⟨⟨by decide +kernel, by decide +kernel⟩, List.mem_of_getElem? (i := 1974) (by decide +kernel), List.mem_of_getElem? (i := 3005) (by decide +kernel), List.mem_of_getElem? (i := 3006) (by decide +kernel)⟩
theorem lw_p194 : lw_okq (⟨"RoutingFieldModel", "isEntry", "(II)Z"⟩, 166) := ⟨⟨by decide +kernel, by decide +kernel⟩, List.mem_of_getElem? (i := 1974) (by decide +kernel), List.mem_of_getElem? (i := 3015) (by decide +kernel), List.mem_of_getElem? (i := 3016) (by decide +kernel)⟩
theorem lw_p195 : lw_okq (⟨"RoutingFieldModel", "filterAllows", "(IIIJJI)Z"⟩, 166) := ⟨⟨by decide +kernel, by decide +kernel⟩, List.mem_of_getElem? (i := 1974) (by decide +kernel), List.mem_of_getElem? (i := 3027) (by decide +kernel), List.mem_of_getElem? (i := 3028) (by decide +kernel)⟩
theorem lw_p196 : lw_okq (⟨"RoutingFieldModel", "distributeAllows", "(IIIIJJI)Z"⟩, 166) := ⟨⟨by decide +kernel, by decide +kernel⟩, List.mem_of_getElem? (i := 1974) (by decide +kernel), List.mem_of_getElem? (i := 3034) (by decide +kernel), List.mem_of_getElem? (i := 3035) (by decide +kernel)⟩
theorem lw_p197 : lw_okq (⟨"RoutingFieldModel", "listAllows", "(IIJJI)Z"⟩, 166) := ⟨⟨by decide +kernel, by decide +kernel⟩, List.mem_of_getElem? (i := 1974) (by decide +kernel), List.mem_of_getElem? (i := 3038) (by decide +kernel), List.mem_of_getElem? (i := 3039) (by decide +kernel)⟩
theorem lw_p198 : lw_okq (⟨"RoutingFieldModel", "fits", "(IIJJI)Z"⟩, 166) := ⟨⟨by decide +kernel, by decide +kernel⟩, List.mem_of_getElem? (i := 1974) (by decide +kernel), List.mem_of_getElem? (i := 3042) (by decide +kernel), List.mem_of_getElem? (i := 3043) (by decide +kernel)⟩
theorem lw_p199 : lw_okq (⟨"RoutingFieldModel", "offsetFor", "(IIIIJJI)I"⟩, 166) := ⟨⟨by decide +kernel, by decide +kernel⟩, List.mem_of_getElem? (i := 1974) (by decide +kernel), List.mem_of_getElem? (i := 3046) (by decide +kernel), List.mem_of_getElem? (i := 3047) (by decide +kernel)⟩
theorem lw_p200 : lw_okq (⟨"RoutingFieldModel", "learn", "(IIIIIJJ)V"⟩, 166) := ⟨⟨by decide +kernel, by decide +kernel⟩, List.mem_of_getElem? (i := 1974) (by decide +kernel), List.mem_of_getElem? (i := 3050) (by decide +kernel), List.mem_of_getElem? (i := 3051) (by decide +kernel)⟩
theorem lw_p201 : lw_okq (⟨"RoutingFieldModel", "takeOver", "(IIIIIJJ)V"⟩, 166) := ⟨⟨by decide +kernel, by decide +kernel⟩, List.mem_of_getElem? (i := 1974) (by decide +kernel), List.mem_of_getElem? (i := 3054) (by decide +kernel), List.mem_of_getElem? (i := 3055) (by decide +kernel)⟩
theorem lw_p202 : lw_okq (⟨"RoutingFieldModel", "answer", "(IIJJ)V"⟩, 166) := ⟨⟨by decide +kernel, by decide +kernel⟩, List.mem_of_getElem? (i := 1974) (by decide +kernel), List.mem_of_getElem? (i := 3058) (by decide +kernel), List.mem_of_getElem? (i := 3059) (by decide +kernel)⟩
theorem lw_p203 : lw_okq (⟨"RoutingFieldModel", "asksForAll", "(I)Z"⟩, 166) := ⟨⟨by decide +kernel, by decide +kernel⟩, List.mem_of_getElem? (i := 1974) (by decide +kernel), List.mem_of_getElem? (i := 3062) (by decide +kernel), List.mem_of_getElem? (i := 3063) (by decide +kernel)⟩
theorem lw_p204 : lw_okq (⟨"RoutingFieldModel", "gather", "(III)V"⟩, 166) := ⟨⟨by decide +kernel, by decide +kernel⟩, List.mem_of_getElem? (i := 1974) (by decide +kernel), List.mem_of_getElem? (i := 3066) (by decide +kernel), List.mem_of_getElem? (i := 3067) (by decide +kernel)⟩
theorem lw_p205 : lw_okq (⟨"RoutingFieldModel", "toldMetric", "(III)I"⟩, 166) := ⟨⟨by decide +kernel, by decide +kernel⟩, List.mem_of_getElem? (i := 1974) (by decide +kernel), List.mem_of_getElem? (i := 3070) (by decide +kernel), List.mem_of_getElem? (i := 3071) (by decide +kernel)⟩
theorem lw_p206 : lw_okq (⟨"RoutingFieldModel", "enter", "(JJIII)V"⟩, 166) := ⟨⟨by decide +kernel, by decide +kernel⟩, List.mem_of_getElem? (i := 1974) (by decide +kernel), List.mem_of_getElem? (i := 3074) (by decide +kernel), List.mem_of_getElem? (i := 3075) (by decide +kernel)⟩
theorem lw_p207 : lw_okq (⟨"RoutingFieldModel", "summaryFor", "(II)I"⟩, 166) := ⟨⟨by decide +kernel, by decide +kernel⟩, List.mem_of_getElem? (i := 1974) (by decide +kernel), List.mem_of_getElem? (i := 3078) (by decide +kernel), List.mem_of_getElem? (i := 3079) (by decide +kernel)⟩
def lw_privs_13 : List (MethodName × Nat) := [(⟨"RoutingFieldModel", "growSources", "()V"⟩, 166), (⟨"RoutingFieldModel", "takeAll", "(IIJJ)V"⟩, 166), (⟨"RoutingFieldModel", "isEntry", "(II)Z"⟩, 166), (⟨"RoutingFieldModel", "filterAllows", "(IIIJJI)Z"⟩, 166), (⟨"RoutingFieldModel", "distributeAllows", "(IIIIJJI)Z"⟩, 166), (⟨"RoutingFieldModel", "listAllows", "(IIJJI)Z"⟩, 166), (⟨"RoutingFieldModel", "fits", "(IIJJI)Z"⟩, 166), (⟨"RoutingFieldModel", "offsetFor", "(IIIIJJI)I"⟩, 166), (⟨"RoutingFieldModel", "learn", "(IIIIIJJ)V"⟩, 166), (⟨"RoutingFieldModel", "takeOver", "(IIIIIJJ)V"⟩, 166), (⟨"RoutingFieldModel", "answer", "(IIJJ)V"⟩, 166), (⟨"RoutingFieldModel", "asksForAll", "(I)Z"⟩, 166), (⟨"RoutingFieldModel", "gather", "(III)V"⟩, 166), (⟨"RoutingFieldModel", "toldMetric", "(III)I"⟩, 166), (⟨"RoutingFieldModel", "enter", "(JJIII)V"⟩, 166), (⟨"RoutingFieldModel", "summaryFor", "(II)I"⟩, 166)]
theorem lw_r13 : ∀ q ∈ lw_privs_13, lw_okq q := List.forall_mem_cons.mpr ⟨lw_p192, List.forall_mem_cons.mpr ⟨lw_p193, List.forall_mem_cons.mpr ⟨lw_p194, List.forall_mem_cons.mpr ⟨lw_p195, List.forall_mem_cons.mpr ⟨lw_p196, List.forall_mem_cons.mpr ⟨lw_p197, List.forall_mem_cons.mpr ⟨lw_p198, List.forall_mem_cons.mpr ⟨lw_p199, List.forall_mem_cons.mpr ⟨lw_p200, List.forall_mem_cons.mpr ⟨lw_p201, List.forall_mem_cons.mpr ⟨lw_p202, List.forall_mem_cons.mpr ⟨lw_p203, List.forall_mem_cons.mpr ⟨lw_p204, List.forall_mem_cons.mpr ⟨lw_p205, List.forall_mem_cons.mpr ⟨lw_p206, List.forall_mem_cons.mpr ⟨lw_p207, fun _ h => absurd h List.not_mem_nil⟩⟩⟩⟩⟩⟩⟩⟩⟩⟩⟩⟩⟩⟩⟩⟩
theorem lw_p208 : lw_okq (⟨"RoutingFieldModel", "besideDefault", "(II)Z"⟩, 166) := ⟨⟨by decide +kernel, by decide +kernel⟩, List.mem_of_getElem? (i := 1974) (by decide +kernel), List.mem_of_getElem? (i := 3082) (by decide +kernel), List.mem_of_getElem? (i := 3083) (by decide +kernel)⟩
theorem lw_p209 : lw_okq (⟨"RoutingFieldModel", "tellTo", "(IIZJJ)V"⟩, 166) := ⟨⟨by decide +kernel, by decide +kernel⟩, List.mem_of_getElem? (i := 1974) (by decide +kernel), List.mem_of_getElem? (i := 3086) (by decide +kernel), List.mem_of_getElem? (i := 3087) (by decide +kernel)⟩
theorem lw_p210 : lw_okq (⟨"RoutingFieldModel", "mostEntries", "(II)I"⟩, 166) := ⟨⟨by decide +kernel, by decide +kernel⟩, List.mem_of_getElem? (i := 1974) (by decide +kernel), List.mem_of_getElem? (i := 3090) (by decide +kernel), List.mem_of_getElem? (i := 3091) (by decide +kernel)⟩
theorem lw_p211 : lw_okq (⟨"RoutingFieldModel", "layEntry", "(III)V"⟩, 166) := ⟨⟨by decide +kernel, by decide +kernel⟩, List.mem_of_getElem? (i := 1974) (by decide +kernel), List.mem_of_getElem? (i := 3094) (by decide +kernel), List.mem_of_getElem? (i := 3095) (by decide +kernel)⟩
theorem lw_p212 : lw_okq (⟨"RoutingFieldModel", "putAddress", "([IIIJJ)V"⟩, 166) := ⟨⟨by decide +kernel, by decide +kernel⟩, List.mem_of_getElem? (i := 1974) (by decide +kernel), List.mem_of_getElem? (i := 3098) (by decide +kernel), List.mem_of_getElem? (i := 3099) (by decide +kernel)⟩
theorem lw_p213 : lw_okq (⟨"RoutingFieldModel", "age", "(I)V"⟩, 166) := ⟨⟨by decide +kernel, by decide +kernel⟩, List.mem_of_getElem? (i := 1974) (by decide +kernel), List.mem_of_getElem? (i := 3102) (by decide +kernel), List.mem_of_getElem? (i := 3103) (by decide +kernel)⟩
theorem lw_p214 : lw_okq (⟨"RoutingFieldModel", "remove", "(II)V"⟩, 166) := ⟨⟨by decide +kernel, by decide +kernel⟩, List.mem_of_getElem? (i := 1974) (by decide +kernel), List.mem_of_getElem? (i := 3106) (by decide +kernel), List.mem_of_getElem? (i := 3107) (by decide +kernel)⟩
theorem lw_p215 : lw_okq (⟨"RoutingFieldModel", "tellAll", "(II)V"⟩, 166) := ⟨⟨by decide +kernel, by decide +kernel⟩, List.mem_of_getElem? (i := 1974) (by decide +kernel), List.mem_of_getElem? (i := 3110) (by decide +kernel), List.mem_of_getElem? (i := 3111) (by decide +kernel)⟩
theorem lw_p216 : lw_okq (⟨"RoutingFieldModel", "tell", "(II)V"⟩, 166) := ⟨⟨by decide +kernel, by decide +kernel⟩, List.mem_of_getElem? (i := 1974) (by decide +kernel), List.mem_of_getElem? (i := 3114) (by decide +kernel), List.mem_of_getElem? (i := 3115) (by decide +kernel)⟩
theorem lw_p217 : lw_okq (⟨"RoutingFieldModel", "forget", "(I)V"⟩, 166) := ⟨⟨by decide +kernel, by decide +kernel⟩, List.mem_of_getElem? (i := 1974) (by decide +kernel), List.mem_of_getElem? (i := 3118) (by decide +kernel), List.mem_of_getElem? (i := 3119) (by decide +kernel)⟩
theorem lw_p218 : lw_okq (⟨"RoutingFieldModel", "requests", "(I)V"⟩, 166) := ⟨⟨by decide +kernel, by decide +kernel⟩, List.mem_of_getElem? (i := 1974) (by decide +kernel), List.mem_of_getElem? (i := 3126) (by decide +kernel), List.mem_of_getElem? (i := 3127) (by decide +kernel)⟩
theorem lw_p219 : lw_okq (⟨"RoutingFieldModel", "isRouter", "(I)Z"⟩, 166) := ⟨⟨by decide +kernel, by decide +kernel⟩, List.mem_of_getElem? (i := 1974) (by decide +kernel), List.mem_of_getElem? (i := 3146) (by decide +kernel), List.mem_of_getElem? (i := 3147) (by decide +kernel)⟩
theorem lw_p220 : lw_okq (⟨"RoutingFieldModel", "sayRoute", "(I)V"⟩, 166) := ⟨⟨by decide +kernel, by decide +kernel⟩, List.mem_of_getElem? (i := 1974) (by decide +kernel), List.mem_of_getElem? (i := 3150) (by decide +kernel), List.mem_of_getElem? (i := 3151) (by decide +kernel)⟩
theorem lw_p221 : lw_okq (⟨"RoutingFieldModel", "sayPrefix", "(IJJI)V"⟩, 166) := ⟨⟨by decide +kernel, by decide +kernel⟩, List.mem_of_getElem? (i := 1974) (by decide +kernel), List.mem_of_getElem? (i := 3154) (by decide +kernel), List.mem_of_getElem? (i := 3155) (by decide +kernel)⟩
theorem lw_p222 : lw_okq (⟨"RoutingFieldModel", "sayAddress", "(IJJ)V"⟩, 166) := ⟨⟨by decide +kernel, by decide +kernel⟩, List.mem_of_getElem? (i := 1974) (by decide +kernel), List.mem_of_getElem? (i := 3158) (by decide +kernel), List.mem_of_getElem? (i := 3159) (by decide +kernel)⟩
theorem lw_p223 : lw_okq (⟨"RoutingFieldModel", "say", "(I)V"⟩, 166) := ⟨⟨by decide +kernel, by decide +kernel⟩, List.mem_of_getElem? (i := 1974) (by decide +kernel), List.mem_of_getElem? (i := 3162) (by decide +kernel), List.mem_of_getElem? (i := 3163) (by decide +kernel)⟩
def lw_privs_14 : List (MethodName × Nat) := [(⟨"RoutingFieldModel", "besideDefault", "(II)Z"⟩, 166), (⟨"RoutingFieldModel", "tellTo", "(IIZJJ)V"⟩, 166), (⟨"RoutingFieldModel", "mostEntries", "(II)I"⟩, 166), (⟨"RoutingFieldModel", "layEntry", "(III)V"⟩, 166), (⟨"RoutingFieldModel", "putAddress", "([IIIJJ)V"⟩, 166), (⟨"RoutingFieldModel", "age", "(I)V"⟩, 166), (⟨"RoutingFieldModel", "remove", "(II)V"⟩, 166), (⟨"RoutingFieldModel", "tellAll", "(II)V"⟩, 166), (⟨"RoutingFieldModel", "tell", "(II)V"⟩, 166), (⟨"RoutingFieldModel", "forget", "(I)V"⟩, 166), (⟨"RoutingFieldModel", "requests", "(I)V"⟩, 166), (⟨"RoutingFieldModel", "isRouter", "(I)Z"⟩, 166), (⟨"RoutingFieldModel", "sayRoute", "(I)V"⟩, 166), (⟨"RoutingFieldModel", "sayPrefix", "(IJJI)V"⟩, 166), (⟨"RoutingFieldModel", "sayAddress", "(IJJ)V"⟩, 166), (⟨"RoutingFieldModel", "say", "(I)V"⟩, 166)]
theorem lw_r14 : ∀ q ∈ lw_privs_14, lw_okq q := List.forall_mem_cons.mpr ⟨lw_p208, List.forall_mem_cons.mpr ⟨lw_p209, List.forall_mem_cons.mpr ⟨lw_p210, List.forall_mem_cons.mpr ⟨lw_p211, List.forall_mem_cons.mpr ⟨lw_p212, List.forall_mem_cons.mpr ⟨lw_p213, List.forall_mem_cons.mpr ⟨lw_p214, List.forall_mem_cons.mpr ⟨lw_p215, List.forall_mem_cons.mpr ⟨lw_p216, List.forall_mem_cons.mpr ⟨lw_p217, List.forall_mem_cons.mpr ⟨lw_p218, List.forall_mem_cons.mpr ⟨lw_p219, List.forall_mem_cons.mpr ⟨lw_p220, List.forall_mem_cons.mpr ⟨lw_p221, List.forall_mem_cons.mpr ⟨lw_p222, List.forall_mem_cons.mpr ⟨lw_p223, fun _ h => absurd h List.not_mem_nil⟩⟩⟩⟩⟩⟩⟩⟩⟩⟩⟩⟩⟩⟩⟩⟩
theorem lw_p224 : lw_okq (⟨"RoutingFieldModel", "sayNumber", "(I)V"⟩, 166) := ⟨⟨by decide +kernel, by decide +kernel⟩, List.mem_of_getElem? (i := 1974) (by decide +kernel), List.mem_of_getElem? (i := 3166) (by decide +kernel), List.mem_of_getElem? (i := 3167) (by decide +kernel)⟩
theorem lw_p225 : lw_okq (⟨"RoutingFieldModel", "sayNumber10", "(I)V"⟩, 166) := ⟨⟨by decide +kernel, by decide +kernel⟩, List.mem_of_getElem? (i := 1974) (by decide +kernel), List.mem_of_getElem? (i := 3170) (by decide +kernel), List.mem_of_getElem? (i := 3171) (by decide +kernel)⟩
theorem lw_p226 : lw_okq (⟨"RoutingFieldModel", "wordNumber", "(I)V"⟩, 166) := ⟨⟨by decide +kernel, by decide +kernel⟩, List.mem_of_getElem? (i := 1974) (by decide +kernel), List.mem_of_getElem? (i := 3178) (by decide +kernel), List.mem_of_getElem? (i := 3179) (by decide +kernel)⟩
theorem lw_p227 : lw_okq (⟨"RoutingFieldModel", "space", "()V"⟩, 166) := ⟨⟨by decide +kernel, by decide +kernel⟩, List.mem_of_getElem? (i := 1974) (by decide +kernel), List.mem_of_getElem? (i := 3182) (by decide +kernel), List.mem_of_getElem? (i := 3183) (by decide +kernel)⟩
theorem lw_p228 : lw_okq (⟨"RoutingFieldModel", "word", "(J)V"⟩, 166) := ⟨⟨by decide +kernel, by decide +kernel⟩, List.mem_of_getElem? (i := 1974) (by decide +kernel), List.mem_of_getElem? (i := 3186) (by decide +kernel), List.mem_of_getElem? (i := 3187) (by decide +kernel)⟩
theorem lw_p229 : lw_okq (⟨"RoutingFieldModel", "sayName", "(J)V"⟩, 166) := ⟨⟨by decide +kernel, by decide +kernel⟩, List.mem_of_getElem? (i := 1974) (by decide +kernel), List.mem_of_getElem? (i := 3190) (by decide +kernel), List.mem_of_getElem? (i := 3191) (by decide +kernel)⟩
theorem lw_p230 : lw_okq (⟨"RoutingFieldModel", "sayTimes", "(I)V"⟩, 166) := ⟨⟨by decide +kernel, by decide +kernel⟩, List.mem_of_getElem? (i := 1974) (by decide +kernel), List.mem_of_getElem? (i := 3197) (by decide +kernel), List.mem_of_getElem? (i := 3198) (by decide +kernel)⟩
theorem lw_p231 : lw_okq (⟨"RoutingFieldModel", "sayInterface", "(I)V"⟩, 166) := ⟨⟨by decide +kernel, by decide +kernel⟩, List.mem_of_getElem? (i := 1974) (by decide +kernel), List.mem_of_getElem? (i := 3202) (by decide +kernel), List.mem_of_getElem? (i := 3203) (by decide +kernel)⟩
theorem lw_p232 : lw_okq (⟨"RoutingFieldModel", "sayOwn", "(I)V"⟩, 166) := ⟨⟨by decide +kernel, by decide +kernel⟩, List.mem_of_getElem? (i := 1974) (by decide +kernel), List.mem_of_getElem? (i := 3210) (by decide +kernel), List.mem_of_getElem? (i := 3211) (by decide +kernel)⟩
theorem lw_p233 : lw_okq (⟨"RoutingFieldModel", "wordPrefix", "(IJJI)V"⟩, 166) := ⟨⟨by decide +kernel, by decide +kernel⟩, List.mem_of_getElem? (i := 1974) (by decide +kernel), List.mem_of_getElem? (i := 3214) (by decide +kernel), List.mem_of_getElem? (i := 3215) (by decide +kernel)⟩
theorem lw_p234 : lw_okq (⟨"RoutingFieldModel", "shown", "()I"⟩, 166) := ⟨⟨by decide +kernel, by decide +kernel⟩, List.mem_of_getElem? (i := 1974) (by decide +kernel), List.mem_of_getElem? (i := 3218) (by decide +kernel), List.mem_of_getElem? (i := 3219) (by decide +kernel)⟩
theorem lw_p235 : lw_okq (⟨"RoutingFieldModel", "sayLink", "(I)V"⟩, 166) := ⟨⟨by decide +kernel, by decide +kernel⟩, List.mem_of_getElem? (i := 1974) (by decide +kernel), List.mem_of_getElem? (i := 3226) (by decide +kernel), List.mem_of_getElem? (i := 3227) (by decide +kernel)⟩
theorem lw_p236 : lw_okq (⟨"RoutingFieldModel", "sayListEntry", "(II)V"⟩, 166) := ⟨⟨by decide +kernel, by decide +kernel⟩, List.mem_of_getElem? (i := 1974) (by decide +kernel), List.mem_of_getElem? (i := 3230) (by decide +kernel), List.mem_of_getElem? (i := 3231) (by decide +kernel)⟩
theorem lw_p237 : lw_okq (⟨"RoutingFieldModel", "sayRouter", "(I)V"⟩, 166) := ⟨⟨by decide +kernel, by decide +kernel⟩, List.mem_of_getElem? (i := 1974) (by decide +kernel), List.mem_of_getElem? (i := 3234) (by decide +kernel), List.mem_of_getElem? (i := 3235) (by decide +kernel)⟩
theorem lw_p238 : lw_okq (⟨"RoutingFieldModel", "begin", "(JI)V"⟩, 166) := ⟨⟨by decide +kernel, by decide +kernel⟩, List.mem_of_getElem? (i := 1974) (by decide +kernel), List.mem_of_getElem? (i := 3238) (by decide +kernel), List.mem_of_getElem? (i := 3239) (by decide +kernel)⟩
theorem lw_p239 : lw_okq (⟨"RoutingFieldModel", "sayJoins", "(I)V"⟩, 166) := ⟨⟨by decide +kernel, by decide +kernel⟩, List.mem_of_getElem? (i := 1974) (by decide +kernel), List.mem_of_getElem? (i := 3242) (by decide +kernel), List.mem_of_getElem? (i := 3243) (by decide +kernel)⟩
def lw_privs_15 : List (MethodName × Nat) := [(⟨"RoutingFieldModel", "sayNumber", "(I)V"⟩, 166), (⟨"RoutingFieldModel", "sayNumber10", "(I)V"⟩, 166), (⟨"RoutingFieldModel", "wordNumber", "(I)V"⟩, 166), (⟨"RoutingFieldModel", "space", "()V"⟩, 166), (⟨"RoutingFieldModel", "word", "(J)V"⟩, 166), (⟨"RoutingFieldModel", "sayName", "(J)V"⟩, 166), (⟨"RoutingFieldModel", "sayTimes", "(I)V"⟩, 166), (⟨"RoutingFieldModel", "sayInterface", "(I)V"⟩, 166), (⟨"RoutingFieldModel", "sayOwn", "(I)V"⟩, 166), (⟨"RoutingFieldModel", "wordPrefix", "(IJJI)V"⟩, 166), (⟨"RoutingFieldModel", "shown", "()I"⟩, 166), (⟨"RoutingFieldModel", "sayLink", "(I)V"⟩, 166), (⟨"RoutingFieldModel", "sayListEntry", "(II)V"⟩, 166), (⟨"RoutingFieldModel", "sayRouter", "(I)V"⟩, 166), (⟨"RoutingFieldModel", "begin", "(JI)V"⟩, 166), (⟨"RoutingFieldModel", "sayJoins", "(I)V"⟩, 166)]
theorem lw_r15 : ∀ q ∈ lw_privs_15, lw_okq q := List.forall_mem_cons.mpr ⟨lw_p224, List.forall_mem_cons.mpr ⟨lw_p225, List.forall_mem_cons.mpr ⟨lw_p226, List.forall_mem_cons.mpr ⟨lw_p227, List.forall_mem_cons.mpr ⟨lw_p228, List.forall_mem_cons.mpr ⟨lw_p229, List.forall_mem_cons.mpr ⟨lw_p230, List.forall_mem_cons.mpr ⟨lw_p231, List.forall_mem_cons.mpr ⟨lw_p232, List.forall_mem_cons.mpr ⟨lw_p233, List.forall_mem_cons.mpr ⟨lw_p234, List.forall_mem_cons.mpr ⟨lw_p235, List.forall_mem_cons.mpr ⟨lw_p236, List.forall_mem_cons.mpr ⟨lw_p237, List.forall_mem_cons.mpr ⟨lw_p238, List.forall_mem_cons.mpr ⟨lw_p239, fun _ h => absurd h List.not_mem_nil⟩⟩⟩⟩⟩⟩⟩⟩⟩⟩⟩⟩⟩⟩⟩⟩
theorem lw_p240 : lw_okq (⟨"RoutingFieldModel", "beginAt", "(JI)V"⟩, 166) := ⟨⟨by decide +kernel, by decide +kernel⟩, List.mem_of_getElem? (i := 1974) (by decide +kernel), List.mem_of_getElem? (i := 3246) (by decide +kernel), List.mem_of_getElem? (i := 3247) (by decide +kernel)⟩
theorem lw_p241 : lw_okq (⟨"RoutingFieldModel", "sayOptions", "(I)V"⟩, 166) := ⟨⟨by decide +kernel, by decide +kernel⟩, List.mem_of_getElem? (i := 1974) (by decide +kernel), List.mem_of_getElem? (i := 3250) (by decide +kernel), List.mem_of_getElem? (i := 3251) (by decide +kernel)⟩
theorem lw_p242 : lw_okq (⟨"RoutingFieldModel", "sayStatics", "(I)V"⟩, 166) := ⟨⟨by decide +kernel, by decide +kernel⟩, List.mem_of_getElem? (i := 1974) (by decide +kernel), List.mem_of_getElem? (i := 3254) (by decide +kernel), List.mem_of_getElem? (i := 3255) (by decide +kernel)⟩
theorem lw_p243 : lw_okq (⟨"RoutingFieldModel", "aheadOf", "(II)I"⟩, 166) := ⟨⟨by decide +kernel, by decide +kernel⟩, List.mem_of_getElem? (i := 1974) (by decide +kernel), List.mem_of_getElem? (i := 3258) (by decide +kernel), List.mem_of_getElem? (i := 3259) (by decide +kernel)⟩
theorem lw_p244 : lw_okq (⟨"RoutingFieldModel", "sayFilters", "(I)V"⟩, 166) := ⟨⟨by decide +kernel, by decide +kernel⟩, List.mem_of_getElem? (i := 1974) (by decide +kernel), List.mem_of_getElem? (i := 3262) (by decide +kernel), List.mem_of_getElem? (i := 3263) (by decide +kernel)⟩
theorem lw_p245 : lw_okq (⟨"RoutingFieldModel", "sayLists", "(I)V"⟩, 166) := ⟨⟨by decide +kernel, by decide +kernel⟩, List.mem_of_getElem? (i := 1974) (by decide +kernel), List.mem_of_getElem? (i := 3266) (by decide +kernel), List.mem_of_getElem? (i := 3267) (by decide +kernel)⟩
theorem lw_p246 : lw_okq (⟨"RoutingFieldModel", "saySummaries", "(I)V"⟩, 166) := ⟨⟨by decide +kernel, by decide +kernel⟩, List.mem_of_getElem? (i := 1974) (by decide +kernel), List.mem_of_getElem? (i := 3270) (by decide +kernel), List.mem_of_getElem? (i := 3271) (by decide +kernel)⟩
theorem lw_p247 : lw_okq (⟨"RoutingFieldModel", "sayRedistributed", "(II)V"⟩, 166) := ⟨⟨by decide +kernel, by decide +kernel⟩, List.mem_of_getElem? (i := 1974) (by decide +kernel), List.mem_of_getElem? (i := 3274) (by decide +kernel), List.mem_of_getElem? (i := 3275) (by decide +kernel)⟩
theorem lw_p248 : lw_okq (⟨"RoutingFieldModel", "takeAddress", "()Z"⟩, 166) := ⟨⟨by decide +kernel, by decide +kernel⟩, List.mem_of_getElem? (i := 1974) (by decide +kernel), List.mem_of_getElem? (i := 3283) (by decide +kernel), List.mem_of_getElem? (i := 3284) (by decide +kernel)⟩
theorem lw_p249 : lw_okq (⟨"RoutingFieldModel", "longestOfAll", "()I"⟩, 166) := ⟨⟨by decide +kernel, by decide +kernel⟩, List.mem_of_getElem? (i := 1974) (by decide +kernel), List.mem_of_getElem? (i := 3287) (by decide +kernel), List.mem_of_getElem? (i := 3288) (by decide +kernel)⟩
theorem lw_p250 : lw_okq (⟨"RoutingFieldModel", "isLonger", "(IJJII)Z"⟩, 166) := ⟨⟨by decide +kernel, by decide +kernel⟩, List.mem_of_getElem? (i := 1974) (by decide +kernel), List.mem_of_getElem? (i := 3291) (by decide +kernel), List.mem_of_getElem? (i := 3292) (by decide +kernel)⟩
theorem lw_p251 : lw_okq (⟨"RoutingFieldModel", "leastAt", "(III)J"⟩, 166) := ⟨⟨by decide +kernel, by decide +kernel⟩, List.mem_of_getElem? (i := 1974) (by decide +kernel), List.mem_of_getElem? (i := 3296) (by decide +kernel), List.mem_of_getElem? (i := 3297) (by decide +kernel)⟩
def lw_privs_16 : List (MethodName × Nat) := [(⟨"RoutingFieldModel", "beginAt", "(JI)V"⟩, 166), (⟨"RoutingFieldModel", "sayOptions", "(I)V"⟩, 166), (⟨"RoutingFieldModel", "sayStatics", "(I)V"⟩, 166), (⟨"RoutingFieldModel", "aheadOf", "(II)I"⟩, 166), (⟨"RoutingFieldModel", "sayFilters", "(I)V"⟩, 166), (⟨"RoutingFieldModel", "sayLists", "(I)V"⟩, 166), (⟨"RoutingFieldModel", "saySummaries", "(I)V"⟩, 166), (⟨"RoutingFieldModel", "sayRedistributed", "(II)V"⟩, 166), (⟨"RoutingFieldModel", "takeAddress", "()Z"⟩, 166), (⟨"RoutingFieldModel", "longestOfAll", "()I"⟩, 166), (⟨"RoutingFieldModel", "isLonger", "(IJJII)Z"⟩, 166), (⟨"RoutingFieldModel", "leastAt", "(III)J"⟩, 166)]
theorem lw_r16 : ∀ q ∈ lw_privs_16, lw_okq q := List.forall_mem_cons.mpr ⟨lw_p240, List.forall_mem_cons.mpr ⟨lw_p241, List.forall_mem_cons.mpr ⟨lw_p242, List.forall_mem_cons.mpr ⟨lw_p243, List.forall_mem_cons.mpr ⟨lw_p244, List.forall_mem_cons.mpr ⟨lw_p245, List.forall_mem_cons.mpr ⟨lw_p246, List.forall_mem_cons.mpr ⟨lw_p247, List.forall_mem_cons.mpr ⟨lw_p248, List.forall_mem_cons.mpr ⟨lw_p249, List.forall_mem_cons.mpr ⟨lw_p250, List.forall_mem_cons.mpr ⟨lw_p251, fun _ h => absurd h List.not_mem_nil⟩⟩⟩⟩⟩⟩⟩⟩⟩⟩⟩⟩
def lw_privs : List (MethodName × Nat) := lw_privs_1 ++ (lw_privs_2 ++ (lw_privs_3 ++ (lw_privs_4 ++ (lw_privs_5 ++ (lw_privs_6 ++ (lw_privs_7 ++ (lw_privs_8 ++ (lw_privs_9 ++ (lw_privs_10 ++ (lw_privs_11 ++ (lw_privs_12 ++ (lw_privs_13 ++ (lw_privs_14 ++ (lw_privs_15 ++ (lw_privs_16)))))))))))))))
def lw_tbl : List Cond := k2_sels lw_privs ++ tables_1
theorem lw_privs_ok : ∀ q ∈ lw_privs, lw_okq q := by
  show ∀ q ∈ lw_privs_1 ++ (lw_privs_2 ++ (lw_privs_3 ++ (lw_privs_4 ++ (lw_privs_5 ++ (lw_privs_6 ++ (lw_privs_7 ++ (lw_privs_8 ++ (lw_privs_9 ++ (lw_privs_10 ++ (lw_privs_11 ++ (lw_privs_12 ++ (lw_privs_13 ++ (lw_privs_14 ++ (lw_privs_15 ++ (lw_privs_16))))))))))))))), lw_okq q
  exact List.forall_mem_append.mpr ⟨lw_r1, List.forall_mem_append.mpr ⟨lw_r2, List.forall_mem_append.mpr ⟨lw_r3, List.forall_mem_append.mpr ⟨lw_r4, List.forall_mem_append.mpr ⟨lw_r5, List.forall_mem_append.mpr ⟨lw_r6, List.forall_mem_append.mpr ⟨lw_r7, List.forall_mem_append.mpr ⟨lw_r8, List.forall_mem_append.mpr ⟨lw_r9, List.forall_mem_append.mpr ⟨lw_r10, List.forall_mem_append.mpr ⟨lw_r11, List.forall_mem_append.mpr ⟨lw_r12, List.forall_mem_append.mpr ⟨lw_r13, List.forall_mem_append.mpr ⟨lw_r14, List.forall_mem_append.mpr ⟨lw_r15, lw_r16⟩⟩⟩⟩⟩⟩⟩⟩⟩⟩⟩⟩⟩⟩⟩
end
section
/-! The words that every body may use: those of the tables that stay. -/
def pw_T : List Cond := lw_tbl.filter goodWord
theorem pw_good : ∀ w ∈ pw_T, goodWord w = true := fun w h => (List.mem_filter.mp h).2
theorem pw_in (i : Nat) {w : Cond} (h : tables_1[i]? = some w) (hg : goodWord w = true) : w ∈ pw_T := List.mem_filter.mpr ⟨List.mem_append_right _ (List.mem_of_getElem? h), hg⟩
theorem pw_sel (i : Nat) {q : MethodName × Nat} (h : lw_privs[i]? = some q) : Cond.selects q.1.cls q.1 q.1 ∈ pw_T := List.mem_filter.mpr ⟨List.mem_append_left _ (List.mem_map.mpr ⟨q, List.mem_of_getElem? h, rfl⟩), rfl⟩
theorem pw_lay {C : String} {T : u_T} {N : Nat} (ps : List Nat) (h : (List.range N).all (fun k => decide (tables_1[ps.getD k 0]? = some (u_lay C T k))) = true) : ∀ w ∈ u_ws C T N, w ∈ pw_T := by
  intro w hw
  obtain ⟨k, hk, rfl⟩ := List.mem_map.mp hw
  have h1 := List.all_eq_true.mp h k hk
  refine pw_in _ (of_decide_eq_true h1) ?_
  unfold u_lay
  split <;> rfl
theorem pw_goodIn {c : Cond} {ws : List Cond} (h : ∀ w ∈ ws, w ∈ pw_T) : GoodIn (c :: pw_T) ws := fun w hw => ⟨List.mem_cons_of_mem _ (h w hw), good_of_word (pw_good w (h w hw))⟩
theorem pw_gV {c0 : Cond} {own C : String} {i n : Nat} {y : MethodName} {b : ByteArray} {r : Option FieldType} (h1 : Cond.methodLink own i y ∈ pw_T) (h2 : Cond.instanceMethod y ∈ pw_T) (h3 : Cond.selects C y y ∈ pw_T) (h4 : Cond.initialized C ∈ pw_T) (h5 : Cond.code y b n r ∈ pw_T) : GoodIn (c0 :: pw_T) (wsV own i C y (Cond.code y b n r :: pw_T)) :=
  pw_goodIn (List.forall_mem_cons.mpr ⟨h1, List.forall_mem_cons.mpr ⟨h2, List.forall_mem_cons.mpr ⟨h3, List.forall_mem_cons.mpr ⟨h4, List.forall_mem_cons.mpr ⟨h5, fun _ h => h⟩⟩⟩⟩⟩)
theorem pw_gS {c0 : Cond} {own : String} {i n : Nat} {y : MethodName} {b : ByteArray} {r : Option FieldType} (h1 : Cond.methodLink own i y ∈ pw_T) (h2 : Cond.static y ∈ pw_T) (h4 : Cond.initialized y.cls ∈ pw_T) (h5 : Cond.code y b n r ∈ pw_T) : GoodIn (c0 :: pw_T) (va_wsS own i y (Cond.code y b n r :: pw_T)) :=
  pw_goodIn (List.forall_mem_cons.mpr ⟨h1, List.forall_mem_cons.mpr ⟨h2, List.forall_mem_cons.mpr ⟨h4, List.forall_mem_cons.mpr ⟨h5, fun _ h => h⟩⟩⟩⟩)
theorem pw_gC {c0 : Cond} {n : Nat} {y : MethodName} {b : ByteArray} {r : Option FieldType} (h5 : Cond.code y b n r ∈ pw_T) : GoodIn (c0 :: pw_T) (Cond.code y b n r :: pw_T) := pw_goodIn (List.forall_mem_cons.mpr ⟨h5, fun _ h => h⟩)
end
section
/-! The kinds of objects: names, fields in the order of the tables, types; by program out of the claim's own tables. -/
def kR_By : String := "RoutingField$Bytes"
def kT_By : u_T := fun k => match k with
  | 0 => ("RoutingField$Bytes", "data", "[B", false)
  | _ => ("RoutingField$Bytes", "length", "I", false)
def kY_By : Nat → FieldType := fun k => match k with
  | 0 => .array .byte
  | _ => .int
def kQ_By : List Nat := [47, 49]
def kR_Ch : String := "RoutingField$Chain"
def kT_Ch : u_T := fun k => match k with
  | 0 => ("RoutingField$Chain", "hasPassword", "Z", false)
  | 1 => ("RoutingField$Chain", "password", "[B", true)
  | 2 => ("RoutingField$Chain", "total", "I", false)
  | 3 => ("RoutingField$Chain", "numbers", "[I", true)
  | 4 => ("RoutingField$Chain", "sizes", "[I", true)
  | 5 => ("RoutingField$Chain", "froms", "[I", true)
  | 6 => ("RoutingField$Chain", "tos", "[I", true)
  | 7 => ("RoutingField$Chain", "secrets", "[[B", true)
  | 8 => ("RoutingField$Chain", "work", "[B", false)
  | 9 => ("RoutingField$Chain", "workSize", "I", false)
  | 10 => ("RoutingField$Chain", "state", "[I", true)
  | _ => ("RoutingField$Chain", "words", "[I", true)
def kY_Ch : Nat → FieldType := fun k => match k with
  | 0 => .boolean
  | 1 => .array .byte
  | 2 => .int
  | 3 => .array .int
  | 4 => .array .int
  | 5 => .array .int
  | 6 => .array .int
  | 7 => .array (.array .byte)
  | 8 => .array .byte
  | 9 => .int
  | 10 => .array .int
  | _ => .array .int
def kQ_Ch : List Nat := [321, 323, 325, 327, 329, 331, 333, 335, 337, 339, 341, 343]
def kR_Da : String := "RoutingField$Datagram"
def kT_Da : u_T := fun k => match k with
  | 0 => ("RoutingField$Datagram", "bytes", "LRoutingField$Bytes;", true)
  | 1 => ("RoutingField$Datagram", "source", "LRoutingField$Prefix;", true)
  | 2 => ("RoutingField$Datagram", "target", "LRoutingField$Prefix;", true)
  | 3 => ("RoutingField$Datagram", "toAll", "Z", false)
  | 4 => ("RoutingField$Datagram", "family", "I", false)
  | 5 => ("RoutingField$Datagram", "port", "I", false)
  | 6 => ("RoutingField$Datagram", "hops", "I", false)
  | 7 => ("RoutingField$Datagram", "sender", "LRoutingField$Router;", false)
  | 8 => ("RoutingField$Datagram", "link", "LRoutingField$Link;", false)
  | 9 => ("RoutingField$Datagram", "due", "I", false)
  | 10 => ("RoutingField$Datagram", "from", "I", false)
  | _ => ("RoutingField$Datagram", "until", "I", false)
def kY_Da : Nat → FieldType := fun k => match k with
  | 0 => .object "RoutingField$Bytes"
  | 1 => .object "RoutingField$Prefix"
  | 2 => .object "RoutingField$Prefix"
  | 3 => .boolean
  | 4 => .int
  | 5 => .int
  | 6 => .int
  | 7 => .object "RoutingField$Router"
  | 8 => .object "RoutingField$Link"
  | 9 => .int
  | 10 => .int
  | _ => .int
def kQ_Da : List Nat := [140, 142, 144, 146, 148, 150, 152, 154, 156, 158, 160, 162]
def kR_Li : String := "RoutingField$Link"
def kT_Li : u_T := fun k => match k with
  | 0 => ("RoutingField$Link", "name", "Ljava/lang/String;", true)
  | 1 => ("RoutingField$Link", "delay", "I", true)
  | 2 => ("RoutingField$Link", "jitter", "I", true)
  | 3 => ("RoutingField$Link", "mtu", "I", true)
  | 4 => ("RoutingField$Link", "up", "Z", false)
  | 5 => ("RoutingField$Link", "sent", "I", false)
  | 6 => ("RoutingField$Link", "toLose", "I", false)
  | _ => ("RoutingField$Link", "latest", "LRoutingField$Bytes;", true)
def kY_Li : Nat → FieldType := fun k => match k with
  | 0 => .object "java/lang/String"
  | 1 => .int
  | 2 => .int
  | 3 => .int
  | 4 => .boolean
  | 5 => .int
  | 6 => .int
  | _ => .object "RoutingField$Bytes"
def kQ_Li : List Nat := [570, 572, 574, 576, 578, 580, 582, 584]
def kR_Po : String := "RoutingField$Port"
def kT_Po : u_T := fun k => match k with
  | 0 => ("RoutingField$Port", "link", "LRoutingField$Link;", true)
  | 1 => ("RoutingField$Port", "address4", "LRoutingField$Prefix;", false)
  | 2 => ("RoutingField$Port", "address6", "LRoutingField$Prefix;", false)
  | 3 => ("RoutingField$Port", "cost", "I", false)
  | 4 => ("RoutingField$Port", "split", "I", false)
  | 5 => ("RoutingField$Port", "passive", "Z", false)
  | 6 => ("RoutingField$Port", "chain", "LRoutingField$Chain;", true)
  | 7 => ("RoutingField$Port", "summaries", "[LRoutingField$Prefix;", true)
  | 8 => ("RoutingField$Port", "summaryTotal", "I", false)
  | 9 => ("RoutingField$Port", "summaryLeast", "[I", true)
  | 10 => ("RoutingField$Port", "summaryTold", "[Z", true)
  | 11 => ("RoutingField$Port", "neighbors", "[LRoutingField$Prefix;", true)
  | 12 => ("RoutingField$Port", "neighborTotal", "I", false)
  | 13 => ("RoutingField$Port", "defaultMetric", "I", false)
  | 14 => ("RoutingField$Port", "defaultOnly", "Z", false)
  | 15 => ("RoutingField$Port", "nextNumber", "I", false)
  | 16 => ("RoutingField$Port", "sources", "[I", false)
  | 17 => ("RoutingField$Port", "greatest", "[I", false)
  | _ => ("RoutingField$Port", "sourceTotal", "I", false)
def kY_Po : Nat → FieldType := fun k => match k with
  | 0 => .object "RoutingField$Link"
  | 1 => .object "RoutingField$Prefix"
  | 2 => .object "RoutingField$Prefix"
  | 3 => .int
  | 4 => .int
  | 5 => .boolean
  | 6 => .object "RoutingField$Chain"
  | 7 => .array (.object "RoutingField$Prefix")
  | 8 => .int
  | 9 => .array .int
  | 10 => .array .boolean
  | 11 => .array (.object "RoutingField$Prefix")
  | 12 => .int
  | 13 => .int
  | 14 => .boolean
  | 15 => .int
  | 16 => .array .int
  | 17 => .array .int
  | _ => .int
def kQ_Po : List Nat := [922, 924, 926, 928, 930, 932, 934, 936, 938, 940, 942, 944, 946, 948, 950, 952, 954, 956, 958]
def kR_Pr : String := "RoutingField$Prefix"
def kT_Pr : u_T := fun k => match k with
  | 0 => ("RoutingField$Prefix", "family", "I", false)
  | 1 => ("RoutingField$Prefix", "high", "J", false)
  | 2 => ("RoutingField$Prefix", "low", "J", false)
  | _ => ("RoutingField$Prefix", "length", "I", false)
def kY_Pr : Nat → FieldType := fun k => match k with
  | 0 => .int
  | 1 => .long
  | 2 => .long
  | _ => .int
def kQ_Pr : List Nat := [95, 97, 99, 101]
def kR_Pl : String := "RoutingField$PrefixList"
def kT_Pl : u_T := fun k => match k with
  | 0 => ("RoutingField$PrefixList", "name", "Ljava/lang/String;", true)
  | 1 => ("RoutingField$PrefixList", "prefixes", "[LRoutingField$Prefix;", true)
  | 2 => ("RoutingField$PrefixList", "permits", "[Z", true)
  | 3 => ("RoutingField$PrefixList", "least", "[I", true)
  | 4 => ("RoutingField$PrefixList", "most", "[I", true)
  | _ => ("RoutingField$PrefixList", "total", "I", false)
def kY_Pl : Nat → FieldType := fun k => match k with
  | 0 => .object "java/lang/String"
  | 1 => .array (.object "RoutingField$Prefix")
  | 2 => .array .boolean
  | 3 => .array .int
  | 4 => .array .int
  | _ => .int
def kQ_Pl : List Nat := [631, 633, 635, 637, 639, 641]
def kR_Re : String := "RoutingField$Reader"
def kT_Re : u_T := fun k => match k with
  | 0 => ("RoutingField$Reader", "field", "LRoutingField;", true)
  | 1 => ("RoutingField$Reader", "starts", "[I", true)
  | 2 => ("RoutingField$Reader", "stops", "[I", true)
  | 3 => ("RoutingField$Reader", "total", "I", false)
  | 4 => ("RoutingField$Reader", "firstAt", "I", false)
  | 5 => ("RoutingField$Reader", "secondAt", "I", false)
  | 6 => ("RoutingField$Reader", "prefix", "LRoutingField$Prefix;", true)
  | 7 => ("RoutingField$Reader", "secret", "[B", true)
  | 8 => ("RoutingField$Reader", "cost", "I", false)
  | 9 => ("RoutingField$Reader", "split", "I", false)
  | 10 => ("RoutingField$Reader", "passive", "Z", false)
  | _ => ("RoutingField$Reader", "chain", "LRoutingField$Chain;", true)
def kY_Re : Nat → FieldType := fun k => match k with
  | 0 => .object "RoutingField"
  | 1 => .array .int
  | 2 => .array .int
  | 3 => .int
  | 4 => .int
  | 5 => .int
  | 6 => .object "RoutingField$Prefix"
  | 7 => .array .byte
  | 8 => .int
  | 9 => .int
  | 10 => .boolean
  | _ => .object "RoutingField$Chain"
def kQ_Re : List Nat := [359, 361, 363, 365, 367, 369, 371, 373, 375, 377, 379, 381]
def kR_Ro : String := "RoutingField$Route"
def kT_Ro : u_T := fun k => match k with
  | 0 => ("RoutingField$Route", "prefix", "LRoutingField$Prefix;", true)
  | 1 => ("RoutingField$Route", "gateway", "LRoutingField$Prefix;", true)
  | 2 => ("RoutingField$Route", "source", "LRoutingField$Prefix;", true)
  | 3 => ("RoutingField$Route", "kind", "I", false)
  | 4 => ("RoutingField$Route", "metric", "I", false)
  | 5 => ("RoutingField$Route", "tag", "I", false)
  | 6 => ("RoutingField$Route", "port", "LRoutingField$Port;", false)
  | 7 => ("RoutingField$Route", "changed", "Z", false)
  | 8 => ("RoutingField$Route", "since", "I", false)
  | 9 => ("RoutingField$Route", "timeout", "I", false)
  | _ => ("RoutingField$Route", "deadline", "I", false)
def kY_Ro : Nat → FieldType := fun k => match k with
  | 0 => .object "RoutingField$Prefix"
  | 1 => .object "RoutingField$Prefix"
  | 2 => .object "RoutingField$Prefix"
  | 3 => .int
  | 4 => .int
  | 5 => .int
  | 6 => .object "RoutingField$Port"
  | 7 => .boolean
  | 8 => .int
  | 9 => .int
  | _ => .int
def kQ_Ro : List Nat := [1073, 1075, 1077, 1079, 1081, 1083, 1085, 1087, 1089, 1091, 1093]
def kR_Rr : String := "RoutingField$Router"
def kT_Rr : u_T := fun k => match k with
  | 0 => ("RoutingField$Router", "field", "LRoutingField;", true)
  | 1 => ("RoutingField$Router", "name", "Ljava/lang/String;", true)
  | 2 => ("RoutingField$Router", "number", "I", true)
  | 3 => ("RoutingField$Router", "running", "Z", false)
  | 4 => ("RoutingField$Router", "ports", "[LRoutingField$Port;", true)
  | 5 => ("RoutingField$Router", "portTotal", "I", false)
  | 6 => ("RoutingField$Router", "table", "LRoutingField$Table;", true)
  | 7 => ("RoutingField$Router", "statics", "LRoutingField$Table;", true)
  | 8 => ("RoutingField$Router", "filters", "[LRoutingField$PrefixList;", true)
  | 9 => ("RoutingField$Router", "distributes", "[[I", true)
  | 10 => ("RoutingField$Router", "distributeTotal", "I", false)
  | 11 => ("RoutingField$Router", "offsets", "[[I", true)
  | 12 => ("RoutingField$Router", "offsetTotal", "I", false)
  | 13 => ("RoutingField$Router", "shareMetrics", "[I", true)
  | 14 => ("RoutingField$Router", "shareTags", "[I", true)
  | 15 => ("RoutingField$Router", "timers", "[I", true)
  | 16 => ("RoutingField$Router", "counts", "[I", true)
  | 17 => ("RoutingField$Router", "updateAt", "I", false)
  | 18 => ("RoutingField$Router", "triggerAt", "I", false)
  | _ => ("RoutingField$Router", "nextDeadline", "I", false)
def kY_Rr : Nat → FieldType := fun k => match k with
  | 0 => .object "RoutingField"
  | 1 => .object "java/lang/String"
  | 2 => .int
  | 3 => .boolean
  | 4 => .array (.object "RoutingField$Port")
  | 5 => .int
  | 6 => .object "RoutingField$Table"
  | 7 => .object "RoutingField$Table"
  | 8 => .array (.object "RoutingField$PrefixList")
  | 9 => .array (.array .int)
  | 10 => .int
  | 11 => .array (.array .int)
  | 12 => .int
  | 13 => .array .int
  | 14 => .array .int
  | 15 => .array .int
  | 16 => .array .int
  | 17 => .int
  | 18 => .int
  | _ => .int
def kQ_Rr : List Nat := [693, 695, 697, 699, 701, 703, 705, 707, 709, 711, 713, 715, 717, 719, 721, 723, 725, 727, 729, 731]
def kR_Ta : String := "RoutingField$Table"
def kT_Ta : u_T := fun k => match k with
  | 0 => ("RoutingField$Table", "rows", "[LRoutingField$Route;", false)
  | _ => ("RoutingField$Table", "total", "I", false)
def kY_Ta : Nat → FieldType := fun k => match k with
  | 0 => .array (.object "RoutingField$Route")
  | _ => .int
def kQ_Ta : List Nat := [180, 182]
def kR_Rf : String := "RoutingField"
def kT_Rf : u_T := fun k => match k with
  | 0 => ("RoutingField", "tape", "LRoutingField$Bytes;", true)
  | 1 => ("RoutingField", "text", "LRoutingField$Bytes;", false)
  | 2 => ("RoutingField", "page", "LRoutingField$Bytes;", false)
  | 3 => ("RoutingField", "reader", "LRoutingField$Reader;", false)
  | 4 => ("RoutingField", "faultOfRead", "I", false)
  | 5 => ("RoutingField", "time", "I", false)
  | 6 => ("RoutingField", "links", "[LRoutingField$Link;", true)
  | 7 => ("RoutingField", "linkTotal", "I", false)
  | 8 => ("RoutingField", "routers", "[LRoutingField$Router;", true)
  | 9 => ("RoutingField", "routerTotal", "I", false)
  | 10 => ("RoutingField", "lists", "[LRoutingField$PrefixList;", true)
  | 11 => ("RoutingField", "listTotal", "I", false)
  | 12 => ("RoutingField", "flights", "[LRoutingField$Datagram;", true)
  | 13 => ("RoutingField", "flightTotal", "I", false)
  | 14 => ("RoutingField", "spares", "[LRoutingField$Datagram;", true)
  | 15 => ("RoutingField", "spareTotal", "I", false)
  | 16 => ("RoutingField", "draft", "LRoutingField$Datagram;", false)
  | 17 => ("RoutingField", "told", "LRoutingField$Table;", true)
  | 18 => ("RoutingField", "entry", "LRoutingField$Prefix;", true)
  | _ => ("RoutingField", "hop", "LRoutingField$Prefix;", true)
def kY_Rf : Nat → FieldType := fun k => match k with
  | 0 => .object "RoutingField$Bytes"
  | 1 => .object "RoutingField$Bytes"
  | 2 => .object "RoutingField$Bytes"
  | 3 => .object "RoutingField$Reader"
  | 4 => .int
  | 5 => .int
  | 6 => .array (.object "RoutingField$Link")
  | 7 => .int
  | 8 => .array (.object "RoutingField$Router")
  | 9 => .int
  | 10 => .array (.object "RoutingField$PrefixList")
  | 11 => .int
  | 12 => .array (.object "RoutingField$Datagram")
  | 13 => .int
  | 14 => .array (.object "RoutingField$Datagram")
  | 15 => .int
  | 16 => .object "RoutingField$Datagram"
  | 17 => .object "RoutingField$Table"
  | 18 => .object "RoutingField$Prefix"
  | _ => .object "RoutingField$Prefix"
def kQ_Rf : List Nat := [220, 222, 224, 226, 228, 230, 232, 234, 236, 238, 240, 242, 244, 246, 248, 250, 252, 254, 256, 258]
def kR_Mo : String := "RoutingFieldModel"
def kT_Mo : u_T := fun k => match k with
  | 0 => ("RoutingFieldModel", "thrown", "I", false)
  | 1 => ("RoutingFieldModel", "time", "I", false)
  | 2 => ("RoutingFieldModel", "tape", "[I", true)
  | 3 => ("RoutingFieldModel", "tapeSize", "I", false)
  | 4 => ("RoutingFieldModel", "fault", "I", false)
  | 5 => ("RoutingFieldModel", "text", "[I", false)
  | 6 => ("RoutingFieldModel", "textSize", "I", false)
  | 7 => ("RoutingFieldModel", "draft", "[I", false)
  | 8 => ("RoutingFieldModel", "draftSize", "I", false)
  | 9 => ("RoutingFieldModel", "wordAt", "[I", true)
  | 10 => ("RoutingFieldModel", "wordSize", "[I", true)
  | 11 => ("RoutingFieldModel", "words", "I", false)
  | 12 => ("RoutingFieldModel", "readFamily", "I", false)
  | 13 => ("RoutingFieldModel", "readHigh", "J", false)
  | 14 => ("RoutingFieldModel", "readLow", "J", false)
  | 15 => ("RoutingFieldModel", "readLength", "I", false)
  | 16 => ("RoutingFieldModel", "parts", "[I", true)
  | 17 => ("RoutingFieldModel", "links", "I", false)
  | 18 => ("RoutingFieldModel", "linkName", "[J", true)
  | 19 => ("RoutingFieldModel", "delay", "[I", true)
  | 20 => ("RoutingFieldModel", "jitter", "[I", true)
  | 21 => ("RoutingFieldModel", "mtu", "[I", true)
  | 22 => ("RoutingFieldModel", "linkUp", "[Z", true)
  | 23 => ("RoutingFieldModel", "sentOn", "[I", true)
  | 24 => ("RoutingFieldModel", "toLose", "[I", true)
  | 25 => ("RoutingFieldModel", "seenSize", "[I", true)
  | 26 => ("RoutingFieldModel", "seenBytes", "[I", true)
  | 27 => ("RoutingFieldModel", "lists", "I", false)
  | 28 => ("RoutingFieldModel", "listName", "[J", true)
  | 29 => ("RoutingFieldModel", "listSize", "[I", true)
  | 30 => ("RoutingFieldModel", "listPermits", "[Z", true)
  | 31 => ("RoutingFieldModel", "listFamily", "[I", true)
  | 32 => ("RoutingFieldModel", "listHigh", "[J", true)
  | 33 => ("RoutingFieldModel", "listLow", "[J", true)
  | 34 => ("RoutingFieldModel", "listLength", "[I", true)
  | 35 => ("RoutingFieldModel", "listGe", "[I", true)
  | 36 => ("RoutingFieldModel", "listLe", "[I", true)
  | 37 => ("RoutingFieldModel", "routers", "I", false)
  | 38 => ("RoutingFieldModel", "routerName", "[J", true)
  | 39 => ("RoutingFieldModel", "running", "[Z", true)
  | 40 => ("RoutingFieldModel", "update", "[I", true)
  | 41 => ("RoutingFieldModel", "timeout", "[I", true)
  | 42 => ("RoutingFieldModel", "garbage", "[I", true)
  | 43 => ("RoutingFieldModel", "updateAt", "[I", true)
  | 44 => ("RoutingFieldModel", "triggerAt", "[I", true)
  | 45 => ("RoutingFieldModel", "counts", "[I", true)
  | 46 => ("RoutingFieldModel", "statics", "[I", true)
  | 47 => ("RoutingFieldModel", "staticFamily", "[I", true)
  | 48 => ("RoutingFieldModel", "staticHigh", "[J", true)
  | 49 => ("RoutingFieldModel", "staticLow", "[J", true)
  | 50 => ("RoutingFieldModel", "staticLength", "[I", true)
  | 51 => ("RoutingFieldModel", "staticMetric", "[I", true)
  | 52 => ("RoutingFieldModel", "staticTag", "[I", true)
  | 53 => ("RoutingFieldModel", "filters", "[I", true)
  | 54 => ("RoutingFieldModel", "filterFamily", "[I", true)
  | 55 => ("RoutingFieldModel", "filterHigh", "[J", true)
  | 56 => ("RoutingFieldModel", "filterLow", "[J", true)
  | 57 => ("RoutingFieldModel", "filterLength", "[I", true)
  | 58 => ("RoutingFieldModel", "filterPermits", "[Z", true)
  | 59 => ("RoutingFieldModel", "distributes", "[I", true)
  | 60 => ("RoutingFieldModel", "distributeWay", "[I", true)
  | 61 => ("RoutingFieldModel", "distributeLink", "[I", true)
  | 62 => ("RoutingFieldModel", "distributeList", "[I", true)
  | 63 => ("RoutingFieldModel", "offsets", "[I", true)
  | 64 => ("RoutingFieldModel", "offsetWay", "[I", true)
  | 65 => ("RoutingFieldModel", "offsetLink", "[I", true)
  | 66 => ("RoutingFieldModel", "offsetList", "[I", true)
  | 67 => ("RoutingFieldModel", "offsetMore", "[I", true)
  | 68 => ("RoutingFieldModel", "redistributed", "[I", true)
  | 69 => ("RoutingFieldModel", "redistributedTag", "[I", true)
  | 70 => ("RoutingFieldModel", "interfaces", "[I", true)
  | 71 => ("RoutingFieldModel", "linkOf", "[I", true)
  | 72 => ("RoutingFieldModel", "cost", "[I", true)
  | 73 => ("RoutingFieldModel", "split", "[J", true)
  | 74 => ("RoutingFieldModel", "passive", "[Z", true)
  | 75 => ("RoutingFieldModel", "has", "[Z", true)
  | 76 => ("RoutingFieldModel", "ownHigh", "[J", true)
  | 77 => ("RoutingFieldModel", "ownLow", "[J", true)
  | 78 => ("RoutingFieldModel", "ownLength", "[I", true)
  | 79 => ("RoutingFieldModel", "keyKind", "[I", true)
  | 80 => ("RoutingFieldModel", "passwordSize", "[I", true)
  | 81 => ("RoutingFieldModel", "password", "[I", true)
  | 82 => ("RoutingFieldModel", "keys", "[I", true)
  | 83 => ("RoutingFieldModel", "keyNumber", "[I", true)
  | 84 => ("RoutingFieldModel", "keySha", "[Z", true)
  | 85 => ("RoutingFieldModel", "keySize", "[I", true)
  | 86 => ("RoutingFieldModel", "keyBytes", "[I", true)
  | 87 => ("RoutingFieldModel", "keyFrom", "[I", true)
  | 88 => ("RoutingFieldModel", "keyTo", "[I", true)
  | 89 => ("RoutingFieldModel", "numberNext", "[I", true)
  | 90 => ("RoutingFieldModel", "summaries", "[I", true)
  | 91 => ("RoutingFieldModel", "summaryFamily", "[I", true)
  | 92 => ("RoutingFieldModel", "summaryHigh", "[J", true)
  | 93 => ("RoutingFieldModel", "summaryLow", "[J", true)
  | 94 => ("RoutingFieldModel", "summaryLength", "[I", true)
  | 95 => ("RoutingFieldModel", "neighbors", "[I", true)
  | 96 => ("RoutingFieldModel", "neighborFamily", "[I", true)
  | 97 => ("RoutingFieldModel", "neighborHigh", "[J", true)
  | 98 => ("RoutingFieldModel", "neighborLow", "[J", true)
  | 99 => ("RoutingFieldModel", "defaultMetric", "[I", true)
  | 100 => ("RoutingFieldModel", "defaultOnly", "[Z", true)
  | 101 => ("RoutingFieldModel", "sources", "I", false)
  | 102 => ("RoutingFieldModel", "sourceOf", "[I", false)
  | 103 => ("RoutingFieldModel", "sourceHigh", "[J", false)
  | 104 => ("RoutingFieldModel", "sourceGreatest", "[J", false)
  | 105 => ("RoutingFieldModel", "routeCount", "[I", true)
  | 106 => ("RoutingFieldModel", "routeFamily", "[I", true)
  | 107 => ("RoutingFieldModel", "routeHigh", "[J", true)
  | 108 => ("RoutingFieldModel", "routeLow", "[J", true)
  | 109 => ("RoutingFieldModel", "routeLength", "[I", true)
  | 110 => ("RoutingFieldModel", "routeKind", "[I", true)
  | 111 => ("RoutingFieldModel", "routeMetric", "[I", true)
  | 112 => ("RoutingFieldModel", "routeTag", "[I", true)
  | 113 => ("RoutingFieldModel", "routeInterface", "[I", true)
  | 114 => ("RoutingFieldModel", "gateHigh", "[J", true)
  | 115 => ("RoutingFieldModel", "gateLow", "[J", true)
  | 116 => ("RoutingFieldModel", "heardOn", "[I", true)
  | 117 => ("RoutingFieldModel", "heardHigh", "[J", true)
  | 118 => ("RoutingFieldModel", "heardLow", "[J", true)
  | 119 => ("RoutingFieldModel", "routeChanged", "[Z", true)
  | 120 => ("RoutingFieldModel", "setAt", "[I", true)
  | 121 => ("RoutingFieldModel", "setFor", "[I", true)
  | 122 => ("RoutingFieldModel", "goesAt", "[I", true)
  | 123 => ("RoutingFieldModel", "flying", "I", false)
  | 124 => ("RoutingFieldModel", "order", "[I", true)
  | 125 => ("RoutingFieldModel", "placeTaken", "[Z", true)
  | 126 => ("RoutingFieldModel", "wayLink", "[I", true)
  | 127 => ("RoutingFieldModel", "wayFrom", "[I", true)
  | 128 => ("RoutingFieldModel", "wayToAll", "[Z", true)
  | 129 => ("RoutingFieldModel", "wayToHigh", "[J", true)
  | 130 => ("RoutingFieldModel", "wayToLow", "[J", true)
  | 131 => ("RoutingFieldModel", "wayFamily", "[I", true)
  | 132 => ("RoutingFieldModel", "waySourceHigh", "[J", true)
  | 133 => ("RoutingFieldModel", "waySourceLow", "[J", true)
  | 134 => ("RoutingFieldModel", "wayPort", "[I", true)
  | 135 => ("RoutingFieldModel", "wayHops", "[I", true)
  | 136 => ("RoutingFieldModel", "wayDue", "[I", true)
  | 137 => ("RoutingFieldModel", "waySize", "[I", true)
  | 138 => ("RoutingFieldModel", "wayBytes", "[I", true)
  | 139 => ("RoutingFieldModel", "entries", "I", false)
  | 140 => ("RoutingFieldModel", "entryHigh", "[J", true)
  | 141 => ("RoutingFieldModel", "entryLow", "[J", true)
  | 142 => ("RoutingFieldModel", "entryLength", "[I", true)
  | 143 => ("RoutingFieldModel", "entryMetric", "[I", true)
  | 144 => ("RoutingFieldModel", "entryTag", "[I", true)
  | 145 => ("RoutingFieldModel", "toldTag", "I", false)
  | 146 => ("RoutingFieldModel", "body", "[I", true)
  | 147 => ("RoutingFieldModel", "out", "[I", true)
  | 148 => ("RoutingFieldModel", "outSize", "I", false)
  | 149 => ("RoutingFieldModel", "got", "[I", true)
  | 150 => ("RoutingFieldModel", "gotSize", "I", false)
  | 151 => ("RoutingFieldModel", "summaryLeast", "[I", true)
  | 152 => ("RoutingFieldModel", "summaryDue", "[Z", true)
  | 153 => ("RoutingFieldModel", "dueKind", "I", false)
  | 154 => ("RoutingFieldModel", "dueMetric", "I", false)
  | 155 => ("RoutingFieldModel", "dueInterface", "I", false)
  | 156 => ("RoutingFieldModel", "dueTag", "I", false)
  | 157 => ("RoutingFieldModel", "message", "[I", true)
  | 158 => ("RoutingFieldModel", "work", "[I", true)
  | 159 => ("RoutingFieldModel", "state", "[I", true)
  | 160 => ("RoutingFieldModel", "sum", "[I", true)
  | 161 => ("RoutingFieldModel", "sums", "[J", true)
  | 162 => ("RoutingFieldModel", "firstEntry", "I", false)
  | 163 => ("RoutingFieldModel", "gotEntries", "I", false)
  | 164 => ("RoutingFieldModel", "gateH", "J", false)
  | _ => ("RoutingFieldModel", "gateL", "J", false)
def kY_Mo : Nat → FieldType := fun k => match k with
  | 0 => .int
  | 1 => .int
  | 2 => .array .int
  | 3 => .int
  | 4 => .int
  | 5 => .array .int
  | 6 => .int
  | 7 => .array .int
  | 8 => .int
  | 9 => .array .int
  | 10 => .array .int
  | 11 => .int
  | 12 => .int
  | 13 => .long
  | 14 => .long
  | 15 => .int
  | 16 => .array .int
  | 17 => .int
  | 18 => .array .long
  | 19 => .array .int
  | 20 => .array .int
  | 21 => .array .int
  | 22 => .array .boolean
  | 23 => .array .int
  | 24 => .array .int
  | 25 => .array .int
  | 26 => .array .int
  | 27 => .int
  | 28 => .array .long
  | 29 => .array .int
  | 30 => .array .boolean
  | 31 => .array .int
  | 32 => .array .long
  | 33 => .array .long
  | 34 => .array .int
  | 35 => .array .int
  | 36 => .array .int
  | 37 => .int
  | 38 => .array .long
  | 39 => .array .boolean
  | 40 => .array .int
  | 41 => .array .int
  | 42 => .array .int
  | 43 => .array .int
  | 44 => .array .int
  | 45 => .array .int
  | 46 => .array .int
  | 47 => .array .int
  | 48 => .array .long
  | 49 => .array .long
  | 50 => .array .int
  | 51 => .array .int
  | 52 => .array .int
  | 53 => .array .int
  | 54 => .array .int
  | 55 => .array .long
  | 56 => .array .long
  | 57 => .array .int
  | 58 => .array .boolean
  | 59 => .array .int
  | 60 => .array .int
  | 61 => .array .int
  | 62 => .array .int
  | 63 => .array .int
  | 64 => .array .int
  | 65 => .array .int
  | 66 => .array .int
  | 67 => .array .int
  | 68 => .array .int
  | 69 => .array .int
  | 70 => .array .int
  | 71 => .array .int
  | 72 => .array .int
  | 73 => .array .long
  | 74 => .array .boolean
  | 75 => .array .boolean
  | 76 => .array .long
  | 77 => .array .long
  | 78 => .array .int
  | 79 => .array .int
  | 80 => .array .int
  | 81 => .array .int
  | 82 => .array .int
  | 83 => .array .int
  | 84 => .array .boolean
  | 85 => .array .int
  | 86 => .array .int
  | 87 => .array .int
  | 88 => .array .int
  | 89 => .array .int
  | 90 => .array .int
  | 91 => .array .int
  | 92 => .array .long
  | 93 => .array .long
  | 94 => .array .int
  | 95 => .array .int
  | 96 => .array .int
  | 97 => .array .long
  | 98 => .array .long
  | 99 => .array .int
  | 100 => .array .boolean
  | 101 => .int
  | 102 => .array .int
  | 103 => .array .long
  | 104 => .array .long
  | 105 => .array .int
  | 106 => .array .int
  | 107 => .array .long
  | 108 => .array .long
  | 109 => .array .int
  | 110 => .array .int
  | 111 => .array .int
  | 112 => .array .int
  | 113 => .array .int
  | 114 => .array .long
  | 115 => .array .long
  | 116 => .array .int
  | 117 => .array .long
  | 118 => .array .long
  | 119 => .array .boolean
  | 120 => .array .int
  | 121 => .array .int
  | 122 => .array .int
  | 123 => .int
  | 124 => .array .int
  | 125 => .array .boolean
  | 126 => .array .int
  | 127 => .array .int
  | 128 => .array .boolean
  | 129 => .array .long
  | 130 => .array .long
  | 131 => .array .int
  | 132 => .array .long
  | 133 => .array .long
  | 134 => .array .int
  | 135 => .array .int
  | 136 => .array .int
  | 137 => .array .int
  | 138 => .array .int
  | 139 => .int
  | 140 => .array .long
  | 141 => .array .long
  | 142 => .array .int
  | 143 => .array .int
  | 144 => .array .int
  | 145 => .int
  | 146 => .array .int
  | 147 => .array .int
  | 148 => .int
  | 149 => .array .int
  | 150 => .int
  | 151 => .array .int
  | 152 => .array .boolean
  | 153 => .int
  | 154 => .int
  | 155 => .int
  | 156 => .int
  | 157 => .array .int
  | 158 => .array .int
  | 159 => .array .int
  | 160 => .array .int
  | 161 => .array .long
  | 162 => .int
  | 163 => .int
  | 164 => .long
  | _ => .long
def kQ_Mo : List Nat := [2146, 2148, 2150, 2152, 2154, 2156, 2158, 2160, 2162, 2164, 2166, 2168, 2170, 2172, 2174, 2176, 2178, 2180, 2182, 2184, 2186, 2188, 2190, 2192, 2194, 2196, 2198, 2200, 2202, 2204, 2206, 2208, 2210, 2212, 2214, 2216, 2218, 2220, 2222, 2224, 2226, 2228, 2230, 2232, 2234, 2236, 2238, 2240, 2242, 2244, 2246, 2248, 2250, 2252, 2254, 2256, 2258, 2260, 2262, 2264, 2266, 2268, 2270, 2272, 2274, 2276, 2278, 2280, 2282, 2284, 2286, 2288, 2290, 2292, 2294, 2296, 2298, 2300, 2302, 2304, 2306, 2308, 2310, 2312, 2314, 2316, 2318, 2320, 2322, 2324, 2326, 2328, 2330, 2332, 2334, 2336, 2338, 2340, 2342, 2344, 2346, 2348, 2350, 2352, 2354, 2356, 2358, 2360, 2362, 2364, 2366, 2368, 2370, 2372, 2374, 2376, 2378, 2380, 2382, 2384, 2386, 2388, 2390, 2392, 2394, 2396, 2398, 2400, 2402, 2404, 2406, 2408, 2410, 2412, 2414, 2416, 2418, 2420, 2422, 2424, 2426, 2428, 2430, 2432, 2434, 2436, 2438, 2440, 2442, 2444, 2446, 2448, 2450, 2452, 2454, 2456, 2458, 2460, 2462, 2464, 2466, 2468, 2470, 2472, 2474, 2476]
def kR_St : String := "java/lang/String"
def kT_St : u_T := fun k => match k with
  | 0 => ("java/lang/String", "value", "[B", true)
  | 1 => ("java/lang/String", "coder", "B", true)
  | 2 => ("java/lang/String", "hash", "I", false)
  | _ => ("java/lang/String", "hashIsZero", "Z", false)
def kY_St : Nat → FieldType := fun k => match k with
  | 0 => .array .byte
  | 1 => .byte
  | 2 => .int
  | _ => .boolean
def kQ_St : List Nat := [533, 535, 537, 539]
def kR_Ns : String := "java/util/NoSuchElementException"
def kT_Ns : u_T := fun k => match k with
  | 0 => ("java/lang/Throwable", "cause", "Ljava/lang/Throwable;", false)
  | 1 => ("java/lang/Throwable", "stackTrace", "[Ljava/lang/StackTraceElement;", false)
  | 2 => ("java/lang/Throwable", "suppressedExceptions", "Ljava/util/List;", false)
  | 3 => ("java/lang/Throwable", "detailMessage", "Ljava/lang/String;", false)
  | 4 => ("java/lang/Throwable", "backtrace", "Ljava/lang/Object;", false)
  | _ => ("java/lang/Throwable", "depth", "I", false)
def kY_Ns : Nat → FieldType := fun k => match k with
  | 0 => .object "java/lang/Throwable"
  | 1 => .array (.object "java/lang/StackTraceElement")
  | 2 => .object "java/util/List"
  | 3 => .object "java/lang/String"
  | 4 => .object "java/lang/Object"
  | _ => .int
def kQ_Ns : List Nat := [1919, 1921, 1923, 1925, 1927, 1969]
abbrev kcl : List vw_C := [(kR_By, kT_By, 2), (kR_Ch, kT_Ch, 12), (kR_Da, kT_Da, 12), (kR_Li, kT_Li, 8), (kR_Po, kT_Po, 19), (kR_Pr, kT_Pr, 4), (kR_Pl, kT_Pl, 6), (kR_Re, kT_Re, 12), (kR_Ro, kT_Ro, 11), (kR_Rr, kT_Rr, 20), (kR_Ta, kT_Ta, 2), (kR_Rf, kT_Rf, 20), (kR_Mo, kT_Mo, 166), (kR_St, kT_St, 4), (kR_Ns, kT_Ns, 6)]
end
section
/-! What the tables say of each kind: its fields' types, their names apart, their places laid. -/
set_option maxRecDepth 100000 in
theorem kY_By_ok : ∀ k, k < 2 → parseFieldDescriptor (kT_By k).2.2.1 = some (kY_By k) := by decide +kernel
set_option maxRecDepth 100000 in
theorem kN_By : ∀ a, a < 2 → ∀ b, b < 2 → a ≠ b → (kT_By a).2.1 ≠ (kT_By b).2.1 := by decide +kernel
set_option maxRecDepth 100000 in
theorem kL_By : ∀ w ∈ u_ws kR_By kT_By 2, w ∈ pw_T := pw_lay kQ_By (by decide +kernel)
set_option maxRecDepth 100000 in
theorem kY_Ch_ok : ∀ k, k < 12 → parseFieldDescriptor (kT_Ch k).2.2.1 = some (kY_Ch k) := by decide +kernel
set_option maxRecDepth 100000 in
theorem kN_Ch : ∀ a, a < 12 → ∀ b, b < 12 → a ≠ b → (kT_Ch a).2.1 ≠ (kT_Ch b).2.1 := by decide +kernel
set_option maxRecDepth 100000 in
theorem kL_Ch : ∀ w ∈ u_ws kR_Ch kT_Ch 12, w ∈ pw_T := pw_lay kQ_Ch (by decide +kernel)
set_option maxRecDepth 100000 in
theorem kY_Da_ok : ∀ k, k < 12 → parseFieldDescriptor (kT_Da k).2.2.1 = some (kY_Da k) := by decide +kernel
set_option maxRecDepth 100000 in
theorem kN_Da : ∀ a, a < 12 → ∀ b, b < 12 → a ≠ b → (kT_Da a).2.1 ≠ (kT_Da b).2.1 := by decide +kernel
set_option maxRecDepth 100000 in
theorem kL_Da : ∀ w ∈ u_ws kR_Da kT_Da 12, w ∈ pw_T := pw_lay kQ_Da (by decide +kernel)
set_option maxRecDepth 100000 in
theorem kY_Li_ok : ∀ k, k < 8 → parseFieldDescriptor (kT_Li k).2.2.1 = some (kY_Li k) := by decide +kernel
set_option maxRecDepth 100000 in
theorem kN_Li : ∀ a, a < 8 → ∀ b, b < 8 → a ≠ b → (kT_Li a).2.1 ≠ (kT_Li b).2.1 := by decide +kernel
set_option maxRecDepth 100000 in
theorem kL_Li : ∀ w ∈ u_ws kR_Li kT_Li 8, w ∈ pw_T := pw_lay kQ_Li (by decide +kernel)
set_option maxRecDepth 100000 in
theorem kY_Po_ok : ∀ k, k < 19 → parseFieldDescriptor (kT_Po k).2.2.1 = some (kY_Po k) := by decide +kernel
set_option maxRecDepth 100000 in
theorem kN_Po : ∀ a, a < 19 → ∀ b, b < 19 → a ≠ b → (kT_Po a).2.1 ≠ (kT_Po b).2.1 := by decide +kernel
set_option maxRecDepth 100000 in
theorem kL_Po : ∀ w ∈ u_ws kR_Po kT_Po 19, w ∈ pw_T := pw_lay kQ_Po (by decide +kernel)
set_option maxRecDepth 100000 in
theorem kY_Pr_ok : ∀ k, k < 4 → parseFieldDescriptor (kT_Pr k).2.2.1 = some (kY_Pr k) := by decide +kernel
set_option maxRecDepth 100000 in
theorem kN_Pr : ∀ a, a < 4 → ∀ b, b < 4 → a ≠ b → (kT_Pr a).2.1 ≠ (kT_Pr b).2.1 := by decide +kernel
set_option maxRecDepth 100000 in
theorem kL_Pr : ∀ w ∈ u_ws kR_Pr kT_Pr 4, w ∈ pw_T := pw_lay kQ_Pr (by decide +kernel)
set_option maxRecDepth 100000 in
theorem kY_Pl_ok : ∀ k, k < 6 → parseFieldDescriptor (kT_Pl k).2.2.1 = some (kY_Pl k) := by decide +kernel
set_option maxRecDepth 100000 in
theorem kN_Pl : ∀ a, a < 6 → ∀ b, b < 6 → a ≠ b → (kT_Pl a).2.1 ≠ (kT_Pl b).2.1 := by decide +kernel
set_option maxRecDepth 100000 in
theorem kL_Pl : ∀ w ∈ u_ws kR_Pl kT_Pl 6, w ∈ pw_T := pw_lay kQ_Pl (by decide +kernel)
set_option maxRecDepth 100000 in
theorem kY_Re_ok : ∀ k, k < 12 → parseFieldDescriptor (kT_Re k).2.2.1 = some (kY_Re k) := by decide +kernel
set_option maxRecDepth 100000 in
theorem kN_Re : ∀ a, a < 12 → ∀ b, b < 12 → a ≠ b → (kT_Re a).2.1 ≠ (kT_Re b).2.1 := by decide +kernel
set_option maxRecDepth 100000 in
theorem kL_Re : ∀ w ∈ u_ws kR_Re kT_Re 12, w ∈ pw_T := pw_lay kQ_Re (by decide +kernel)
set_option maxRecDepth 100000 in
theorem kY_Ro_ok : ∀ k, k < 11 → parseFieldDescriptor (kT_Ro k).2.2.1 = some (kY_Ro k) := by decide +kernel
set_option maxRecDepth 100000 in
theorem kN_Ro : ∀ a, a < 11 → ∀ b, b < 11 → a ≠ b → (kT_Ro a).2.1 ≠ (kT_Ro b).2.1 := by decide +kernel
set_option maxRecDepth 100000 in
theorem kL_Ro : ∀ w ∈ u_ws kR_Ro kT_Ro 11, w ∈ pw_T := pw_lay kQ_Ro (by decide +kernel)
set_option maxRecDepth 100000 in
theorem kY_Rr_ok : ∀ k, k < 20 → parseFieldDescriptor (kT_Rr k).2.2.1 = some (kY_Rr k) := by decide +kernel
set_option maxRecDepth 100000 in
theorem kN_Rr : ∀ a, a < 20 → ∀ b, b < 20 → a ≠ b → (kT_Rr a).2.1 ≠ (kT_Rr b).2.1 := by decide +kernel
set_option maxRecDepth 100000 in
theorem kL_Rr : ∀ w ∈ u_ws kR_Rr kT_Rr 20, w ∈ pw_T := pw_lay kQ_Rr (by decide +kernel)
set_option maxRecDepth 100000 in
theorem kY_Ta_ok : ∀ k, k < 2 → parseFieldDescriptor (kT_Ta k).2.2.1 = some (kY_Ta k) := by decide +kernel
set_option maxRecDepth 100000 in
theorem kN_Ta : ∀ a, a < 2 → ∀ b, b < 2 → a ≠ b → (kT_Ta a).2.1 ≠ (kT_Ta b).2.1 := by decide +kernel
set_option maxRecDepth 100000 in
theorem kL_Ta : ∀ w ∈ u_ws kR_Ta kT_Ta 2, w ∈ pw_T := pw_lay kQ_Ta (by decide +kernel)
set_option maxRecDepth 100000 in
theorem kY_Rf_ok : ∀ k, k < 20 → parseFieldDescriptor (kT_Rf k).2.2.1 = some (kY_Rf k) := by decide +kernel
set_option maxRecDepth 100000 in
theorem kN_Rf : ∀ a, a < 20 → ∀ b, b < 20 → a ≠ b → (kT_Rf a).2.1 ≠ (kT_Rf b).2.1 := by decide +kernel
set_option maxRecDepth 100000 in
theorem kL_Rf : ∀ w ∈ u_ws kR_Rf kT_Rf 20, w ∈ pw_T := pw_lay kQ_Rf (by decide +kernel)
set_option maxRecDepth 100000 in
theorem kY_Mo_ok : ∀ k, k < 166 → parseFieldDescriptor (kT_Mo k).2.2.1 = some (kY_Mo k) := by decide +kernel
set_option maxRecDepth 100000 in
theorem kN_Mo : ∀ a, a < 166 → ∀ b, b < 166 → a ≠ b → (kT_Mo a).2.1 ≠ (kT_Mo b).2.1 := by decide +kernel
set_option maxRecDepth 100000 in
theorem kL_Mo : ∀ w ∈ u_ws kR_Mo kT_Mo 166, w ∈ pw_T := pw_lay kQ_Mo (by decide +kernel)
set_option maxRecDepth 100000 in
theorem kY_St_ok : ∀ k, k < 4 → parseFieldDescriptor (kT_St k).2.2.1 = some (kY_St k) := by decide +kernel
set_option maxRecDepth 100000 in
theorem kN_St : ∀ a, a < 4 → ∀ b, b < 4 → a ≠ b → (kT_St a).2.1 ≠ (kT_St b).2.1 := by decide +kernel
set_option maxRecDepth 100000 in
theorem kL_St : ∀ w ∈ u_ws kR_St kT_St 4, w ∈ pw_T := pw_lay kQ_St (by decide +kernel)
set_option maxRecDepth 100000 in
theorem kY_Ns_ok : ∀ k, k < 6 → parseFieldDescriptor (kT_Ns k).2.2.1 = some (kY_Ns k) := by decide +kernel
set_option maxRecDepth 100000 in
theorem kN_Ns : ∀ a, a < 6 → ∀ b, b < 6 → a ≠ b → (kT_Ns a).2.1 ≠ (kT_Ns b).2.1 := by decide +kernel
set_option maxRecDepth 100000 in
theorem kL_Ns : ∀ w ∈ u_ws kR_Ns kT_Ns 6, w ∈ pw_T := pw_lay kQ_Ns (by decide +kernel)
end
section
/-! THE MACHINE OF PICTURES: what a method's code does, said over a picture of the heap (an address: an array of a type, or an object of a kind by its number). 'pm_ins' is an instruction's weakest precondition; 'pm_sound' says that the machine itself does so. -/
abbrev pmE : Type := (FieldType × vp_A) ⊕ (Nat × List Value)
abbrev pmM : Type := Nat → Option pmE
abbrev pmL : Type := List (Nat × Value)
/-- what a callee does: its arguments (the receiver first), the picture, its budget of cells and slots, what must hold behind it -/
abbrev pmT : Type := List Value → pmM → Nat → Nat → (Option Value → pmM → Prop) → Prop
def pm_up (M : pmM) (a : Nat) (e : pmE) : pmM := fun b => if b = a then some e else M b
theorem pm_up_self (M : pmM) (a : Nat) (e : pmE) : pm_up M a e a = some e := if_pos rfl
theorem pm_up_ne (M : pmM) {a b : Nat} (e : pmE) (h : b ≠ a) : pm_up M a e b = M b := if_neg h
def pm_get : pmL → Nat → Option Value
  | [], _ => none
  | q :: r, i => if q.1 = i then some q.2 else pm_get r i
def pm_st1 (L : pmL) (i : Nat) (v : Value) : pmL := (i, v) :: L.filter (fun q => !(q.1 == i) && !(q.1 + 1 == i && q.2.category == 2))
def pm_st2 (L : pmL) (i : Nat) (v : Value) : pmL := (i, v) :: L.filter (fun q => !(q.1 == i) && (!(q.1 == i + 1) && !(q.1 + 1 == i && q.2.category == 2)))
def pm_cats (st : List Value) : Nat := (st.map fun v => v.category).sum
/-- a body's own words: code by place; a field's kind number, place, type, and whether it may be written here; an object's kind number and first fields; int, long constants; the name of an array's references; callees (how they are called, how many arguments with the receiver, what they do); statics; constant texts (their addresses); locals; the type that it returns -/
abbrev pmX : Type := (Nat → Option Instr) × (Nat → Option (Nat × Nat × FieldType × Bool)) × (Nat → Option (Nat × List Value)) × (Nat → Option Int32) × (Nat → Option Int64) × (Nat → Option String) × (Nat → Option (Nat × Nat × pmT)) × (Nat → Option Value) × (Nat → Option Nat) × Nat × Option FieldType
abbrev pmX.code (X : pmX) : Nat → Option Instr := X.1
abbrev pmX.fld (X : pmX) : Nat → Option (Nat × Nat × FieldType × Bool) := X.2.1
abbrev pmX.mk (X : pmX) : Nat → Option (Nat × List Value) := X.2.2.1
abbrev pmX.ci (X : pmX) : Nat → Option Int32 := X.2.2.2.1
abbrev pmX.cl (X : pmX) : Nat → Option Int64 := X.2.2.2.2.1
abbrev pmX.arr (X : pmX) : Nat → Option String := X.2.2.2.2.2.1
abbrev pmX.cal (X : pmX) : Nat → Option (Nat × Nat × pmT) := X.2.2.2.2.2.2.1
abbrev pmX.sta (X : pmX) : Nat → Option Value := X.2.2.2.2.2.2.2.1
abbrev pmX.str (X : pmX) : Nat → Option Nat := X.2.2.2.2.2.2.2.2.1
abbrev pmX.nL (X : pmX) : Nat := X.2.2.2.2.2.2.2.2.2.1
abbrev pmX.ret (X : pmX) : Option FieldType := X.2.2.2.2.2.2.2.2.2.2
-- stacks by shape
def ps_i (st : List Value) (k : Int32 → List Value → Prop) : Prop := match st with
  | .int x :: r => k x r
  | _ => False
def ps_l (st : List Value) (k : Int64 → List Value → Prop) : Prop := match st with
  | .long x :: r => k x r
  | _ => False
def ps_ii (st : List Value) (k : Int32 → Int32 → List Value → Prop) : Prop := match st with
  | .int y :: .int x :: r => k x y r
  | _ => False
def ps_ll (st : List Value) (k : Int64 → Int64 → List Value → Prop) : Prop := match st with
  | .long y :: .long x :: r => k x y r
  | _ => False
def ps_li (st : List Value) (k : Int64 → Int32 → List Value → Prop) : Prop := match st with
  | .int y :: .long x :: r => k x y r
  | _ => False
def ps_r (st : List Value) (k : Nat → List Value → Prop) : Prop := match st with
  | .ref a :: r => k a r
  | _ => False
def ps_q (st : List Value) (k : Option Nat → List Value → Prop) : Prop := match st with
  | .ref a :: r => k (some a) r
  | .null :: r => k none r
  | _ => False
def ps_v (st : List Value) (k : Value → List Value → Prop) : Prop := match st with
  | v :: r => k v r
  | _ => False
theorem ps_i_of {st : List Value} {k : Int32 → List Value → Prop} (h : ps_i st k) : ∃ x r, st = .int x :: r ∧ k x r := by
  unfold ps_i at h
  split at h
  · exact ⟨_, _, rfl, h⟩
  · exact h.elim
theorem ps_l_of {st : List Value} {k : Int64 → List Value → Prop} (h : ps_l st k) : ∃ x r, st = .long x :: r ∧ k x r := by
  unfold ps_l at h
  split at h
  · exact ⟨_, _, rfl, h⟩
  · exact h.elim
theorem ps_ii_of {st : List Value} {k : Int32 → Int32 → List Value → Prop} (h : ps_ii st k) : ∃ x y r, st = .int y :: .int x :: r ∧ k x y r := by
  unfold ps_ii at h
  split at h
  · exact ⟨_, _, _, rfl, h⟩
  · exact h.elim
theorem ps_ll_of {st : List Value} {k : Int64 → Int64 → List Value → Prop} (h : ps_ll st k) : ∃ x y r, st = .long y :: .long x :: r ∧ k x y r := by
  unfold ps_ll at h
  split at h
  · exact ⟨_, _, _, rfl, h⟩
  · exact h.elim
theorem ps_li_of {st : List Value} {k : Int64 → Int32 → List Value → Prop} (h : ps_li st k) : ∃ x y r, st = .int y :: .long x :: r ∧ k x y r := by
  unfold ps_li at h
  split at h
  · exact ⟨_, _, _, rfl, h⟩
  · exact h.elim
theorem ps_r_of {st : List Value} {k : Nat → List Value → Prop} (h : ps_r st k) : ∃ a r, st = .ref a :: r ∧ k a r := by
  unfold ps_r at h
  split at h
  · exact ⟨_, _, rfl, h⟩
  · exact h.elim
theorem ps_q_of {st : List Value} {k : Option Nat → List Value → Prop} (h : ps_q st k) : ∃ q r, st = va_rf q :: r ∧ k q r := by
  unfold ps_q at h
  split at h
  · exact ⟨some _, _, rfl, h⟩
  · exact ⟨none, _, rfl, h⟩
  · exact h.elim
theorem ps_v_of {st : List Value} {k : Value → List Value → Prop} (h : ps_v st k) : ∃ v r, st = v :: r ∧ k v r := by
  unfold ps_v at h
  split at h
  · exact ⟨_, _, rfl, h⟩
  · exact h.elim
def pm_tgt (pc : Nat) (off : Int) : Nat := ((pc : Int) + off).toNat
/-- the jump stays ahead of nothing: its target is a place -/
def pm_jok (pc : Nat) (off : Int) : Prop := 0 ≤ (pc : Int) + off
def pm_cmp (c : Jvm.ClassFile.Cond) (x y : Int32) : Prop := match c with
  | .eq => x = y
  | .ne => ¬ x = y
  | .lt => x < y
  | .ge => y ≤ x
  | .gt => y < x
  | .le => x ≤ y
def pm_old (L : pmL) (i : Nat) (k : Value → Prop) : Prop := match pm_get L i with
  | some v => k v
  | none => False
theorem pm_old_of {L : pmL} {i : Nat} {k : Value → Prop} (h : pm_old L i k) : ∃ v, pm_get L i = some v ∧ k v := by
  unfold pm_old at h
  split at h
  · exact ⟨_, by assumption, h⟩
  · exact h.elim
def pm_isI (v : Value) (k : Int32 → Prop) : Prop := match v with
  | .int x => k x
  | _ => False
def pm_isL (v : Value) (k : Int64 → Prop) : Prop := match v with
  | .long x => k x
  | _ => False
def pm_isQ (v : Value) (k : Option Nat → Prop) : Prop := match v with
  | .ref a => k (some a)
  | .null => k none
  | _ => False
theorem pm_isI_of {v : Value} {k : Int32 → Prop} (h : pm_isI v k) : ∃ x, v = .int x ∧ k x := by
  unfold pm_isI at h
  split at h
  · exact ⟨_, rfl, h⟩
  · exact h.elim
theorem pm_isL_of {v : Value} {k : Int64 → Prop} (h : pm_isL v k) : ∃ x, v = .long x ∧ k x := by
  unfold pm_isL at h
  split at h
  · exact ⟨_, rfl, h⟩
  · exact h.elim
theorem pm_isQ_of {v : Value} {k : Option Nat → Prop} (h : pm_isQ v k) : ∃ q, v = va_rf q ∧ k q := by
  unfold pm_isQ at h
  split at h
  · exact ⟨some _, rfl, h⟩
  · exact ⟨none, rfl, h⟩
  · exact h.elim
def pm_opt {α : Type} (o : Option α) (k : α → Prop) : Prop := match o with
  | some v => k v
  | none => False
theorem pm_opt_of {α : Type} {o : Option α} {k : α → Prop} (h : pm_opt o k) : ∃ v, o = some v ∧ k v := by
  unfold pm_opt at h
  split at h
  · exact ⟨_, rfl, h⟩
  · exact h.elim
/-- an object of a kind, its fields -/
def pm_ob (M : pmM) (a : Nat) (ci : Nat) (k : List Value → Prop) : Prop := match M a with
  | some (.inr (cj, fs)) => cj = ci ∧ k fs
  | _ => False
theorem pm_ob_of {M : pmM} {a ci : Nat} {k : List Value → Prop} (h : pm_ob M a ci k) : ∃ fs, M a = some (.inr (ci, fs)) ∧ k fs := by
  unfold pm_ob at h
  split at h
  · rename_i cj fs hM
    obtain ⟨rfl, h⟩ := h
    exact ⟨fs, hM, h⟩
  · exact h.elim
/-- an array of small numbers -/
def pm_ai (M : pmM) (a : Nat) (ok : FieldType → Bool) (k : FieldType → Nat → (Nat → Int32) → Prop) : Prop := match M a with
  | some (.inl (ty, n, .inl f)) => ok ty = true ∧ k ty n f
  | _ => False
theorem pm_ai_of {M : pmM} {a : Nat} {ok : FieldType → Bool} {k : FieldType → Nat → (Nat → Int32) → Prop} (h : pm_ai M a ok k) : ∃ ty n f, M a = some (.inl (ty, n, .inl f)) ∧ ok ty = true ∧ k ty n f := by
  unfold pm_ai at h
  split at h
  · exact ⟨_, _, _, by assumption, h⟩
  · exact h.elim
def pm_al (M : pmM) (a : Nat) (k : Nat → (Nat → Int64) → Prop) : Prop := match M a with
  | some (.inl (.long, n, .inr (.inl f))) => k n f
  | _ => False
theorem pm_al_of {M : pmM} {a : Nat} {k : Nat → (Nat → Int64) → Prop} (h : pm_al M a k) : ∃ n f, M a = some (.inl (.long, n, .inr (.inl f))) ∧ k n f := by
  unfold pm_al at h
  split at h
  · exact ⟨_, _, by assumption, h⟩
  · exact h.elim
def pm_aq (M : pmM) (a : Nat) (k : String → Nat → (Nat → Option Nat) → Prop) : Prop := match M a with
  | some (.inl (.object C, n, .inr (.inr (.inr (.inr f))))) => k C n f
  | _ => False
theorem pm_aq_of {M : pmM} {a : Nat} {k : String → Nat → (Nat → Option Nat) → Prop} (h : pm_aq M a k) : ∃ C n f, M a = some (.inl (.object C, n, .inr (.inr (.inr (.inr f))))) ∧ k C n f := by
  unfold pm_aq at h
  split at h
  · exact ⟨_, _, _, by assumption, h⟩
  · exact h.elim
def pm_isInt (t : FieldType) : Bool := match t with | .int => true | _ => false
def pm_isChar (t : FieldType) : Bool := match t with | .char => true | _ => false
def pm_isByte (t : FieldType) : Bool := match t with | .byte => true | .boolean => true | _ => false
/-- the first contents of an array of numbers -/
def pm_zero (t : ArrayType) : (Nat → Int32) ⊕ (Nat → Int64) ⊕ (Nat → UInt32) ⊕ (Nat → UInt64) ⊕ (Nat → Option Nat) := match t with
  | .long => .inr (.inl fun _ => 0)
  | .float => .inr (.inr (.inl fun _ => 0))
  | .double => .inr (.inr (.inr (.inl fun _ => 0)))
  | _ => .inl fun _ => 0
def pm_nar (t : ArrayType) : Bool := match t with
  | .boolean => true
  | .char => true
  | .byte => true
  | .int => true
  | .long => true
  | _ => false
abbrev pmK : Type := Nat → pmL → List Value → pmM → Nat → Nat → Prop
/-- one instruction -/
def pm_ins (cl : List vw_C) (base : Nat) (X : pmX) (Rt : Option Value → pmM → Prop) (K : pmK) (ins : Instr) (pc : Nat) (L : pmL) (st : List Value) (M : pmM) (kc ks : Nat) : Prop := match ins with
  | .aconst_null => K (pc + 1) L (.null :: st) M kc ks
  | .iconst n => K (pc + 1) L (.int (Int32.ofInt n) :: st) M kc ks
  | .lconst n => K (pc + 1) L (.long (Int64.ofNat n) :: st) M kc ks
  | .bipush n => K (pc + 2) L (.int (Int8.ofInt n).toInt32 :: st) M kc ks
  | .sipush n => K (pc + 3) L (.int (Int16.ofInt n).toInt32 :: st) M kc ks
  | .ldc i => (∃ v, X.ci i = some v ∧ K (pc + 2) L (.int v :: st) M kc ks) ∨ (∃ a, X.str i = some a ∧ K (pc + 2) L (.ref a :: st) M kc ks)
  | .ldc_w i => (∃ v, X.ci i = some v ∧ K (pc + 3) L (.int v :: st) M kc ks) ∨ (∃ a, X.str i = some a ∧ K (pc + 3) L (.ref a :: st) M kc ks)
  | .ldc2_w i => pm_opt (X.cl i) fun v => K (pc + 3) L (.long v :: st) M kc ks
  | .iload_n i => pm_old L i fun v => pm_isI v fun x => K (pc + 1) L (.int x :: st) M kc ks
  | .iload i => pm_old L i fun v => pm_isI v fun x => K (pc + 2) L (.int x :: st) M kc ks
  | .lload_n i => pm_old L i fun v => pm_isL v fun x => K (pc + 1) L (.long x :: st) M kc ks
  | .lload i => pm_old L i fun v => pm_isL v fun x => K (pc + 2) L (.long x :: st) M kc ks
  | .aload_n i => pm_old L i fun v => pm_isQ v fun q => K (pc + 1) L (va_rf q :: st) M kc ks
  | .aload i => pm_old L i fun v => pm_isQ v fun q => K (pc + 2) L (va_rf q :: st) M kc ks
  | .istore_n i => (i : Nat) < X.nL ∧ ps_i st fun x r => K (pc + 1) (pm_st1 L i (.int x)) r M kc ks
  | .istore i => i < X.nL ∧ ps_i st fun x r => K (pc + 2) (pm_st1 L i (.int x)) r M kc ks
  | .lstore_n i => (i : Nat) + 1 < X.nL ∧ ps_l st fun x r => K (pc + 1) (pm_st2 L i (.long x)) r M kc ks
  | .lstore i => i + 1 < X.nL ∧ ps_l st fun x r => K (pc + 2) (pm_st2 L i (.long x)) r M kc ks
  | .astore_n i => (i : Nat) < X.nL ∧ ps_q st fun q r => K (pc + 1) (pm_st1 L i (va_rf q)) r M kc ks
  | .astore i => i < X.nL ∧ ps_q st fun q r => K (pc + 2) (pm_st1 L i (va_rf q)) r M kc ks
  | .iinc i n => i < X.nL ∧ pm_old L i fun v => pm_isI v fun x => K (pc + 3) (pm_st1 L i (.int (x + Int32.ofInt n))) st M kc ks
  | .iadd => ps_ii st fun x y r => K (pc + 1) L (.int (x + y) :: r) M kc ks
  | .isub => ps_ii st fun x y r => K (pc + 1) L (.int (x - y) :: r) M kc ks
  | .imul => ps_ii st fun x y r => K (pc + 1) L (.int (x * y) :: r) M kc ks
  | .iand => ps_ii st fun x y r => K (pc + 1) L (.int (x &&& y) :: r) M kc ks
  | .ior => ps_ii st fun x y r => K (pc + 1) L (.int (x ||| y) :: r) M kc ks
  | .ixor => ps_ii st fun x y r => K (pc + 1) L (.int (x ^^^ y) :: r) M kc ks
  | .ishl => ps_ii st fun x y r => K (pc + 1) L (.int (x <<< (y &&& 31)) :: r) M kc ks
  | .ishr => ps_ii st fun x y r => K (pc + 1) L (.int (x >>> (y &&& 31)) :: r) M kc ks
  | .iushr => ps_ii st fun x y r => K (pc + 1) L (.int (x.toUInt32 >>> (y.toUInt32 &&& Int32.toUInt32 31)).toInt32 :: r) M kc ks
  | .idiv => ps_ii st fun x y r => ¬ y = 0 ∧ K (pc + 1) L (.int (x / y) :: r) M kc ks
  | .irem => ps_ii st fun x y r => ¬ y = 0 ∧ K (pc + 1) L (.int (x - x / y * y) :: r) M kc ks
  | .ineg => ps_i st fun x r => K (pc + 1) L (.int (-x) :: r) M kc ks
  | .ladd => ps_ll st fun x y r => K (pc + 1) L (.long (x + y) :: r) M kc ks
  | .lsub => ps_ll st fun x y r => K (pc + 1) L (.long (x - y) :: r) M kc ks
  | .lmul => ps_ll st fun x y r => K (pc + 1) L (.long (x * y) :: r) M kc ks
  | .land => ps_ll st fun x y r => K (pc + 1) L (.long (x &&& y) :: r) M kc ks
  | .lor => ps_ll st fun x y r => K (pc + 1) L (.long (x ||| y) :: r) M kc ks
  | .lxor => ps_ll st fun x y r => K (pc + 1) L (.long (x ^^^ y) :: r) M kc ks
  | .lrem => ps_ll st fun x y r => ¬ y = 0 ∧ K (pc + 1) L (.long (x - x / y * y) :: r) M kc ks
  | .ldiv => ps_ll st fun x y r => ¬ y = 0 ∧ K (pc + 1) L (.long (x / y) :: r) M kc ks
  | .lshr => ps_li st fun x y r => K (pc + 1) L (.long (x >>> (y.toInt64 &&& 63)) :: r) M kc ks
  | .lcmp => ps_ll st fun x y r => K (pc + 1) L (.int (lg_cmp x y) :: r) M kc ks
  | .lshl => ps_li st fun x y r => K (pc + 1) L (.long (x <<< (y.toInt64 &&& 63)) :: r) M kc ks
  | .lushr => ps_li st fun x y r => K (pc + 1) L (.long (x.toUInt64 >>> (y.toInt64.toUInt64 &&& Int64.toUInt64 63)).toInt64 :: r) M kc ks
  | .i2l => ps_i st fun x r => K (pc + 1) L (.long x.toInt64 :: r) M kc ks
  | .l2i => ps_l st fun x r => K (pc + 1) L (.int x.toInt32 :: r) M kc ks
  | .i2b => ps_i st fun x r => K (pc + 1) L (.int x.toInt8.toInt32 :: r) M kc ks
  | .i2c => ps_i st fun x r => K (pc + 1) L (.int (x.toUInt32 % 65536).toInt32 :: r) M kc ks
  | .dup => ps_v st fun v r => v.category = 1 ∧ K (pc + 1) L (v :: v :: r) M kc ks
  | .dup_x1 => ps_v st fun v r => ps_v r fun w r => v.category = 1 ∧ w.category = 1 ∧ K (pc + 1) L (v :: w :: v :: r) M kc ks
  | .dup2 => ps_v st fun v r => ps_v r fun w r => v.category = 1 ∧ w.category = 1 ∧ K (pc + 1) L (v :: w :: v :: w :: r) M kc ks
  | .pop => ps_v st fun v r => v.category = 1 ∧ K (pc + 1) L r M kc ks
  | .goto off => pm_jok pc off ∧ K (pm_tgt pc off) L st M kc ks
  | .ifCond c off => pm_jok pc off ∧ ps_i st fun x r => (pm_cmp c x 0 → K (pm_tgt pc off) L r M kc ks) ∧ (¬ pm_cmp c x 0 → K (pc + 3) L r M kc ks)
  | .if_icmp c off => pm_jok pc off ∧ ps_ii st fun x y r => (pm_cmp c x y → K (pm_tgt pc off) L r M kc ks) ∧ (¬ pm_cmp c x y → K (pc + 3) L r M kc ks)
  | .if_acmp c off => pm_jok pc off ∧ ps_q st fun y r => ps_q r fun x r => ((c = .eq ↔ x = y) → K (pm_tgt pc off) L r M kc ks) ∧ (¬ (c = .eq ↔ x = y) → K (pc + 3) L r M kc ks)
  | .ifnull off => pm_jok pc off ∧ ps_q st fun q r => (q = none → K (pm_tgt pc off) L r M kc ks) ∧ (¬ q = none → K (pc + 3) L r M kc ks)
  | .ifnonnull off => pm_jok pc off ∧ ps_q st fun q r => (¬ q = none → K (pm_tgt pc off) L r M kc ks) ∧ (q = none → K (pc + 3) L r M kc ks)
  | .tableswitch d lo hi offs => ps_i st fun x r => (x.toInt < lo ∨ hi < x.toInt → pm_jok pc d ∧ K (pm_tgt pc d) L r M kc ks) ∧ (¬ x.toInt < lo → ¬ hi < x.toInt → pm_opt offs[(x.toInt - lo).toNat]? fun off => pm_jok pc off ∧ K (pm_tgt pc off) L r M kc ks)
  | .getfield i => pm_opt (X.fld i) fun f => ps_r st fun a r => pm_ob M a f.1 fun fs => pm_opt fs[f.2.1]? fun v => K (pc + 3) L (v :: r) M kc ks
  | .putfield i => pm_opt (X.fld i) fun f => ps_v st fun v r => ps_r r fun a r => pm_ob M a f.1 fun fs => base ≤ a ∧ f.2.1 < fs.length ∧ narrow f.2.2.1 v = v ∧ fits f.2.2.1 v = true ∧ f.2.2.2 = true ∧ K (pc + 3) L r (pm_up M a (.inr (f.1, fs.set f.2.1 v))) kc ks
  | .getstatic i => pm_opt (X.sta i) fun v => K (pc + 3) L (v :: st) M kc ks
  | .arraylength => ps_r st fun a r => match M a with
    | some (.inl (_, n, _)) => K (pc + 1) L (.int (Int32.ofNat n) :: r) M kc ks
    | _ => False
  | .iaload => ps_i st fun i r => ps_r r fun a r => pm_ai M a pm_isInt fun _ n f => vp_in i n ∧ K (pc + 1) L (.int (f i.toNatClampNeg) :: r) M kc ks
  | .baload => ps_i st fun i r => ps_r r fun a r => pm_ai M a pm_isByte fun _ n f => vp_in i n ∧ K (pc + 1) L (.int (f i.toNatClampNeg) :: r) M kc ks
  | .caload => ps_i st fun i r => ps_r r fun a r => pm_ai M a pm_isChar fun _ n f => vp_in i n ∧ K (pc + 1) L (.int (f i.toNatClampNeg) :: r) M kc ks
  | .laload => ps_i st fun i r => ps_r r fun a r => pm_al M a fun n f => vp_in i n ∧ K (pc + 1) L (.long (f i.toNatClampNeg) :: r) M kc ks
  | .aaload => ps_i st fun i r => ps_r r fun a r => pm_aq M a fun _ n f => vp_in i n ∧ K (pc + 1) L (va_rf (f i.toNatClampNeg) :: r) M kc ks
  | .iastore => ps_ii st fun i x r => ps_r r fun a r => pm_ai M a pm_isInt fun ty n f => base ≤ a ∧ vp_in i n ∧ K (pc + 1) L r (pm_up M a (.inl (ty, n, .inl (upd f i.toNatClampNeg x)))) kc ks
  | .bastore => ps_ii st fun i x r => ps_r r fun a r => pm_ai M a pm_isByte fun ty n f => base ≤ a ∧ vp_in i n ∧ K (pc + 1) L r (pm_up M a (.inl (ty, n, .inl (upd f i.toNatClampNeg (vp_nar ty x))))) kc ks
  | .castore => ps_ii st fun i x r => ps_r r fun a r => pm_ai M a pm_isChar fun ty n f => base ≤ a ∧ vp_in i n ∧ K (pc + 1) L r (pm_up M a (.inl (ty, n, .inl (upd f i.toNatClampNeg (vp_nar ty x))))) kc ks
  | .lastore => ps_l st fun x r => ps_i r fun i r => ps_r r fun a r => pm_al M a fun n f => base ≤ a ∧ vp_in i n ∧ K (pc + 1) L r (pm_up M a (.inl (.long, n, .inr (.inl (vp_updL f i.toNatClampNeg x))))) kc ks
  | .aastore => ps_q st fun q r => ps_i r fun i r => ps_r r fun a r => pm_aq M a fun C n f => base ≤ a ∧ vp_in i n ∧ (∀ b, q = some b → base ≤ b ∧ ∃ (ci : Nat) (w : vw_C) (fs : List Value), M b = some (.inr (ci, fs)) ∧ cl[ci]? = some w ∧ w.1 = C) ∧ K (pc + 1) L r (pm_up M a (.inl (.object C, n, .inr (.inr (.inr (.inr (va_up f i.toNatClampNeg q))))))) kc ks
  | .new i => pm_opt (X.mk i) fun o => 1 ≤ kc ∧ o.2.length ≤ ks ∧ ∀ q, M q = none → base ≤ q → K (pc + 3) L (.ref q :: st) (pm_up M q (.inr o)) (kc - 1) (ks - o.2.length)
  | .newarray t => pm_nar t = true ∧ ps_i st fun n r => ¬ n < 0 ∧ n.toNatClampNeg ≤ 4000000 ∧ 1 ≤ kc ∧ n.toNatClampNeg ≤ ks ∧ ∀ q, M q = none → base ≤ q → K (pc + 2) L (.ref q :: r) (pm_up M q (.inl (newarray.typeOf t, n.toNatClampNeg, pm_zero t))) (kc - 1) (ks - n.toNatClampNeg)
  | .anewarray i => pm_opt (X.arr i) fun C => ps_i st fun n r => ¬ n < 0 ∧ n.toNatClampNeg ≤ 4000000 ∧ 1 ≤ kc ∧ n.toNatClampNeg ≤ ks ∧ ∀ q, M q = none → base ≤ q → K (pc + 3) L (.ref q :: r) (pm_up M q (.inl (.object C, n.toNatClampNeg, .inr (.inr (.inr (.inr fun _ => none)))))) (kc - 1) (ks - n.toNatClampNeg)
  | .invokevirtual i => pm_opt (X.cal i) fun y => y.1 = 0 ∧ y.2.1 ≤ st.length ∧ pm_cats (st.drop y.2.1) ≤ 8 ∧ ∃ mc ms, mc ≤ kc ∧ ms ≤ ks ∧ y.2.2 (st.take y.2.1).reverse M mc ms fun v M1 => K (pc + 3) L (v.toList ++ st.drop y.2.1) M1 (kc - mc) (ks - ms)
  | .invokespecial i => pm_opt (X.cal i) fun y => y.1 = 1 ∧ y.2.1 ≤ st.length ∧ pm_cats (st.drop y.2.1) ≤ 8 ∧ ∃ mc ms, mc ≤ kc ∧ ms ≤ ks ∧ y.2.2 (st.take y.2.1).reverse M mc ms fun v M1 => K (pc + 3) L (v.toList ++ st.drop y.2.1) M1 (kc - mc) (ks - ms)
  | .invokestatic i => pm_opt (X.cal i) fun y => y.1 = 2 ∧ y.2.1 ≤ st.length ∧ pm_cats (st.drop y.2.1) ≤ 8 ∧ ∃ mc ms, mc ≤ kc ∧ ms ≤ ks ∧ y.2.2 (st.take y.2.1).reverse M mc ms fun v M1 => K (pc + 3) L (v.toList ++ st.drop y.2.1) M1 (kc - mc) (ks - ms)
  | .ireturn => ∃ x ty, st = [.int x] ∧ X.ret = some ty ∧ narrow ty (.int x) = .int x ∧ Rt (some (.int x)) M
  | .lreturn => ∃ x, st = [.long x] ∧ X.ret = some .long ∧ Rt (some (.long x)) M
  | .areturn => ∃ q ty, st = [va_rf q] ∧ X.ret = some ty ∧ ty.isReference = true ∧ Rt (some (va_rf q)) M
  | .return_ => st = [] ∧ X.ret = none ∧ Rt none M
  | _ => False
/-- what is closed under the steps of a body -/
def pm_cl (cl : List vw_C) (base : Nat) (X : pmX) (Rt : Option Value → pmM → Prop) (G : pmK) : Prop := ∀ (pc : Nat) (L : pmL) (st : List Value) (M : pmM) (kc ks : Nat) (ins : Instr), X.code pc = some ins → pm_ins cl base X Rt G ins pc L st M kc ks → G pc L st M kc ks
/-- what a method does: its body, from its start (the least that is closed under its steps) -/
def pm_mt (cl : List vw_C) (base : Nat) (X : pmX) : pmT := fun As M mc ms Rt => (lg_sl As).length ≤ X.nL ∧ ∀ G : pmK, pm_cl cl base X Rt G → G 0 (lv_args 0 As) [] M mc ms
end
section
/-! The picture and the heap; the machine does what 'pm_ins' says. -/
def pm_rel (tys : List (ClassId × FieldType)) (e : pmE) (v : va_E) : Prop := match e, v with
  | .inl x, .inl y => x.2 = y.2 ∧ ∃ t : Nat, tys[t]? = some (y.1, x.1)
  | .inr o, .inr o' => o = o'
  | _, _ => False
/-- what was there before all, and is only read -/
def pm_ro (D : va_G) (cl : List vw_C) (U : State) (H : Heap) (a : Nat) (e : pmE) : Prop := match e with
  | .inl (ty, n, .inl f) => ∃ cell : Cell, H[a]? = some cell ∧ U.isArrayOf cell ty ∧ cell.vm ≠ .unknown ∧ cell.slots.size = n ∧ ∀ j : Nat, j < n → cell.slots[j]? = some (.int (f j))
  | .inl _ => False
  | .inr o => va_at D cl (a, .inr o) H
def pm_P (D : va_G) (cl : List vw_C) (base : Nat) (M : pmM) (U : State) (H : Heap) : Prop := ∃ (ws : va_W) (tys : List (ClassId × FieldType)), va_K D cl tys U ∧ va_P D cl ws H ∧ va_D (fun q => base ≤ q) ws ∧ ∀ (a : Nat) (e : pmE), M a = some e → (base ≤ a ∧ ∃ (k : Nat) (v : va_E), ws[k]? = some (a, v) ∧ pm_rel tys e v) ∨ (a < base ∧ pm_ro D cl U H a e)
theorem pm_ro.kept {D : va_G} {cl : List vw_C} {U : State} {H H1 : Heap} {a : Nat} {e : pmE} (h : pm_ro D cl U H a e) (hq : H1[a]? = H[a]?) : pm_ro D cl U H1 a e := by
  unfold pm_ro at h ⊢
  split at h
  · obtain ⟨cell, h1, h2⟩ := h
    exact ⟨cell, hq.trans h1, h2⟩
  · exact h.elim
  · exact va_at.kept h hq
theorem pm_ro.moved {D : va_G} {cl : List vw_C} {u U : State} {H : Heap} {a : Nat} {e : pmE} (hvm : u.vm.Alike U.vm) (h : pm_ro D cl u H a e) : pm_ro D cl U H a e := by
  unfold pm_ro at h ⊢
  split at h
  · obtain ⟨cell, h1, h2, h3⟩ := h
    exact ⟨cell, h1, State.isArrayOf_alike hvm h2, h3⟩
  · exact h.elim
  · exact h
theorem pm_P.moved {D : va_G} {cl : List vw_C} {base : Nat} {M : pmM} {u U : State} {H : Heap} (hvm : u.vm.Alike U.vm) (h : pm_P D cl base M u H) : pm_P D cl base M U H := by
  obtain ⟨ws, tys, hK, hP, hD, hM⟩ := h
  refine ⟨ws, tys, hK.moved hvm, hP, hD, fun a e he => ?_⟩
  rcases hM a e he with h | ⟨h1, h2⟩
  · exact Or.inl h
  · exact Or.inr ⟨h1, h2.moved hvm⟩
theorem pm_rel_o {tys : List (ClassId × FieldType)} {o : Nat × List Value} : pm_rel tys (.inr o) (.inr o) := rfl
theorem pm_rel_a {tys : List (ClassId × FieldType)} {t : Nat} {cA : ClassId} {ty : FieldType} {x : vp_A} (h : tys[t]? = some (cA, ty)) : pm_rel tys (.inl (ty, x)) (.inl (cA, x)) := ⟨rfl, t, h⟩
theorem pm_rel.app {tys t2 : List (ClassId × FieldType)} {e : pmE} {v : va_E} (h : pm_rel tys e v) : pm_rel (tys ++ t2) e v := by
  unfold pm_rel at h ⊢
  split at h
  · obtain ⟨h1, t, ht⟩ := h
    exact ⟨h1, t, by rw [List.getElem?_append_left (List.getElem?_eq_some_iff.mp ht).1]; exact ht⟩
  · exact h
  · exact h.elim
/-- an object, read -/
theorem pm_P.ob {D : va_G} {cl : List vw_C} {base : Nat} {M : pmM} {U : State} {H : Heap} (h : pm_P D cl base M U H) {a : Nat} {o : Nat × List Value} (hM : M a = some (.inr o)) : ∃ tys, va_K D cl tys U ∧ va_P D cl [(a, .inr o)] H := by
  obtain ⟨ws, tys, hK, hP, hD, hq⟩ := h
  refine ⟨tys, hK, fun k q hk => ?_⟩
  have hk0 : k = 0 ∧ q = (a, .inr o) := by
    cases k with
    | zero => exact ⟨rfl, (Option.some.inj hk).symm⟩
    | succ k => simp at hk
  obtain ⟨rfl, rfl⟩ := hk0
  rcases hq a _ hM with ⟨-, k, v, hk2, hv⟩ | ⟨-, hr⟩
  · cases v with
    | inl x => exact hv.elim
    | inr o' =>
      have e : o = o' := hv
      subst e
      exact hP k _ hk2
  · exact hr
/-- what is written: the picture with one cell else -/
theorem pm_P.set {D : va_G} {cl : List vw_C} {base : Nat} {M : pmM} {U : State} {H H1 : Heap} {ws : va_W} {tys : List (ClassId × FieldType)} (hK : va_K D cl tys U) (hM : ∀ (a : Nat) (e : pmE), M a = some e → (base ≤ a ∧ ∃ (k : Nat) (v : va_E), ws[k]? = some (a, v) ∧ pm_rel tys e v) ∨ (a < base ∧ pm_ro D cl U H a e)) {k a : Nat} {v0 v : va_E} {e : pmE} (hk : ws[k]? = some (a, v0)) (hb : base ≤ a) (hr : pm_rel tys e v) (hD : va_D (fun q => base ≤ q) (ws.set k (a, v))) (hP : va_P D cl (ws.set k (a, v)) H1) (hro : ∀ q, q < base → H1[q]? = H[q]?) : pm_P D cl base (pm_up M a e) U H1 := by
  refine ⟨ws.set k (a, v), tys, hK, hP, hD, fun b e2 he => ?_⟩
  have hl := (List.getElem?_eq_some_iff.mp hk).1
  by_cases hba : b = a
  · subst hba
    rw [pm_up_self] at he
    cases he
    exact Or.inl ⟨hb, k, v, List.getElem?_set_self hl, hr⟩
  · rw [pm_up_ne M e hba] at he
    rcases hM b e2 he with ⟨h1, k2, v2, h2, h3⟩ | ⟨h1, h2⟩
    · refine Or.inl ⟨h1, k2, v2, ?_, h3⟩
      rw [List.getElem?_set_ne ?_]
      · exact h2
      · intro q
        subst q
        rw [hk] at h2
        cases h2
        exact hba rfl
    · exact Or.inr ⟨h1, h2.kept (hro b h1)⟩
/-- what is new -/
theorem pm_P.push {D : va_G} {cl : List vw_C} {base : Nat} {M : pmM} {U : State} {H H1 : Heap} {ws : va_W} {tys t2 : List (ClassId × FieldType)} (hK : va_K D cl (tys ++ t2) U) (hM : ∀ (a : Nat) (e : pmE), M a = some e → (base ≤ a ∧ ∃ (k : Nat) (v : va_E), ws[k]? = some (a, v) ∧ pm_rel tys e v) ∨ (a < base ∧ pm_ro D cl U H a e)) {a : Nat} {v : va_E} {e : pmE} (hr : pm_rel (tys ++ t2) e v) (hD : va_D (fun q => base ≤ q) (ws ++ [(a, v)])) (hP : va_P D cl (ws ++ [(a, v)]) H1) (hro : ∀ q, q < base → H1[q]? = H[q]?) : M a = none ∧ base ≤ a ∧ pm_P D cl base (pm_up M a e) U H1 := by
  have hlast : (ws ++ [(a, v)])[ws.length]? = some (a, v) := by simp
  have hb : base ≤ a := hD.2 _ _ hlast
  refine ⟨?_, hb, ws ++ [(a, v)], tys ++ t2, hK, hP, hD, fun b e2 he => ?_⟩
  · cases hMa : M a with
    | none => rfl
    | some e2 =>
      exfalso
      rcases hM a e2 hMa with ⟨-, k, v2, h2, -⟩ | ⟨h1, -⟩
      · have hkl := (List.getElem?_eq_some_iff.mp h2).1
        have := hD.1 k ws.length (a, v2) (a, v) (by rw [List.getElem?_append_left hkl]; exact h2) hlast rfl
        omega
      · omega
  · by_cases hba : b = a
    · subst hba
      rw [pm_up_self] at he
      cases he
      exact Or.inl ⟨hb, ws.length, v, hlast, hr⟩
    · rw [pm_up_ne M e hba] at he
      rcases hM b e2 he with ⟨h1, k2, v2, h2, h3⟩ | ⟨h1, h2⟩
      · exact Or.inl ⟨h1, k2, v2, by rw [List.getElem?_append_left (List.getElem?_eq_some_iff.mp h2).1]; exact h2, h3.app⟩
      · exact Or.inr ⟨h1, h2.kept (hro b h1)⟩
theorem pm_get_at {ls : Array Slot} {nL : Nat} {L : pmL} (h : lv_has ls nL L) {i : Nat} {v : Value} (hg : pm_get L i = some v) : ls[i]? = some (.val v) := by
  have key : ∀ (L : pmL), pm_get L i = some v → (i, v) ∈ L := by
    intro L
    induction L with
    | nil => intro h; cases h
    | cons q r ih =>
      intro h
      unfold pm_get at h
      by_cases hq : q.1 = i
      · rw [if_pos hq] at h
        cases h
        rw [← hq]
        exact List.mem_cons_self
      · rw [if_neg hq] at h
        exact List.mem_cons_of_mem _ (ih h)
  exact h.2.2 (i, v) (key L hg)
theorem pm_get_k {L : pmL} {i : Nat} {v : Value} (hg : pm_get L i = some v) : ∃ k : Nat, L[k]? = some (i, v) := by
  induction L with
  | nil => cases hg
  | cons q r ih =>
    unfold pm_get at hg
    by_cases hq : q.1 = i
    · rw [if_pos hq] at hg
      cases hg
      exact ⟨0, by rw [← hq]; rfl⟩
    · rw [if_neg hq] at hg
      obtain ⟨k, hk⟩ := ih hg
      exact ⟨k + 1, hk⟩
/-- how long an instruction is -/
def pm_len (pc : Nat) (ins : Instr) : Nat := match ins with
  | .bipush _ => 2
  | .sipush _ => 3
  | .ldc _ => 2
  | .ldc_w _ => 3
  | .ldc2_w _ => 3
  | .iload _ => 2
  | .lload _ => 2
  | .aload _ => 2
  | .istore _ => 2
  | .lstore _ => 2
  | .astore _ => 2
  | .iinc _ _ => 3
  | .goto _ => 3
  | .ifCond _ _ => 3
  | .if_icmp _ _ => 3
  | .if_acmp _ _ => 3
  | .ifnull _ => 3
  | .ifnonnull _ => 3
  | .getfield _ => 3
  | .putfield _ => 3
  | .getstatic _ => 3
  | .putstatic _ => 3
  | .new _ => 3
  | .newarray _ => 2
  | .anewarray _ => 3
  | .multianewarray _ _ => 4
  | .invokevirtual _ => 3
  | .invokespecial _ => 3
  | .invokestatic _ => 3
  | .checkcast _ => 3
  | .instanceof _ => 3
  | .tableswitch _ _ _ offs => 1 + (3 - pc % 4) + 12 + 4 * offs.size
  | .lookupswitch _ ps => 1 + (3 - pc % 4) + 8 + 8 * ps.size
  | _ => 1
theorem pm_jmp {pc : Nat} {off : Int} (h : pm_jok pc off) : (pc : Int) + off = (pm_tgt pc off : Int) := (Int.toNat_of_nonneg h).symm
/-- what was there before all: statics (where they are declared, what they hold), constant texts (whose entry, what they say, where they are), nest mates' fields and methods, arrays of references -/
abbrev pmZ : Type := List (String × String × String × Value) × List (String × Nat × String × Nat) × List (String × Nat × String × String × String × String) × List (String × Nat × MethodName × String) × List String
def pm_Z (base : Nat) (Z : pmZ) (U : State) (H : Heap) : Prop := (∀ q ∈ Z.1, va_Z q.1 q.2.1 q.2.2.1 q.2.2.2 (fun a => base ≤ a) U H) ∧ (∀ q ∈ Z.2.1, vk_R q.1 q.2.1 q.2.2.1 q.2.2.2 U) ∧ (∀ q ∈ Z.2.2.1, va_Nw (.fieldLinkNest q.1 q.2.1 q.2.2.1 q.2.2.2.1 q.2.2.2.2.1 q.2.2.2.2.2) U) ∧ (∀ q ∈ Z.2.2.2.1, va_Nw (.methodLinkNest q.1 q.2.1 q.2.2.1 q.2.2.2) U) ∧ ∀ C ∈ Z.2.2.2.2, va_AO C U
theorem pm_Z.warm {base : Nat} {Z : pmZ} {s U : State} {H : Heap} {locs : List Loc} (h : pm_Z base Z s s.heap) (hS : va_S (fun q => base ≤ q) s.heap H locs) (hU : U.heap = H) (hW : s.WarmedH U.vm) : pm_Z base Z U U.heap := by
  obtain ⟨h1, h2, h3, h4, h5⟩ := h
  refine ⟨fun q hq => ?_, fun q hq => vk_R.warm hW (h2 q hq), fun q hq => va_Nw.warmF hW (h3 q hq), fun q hq => va_Nw.warmM hW (h4 q hq), fun q hq => va_AO.moved hW.alike (h5 q hq)⟩
  rw [hU]
  exact va_Z.moved hW.alike ((h1 q hq).kept (fun a k1 k2 => hS.2.1 a k1 k2))
theorem pm_Z.called {base : Nat} {Z : pmZ} {U V : State} (h : pm_Z base Z U U.heap) (hv : V.vm = U.vm) (hH : V.heap = U.heap) : pm_Z base Z V V.heap := by
  obtain ⟨h1, h2, h3, h4, h5⟩ := h
  have ha : U.vm.Alike V.vm := by rw [hv]; exact Vm.Alike.refl U.vm
  refine ⟨fun q hq => ?_, fun q hq => vk_R.same hv (h2 q hq), fun q hq => va_Nw.same rfl hv.symm (h3 q hq), fun q hq => va_Nw.same rfl hv.symm (h4 q hq), fun q hq => va_AO.moved ha (h5 q hq)⟩
  rw [hH]
  exact va_Z.moved ha (h1 q hq)
end
section
/-! One walk for all bodies: 'pm_sound'. -/
section Steps
variable {p : Program} {l : Launch} {e : Env} {R : Room} {s : State} {m : MethodId} {args : Array Value} {below : List Frame} {meth : Method} {c : Code} {Q : State → Prop} {cc : ByteArray}
/-- a field's row: its table, its link -/
def pm_fok (cl : List vw_C) (own : String) (meth : Method) (args : Array Value) (s : State) (i : Nat) (f : Nat × Nat × FieldType × Bool) : Prop :=
  ∃ (C : String) (T : u_T) (N : Nat) (ty : Nat → FieldType) (Ts : List Cond), cl[f.1]? = some (C, T, N) ∧ f.2.1 < N ∧ (∀ w ∈ Ts, w.before args s = true) ∧ (∀ w ∈ u_ws C T N, w ∈ Ts) ∧ (∀ k, k < N → parseFieldDescriptor (T k).2.2.1 = some (ty k)) ∧ (∀ a, a < N → ∀ b, b < N → a ≠ b → (T a).2.1 ≠ (T b).2.1) ∧ ty f.2.1 = f.2.2.1 ∧
    ((Cond.fieldLink own i (T f.2.1).1 (T f.2.1).2.1 (T f.2.1).2.2.1).before args s = true ∨ ∃ host, (Cond.fieldLinkNest own i (T f.2.1).1 (T f.2.1).2.1 (T f.2.1).2.2.1 host).before args s = true) ∧
    (f.2.2.2 = true → (T f.2.1).2.2.2 = false ∨ ((T f.2.1).2.2.2 = true ∧ meth.name = "<init>" ∧ (T f.2.1).1 = own ∧ (Cond.fieldLink own i (T f.2.1).1 (T f.2.1).2.1 (T f.2.1).2.2.1).before args s = true))
def pm_nok (cl : List vw_C) (own : String) (args : Array Value) (s : State) (i : Nat) (o : Nat × List Value) : Prop :=
  ∃ (C : String) (T : u_T) (ty : Nat → FieldType) (Ts : List Cond), cl[o.1]? = some (C, T, o.2.length) ∧ (∀ w ∈ Ts, w.before args s = true) ∧ (∀ w ∈ u_ws C T o.2.length, w ∈ Ts) ∧ (∀ k, k < o.2.length → parseFieldDescriptor (T k).2.2.1 = some (ty k)) ∧ (Cond.classLink own i C).before args s = true ∧ (Cond.instantiable C o.2.length).before args s = true ∧ (Cond.initialized C).before args s = true ∧ ∀ j, j < o.2.length → defaultValue (ty j) = vp_V o.2 j
/-- what a call leaves -/
def pm_Qc (D : va_G) (cl : List vw_C) (base : Nat) (Rt : Option Value → pmM → Prop) : State → Outcome → State → Prop := fun st oc t => ∃ (v : Option Value) (M : pmM), oc = .returned v ∧ Rt v M ∧ pm_P D cl base M t t.heap ∧ va_F (fun q => base ≤ q) st t
def pm_inv (k i : Nat) : Instr := match k with
  | 0 => .invokevirtual i
  | 1 => .invokespecial i
  | _ => .invokestatic i
/-- a callee's row -/
def pm_cok (D : va_G) (cl : List vw_C) (base : Nat) (p : Program) (l : Launch) (e : Env) (R : Room) (s : State) (m : MethodId) (args : Array Value) (below : List Frame) (meth : Method) (c : Code) (nL : Nat) (cc : ByteArray) (i : Nat) (y : Nat × Nat × pmT) : Prop :=
  ∀ (Q : State → Prop) (pc : Nat) (ls : Array Slot) (As rest : List Value) (M : pmM) (mc ms cells slots : Nat) (Rt : Option Value → pmM → Prop) (H : Heap) (locs : List Loc),
    decode cc pc = .ok (pm_inv y.1 i, 3) → As.length = y.2.1 → pm_cats rest ≤ 8 → ls.size = nL → cells + mc ≤ R.cells → slots + ms ≤ R.slots → pm_P D cl base M s H → va_S (fun q => base ≤ q) s.heap H locs → y.2.2 As M mc ms Rt →
    (∀ (v : Option Value) (M1 : pmM) (H1 : Heap) (locs1 : List Loc), Rt v M1 → pm_P D cl base M1 s H1 → va_S (fun q => base ≤ q) s.heap H1 locs1 → W p l e R s m args below meth c H1 locs1 (cells + mc) (slots + ms) Q (F0 m (pc + 3) ls (v.toList ++ rest))) →
    W p l e R s m args below meth c H locs cells slots Q (F0 m pc ls (As.reverse ++ rest))
/-- what must stand for a body -/
def pm_ok (D : va_G) (cl : List vw_C) (base : Nat) (Z : pmZ) (p : Program) (l : Launch) (e : Env) (R : Room) (s : State) (m : MethodId) (args : Array Value) (below : List Frame) (meth : Method) (c : Code) (own : String) (cc : ByteArray) (X : pmX) : Prop :=
  p.tables.exec = Jvm.exec ∧ c.code = cc ∧ s.vm.findClass own = some m.cls ∧ base ≤ s.heap.size ∧ (∀ pc ins, X.code pc = some ins → decode cc pc = .ok (ins, pm_len pc ins)) ∧
  (∀ i f, X.fld i = some f → pm_fok cl own meth args s i f) ∧ (∀ i o, X.mk i = some o → pm_nok cl own args s i o) ∧ (∀ i v, X.ci i = some v → (Jvm.Cond.constant own i v).before args s = true) ∧ (∀ i v, X.cl i = some v → (Jvm.Cond.constantLong own i v).before args s = true) ∧
  (∀ i C, X.arr i = some C → (Cond.classLink own i C).before args s = true ∧ va_AO C s) ∧ (∀ i y, X.cal i = some y → pm_cok D cl base p l e R s m args below meth c X.nL cc i y) ∧
  pm_Z base Z s s.heap ∧ (∀ i v, X.sta i = some v → ∃ (C n d : String), (C, n, d, v) ∈ Z.1 ∧ ((Cond.fieldLink own i C n d).before args s = true ∨ ∃ host, (Cond.fieldLinkNest own i C n d host).before args s = true)) ∧
  (∀ t : ArrayType, pm_nar t = true → (Cond.arrayClass (newarray.typeOf t)).before args s = true) ∧ (∀ i a, X.str i = some a → ∃ tx, (own, i, tx, a) ∈ Z.2.1)
/-- a call, out of its run -/
theorem pm_call {D : va_G} {cl : List vw_C} {base : Nat} {H : Heap} {locs : List Loc} {cells slots mc ms pc : Nat} {ls : Array Slot} {st0 rest : List Value} {Rt : Option Value → pmM → Prop}
    (hr : va_Run p l e R s m args below meth c H locs cells slots mc ms (F0 m pc ls st0) rest (pm_Qc D cl base Rt) (fun q => base ≤ q)) (hS : va_S (fun q => base ≤ q) s.heap H locs)
    (kk : ∀ (v : Option Value) (M : pmM) (H1 : Heap) (locs1 : List Loc), Rt v M → pm_P D cl base M s H1 → va_S (fun q => base ≤ q) s.heap H1 locs1 → W p l e R s m args below meth c H1 locs1 (cells + mc) (slots + ms) Q (F0 m (pc + 3) ls (v.toList ++ rest))) :
    W p l e R s m args below meth c H locs cells slots Q (F0 m pc ls st0) := by
  intro T hT X
  obtain ⟨v, st₀, t, T', L, e0, X', hL, e1, e2, hq, hgo⟩ := hr T hT X
  obtain ⟨v', M, ho, hRt, hP, hF⟩ := hq
  cases ho
  have hal : s.vm.Alike t.vm := by rw [← e2]; exact X'.warmed.alike
  have hP2 : pm_P D cl base M s t.heap := hP.moved hal.symm
  have hS1 : va_S (fun q => base ≤ q) s.heap t.heap (locs ++ L) := by
    refine ⟨?_, ?_, ?_⟩
    · have := hF.1
      rw [e0] at this
      exact Nat.le_trans hS.1 this
    · intro q hq1 hq2
      have h2 := hF.2 q (by rw [e0]; exact Nat.lt_of_lt_of_le hq1 hS.1) hq2
      rw [h2, e0]
      exact hS.2.1 q hq1 hq2
    · intro z hz
      rcases List.mem_append.mp hz with h | h
      · exact hS.2.2 z h
      · exact hL z h
  obtain ⟨tt, a1, b1⟩ := kk v M t.heap (locs ++ L) hRt hP2 hS1 T' e1 X'
  exact ⟨tt, hgo tt a1, b1⟩
end Steps
end
section
section Main
variable {p : Program} {l : Launch} {e : Env} {R : Room} {s : State} {m : MethodId} {args : Array Value} {below : List Frame} {meth : Method} {c : Code} {Q : State → Prop} {cc : ByteArray} {D : va_G} {cl : List vw_C} {base : Nat} {own : String} {Z : pmZ} {X : pmX} {Rt : Option Value → pmM → Prop}
/-- an array of small numbers, read -/
theorem pm_rdi (hx : p.tables.exec = Jvm.exec) (hb : c.code = cc) {M : pmM} {H : Heap} {locs : List Loc} {cells slots pc : Nat} {ls : Array Slot} {rest : List Value} {a n : Nat} {f : Nat → Int32} {i : Int32} (hP : pm_P D cl base M s H) (hM : M a = some (.inl (.int, n, .inl f))) (hin : vp_in i n) (hdg : decode cc pc = .ok (.iaload, 1)) (kk : W p l e R s m args below meth c H locs cells slots Q (F0 m (pc + 1) ls (.int (f i.toNatClampNeg) :: rest))) : W p l e R s m args below meth c H locs cells slots Q (F0 m pc ls (.int i :: .ref a :: rest)) := by
  obtain ⟨ws, tys, hK, hPw, hD, hq⟩ := hP
  rcases hq a _ hM with ⟨-, k, v, hk, hv⟩ | ⟨-, cell, h1, h2, h3, h4, h5⟩
  · cases v with
    | inr o => exact hv.elim
    | inl y =>
      obtain ⟨cA, y⟩ := y
      obtain ⟨hxy, t, ht⟩ := hv
      have hxy : (n, .inl f) = y := hxy
      subst hxy
      exact va_iald hx hb hK hPw k t hk ht hin hdg kk
  · exact W.iald hx hb h1 h2 h3 (by rw [h4]; exact hin) (h5 _ (Nat.not_le.mp fun q => hin (Or.inr q))) rfl rfl hdg kk
theorem pm_rdb (hx : p.tables.exec = Jvm.exec) (hb : c.code = cc) {M : pmM} {H : Heap} {locs : List Loc} {cells slots pc : Nat} {ls : Array Slot} {rest : List Value} {a n : Nat} {f : Nat → Int32} {i : Int32} (hP : pm_P D cl base M s H) (hM : M a = some (.inl (.byte, n, .inl f))) (hin : vp_in i n) (hdg : decode cc pc = .ok (.baload, 1)) (kk : W p l e R s m args below meth c H locs cells slots Q (F0 m (pc + 1) ls (.int (f i.toNatClampNeg) :: rest))) : W p l e R s m args below meth c H locs cells slots Q (F0 m pc ls (.int i :: .ref a :: rest)) := by
  obtain ⟨ws, tys, hK, hPw, hD, hq⟩ := hP
  rcases hq a _ hM with ⟨-, k, v, hk, hv⟩ | ⟨-, cell, h1, h2, h3, h4, h5⟩
  · cases v with
    | inr o => exact hv.elim
    | inl y =>
      obtain ⟨cA, y⟩ := y
      obtain ⟨hxy, t, ht⟩ := hv
      have hxy : (n, .inl f) = y := hxy
      subst hxy
      exact va_bald hx hb hK hPw k t hk ht hin hdg kk
  · exact W.bald hx hb h1 h2 h3 (by rw [h4]; exact hin) (h5 _ (Nat.not_le.mp fun q => hin (Or.inr q))) rfl rfl hdg kk
theorem pm_rdz (hx : p.tables.exec = Jvm.exec) (hb : c.code = cc) {M : pmM} {H : Heap} {locs : List Loc} {cells slots pc : Nat} {ls : Array Slot} {rest : List Value} {a n : Nat} {f : Nat → Int32} {i : Int32} (hP : pm_P D cl base M s H) (hM : M a = some (.inl (.boolean, n, .inl f))) (hin : vp_in i n) (hdg : decode cc pc = .ok (.baload, 1)) (kk : W p l e R s m args below meth c H locs cells slots Q (F0 m (pc + 1) ls (.int (f i.toNatClampNeg) :: rest))) : W p l e R s m args below meth c H locs cells slots Q (F0 m pc ls (.int i :: .ref a :: rest)) := by
  obtain ⟨ws, tys, hK, hPw, hD, hq⟩ := hP
  rcases hq a _ hM with ⟨-, k, v, hk, hv⟩ | ⟨-, cell, h1, h2, h3, h4, h5⟩
  · cases v with
    | inr o => exact hv.elim
    | inl y =>
      obtain ⟨cA, y⟩ := y
      obtain ⟨hxy, t, ht⟩ := hv
      have hxy : (n, .inl f) = y := hxy
      subst hxy
      exact va_zald hx hb hK hPw k t hk ht hin hdg kk
  · exact W.zald hx hb h1 h2 h3 (by rw [h4]; exact hin) (h5 _ (Nat.not_le.mp fun q => hin (Or.inr q))) rfl rfl hdg kk
/-- a cell that may be written stands in the world -/
theorem pm_P.at {M : pmM} {U : State} {H : Heap} (hP : pm_P D cl base M U H) {a : Nat} {x : FieldType × vp_A} (hM : M a = some (.inl x)) (hb : base ≤ a) : ∃ (ws : va_W) (tys : List (ClassId × FieldType)) (k t : Nat) (cA : ClassId), va_K D cl tys U ∧ va_P D cl ws H ∧ va_D (fun q => base ≤ q) ws ∧ ws[k]? = some (a, .inl (cA, x.2)) ∧ tys[t]? = some (cA, x.1) ∧ ∀ (b : Nat) (e : pmE), M b = some e → (base ≤ b ∧ ∃ (k : Nat) (v : va_E), ws[k]? = some (b, v) ∧ pm_rel tys e v) ∨ (b < base ∧ pm_ro D cl U H b e) := by
  obtain ⟨ws, tys, hK, hPw, hD, hq⟩ := hP
  rcases hq a _ hM with ⟨-, k, v, hk, hv⟩ | ⟨h1, -⟩
  · cases v with
    | inr o => exact hv.elim
    | inl y =>
      obtain ⟨cA, y⟩ := y
      obtain ⟨hxy, t, ht⟩ := hv
      have hxy : x.2 = y := hxy
      subst hxy
      exact ⟨ws, tys, k, t, cA, hK, hPw, hD, hk, ht, hq⟩
  · omega
theorem pm_P.atO {M : pmM} {U : State} {H : Heap} (hP : pm_P D cl base M U H) {a : Nat} {o : Nat × List Value} (hM : M a = some (.inr o)) (hb : base ≤ a) : ∃ (ws : va_W) (tys : List (ClassId × FieldType)) (k : Nat), va_K D cl tys U ∧ va_P D cl ws H ∧ va_D (fun q => base ≤ q) ws ∧ ws[k]? = some (a, .inr o) ∧ ∀ (b : Nat) (e : pmE), M b = some e → (base ≤ b ∧ ∃ (k : Nat) (v : va_E), ws[k]? = some (b, v) ∧ pm_rel tys e v) ∨ (b < base ∧ pm_ro D cl U H b e) := by
  obtain ⟨ws, tys, hK, hPw, hD, hq⟩ := hP
  rcases hq a _ hM with ⟨-, k, v, hk, hv⟩ | ⟨h1, -⟩
  · cases v with
    | inl y => exact hv.elim
    | inr o' =>
      have e : o = o' := hv
      subst e
      exact ⟨ws, tys, k, hK, hPw, hD, hk, hq⟩
  · omega
theorem pm_rdc (hx : p.tables.exec = Jvm.exec) (hb : c.code = cc) {M : pmM} {H : Heap} {locs : List Loc} {cells slots pc : Nat} {ls : Array Slot} {rest : List Value} {a n : Nat} {f : Nat → Int32} {i : Int32} (hP : pm_P D cl base M s H) (hM : M a = some (.inl (.char, n, .inl f))) (hin : vp_in i n) (hdg : decode cc pc = .ok (.caload, 1)) (kk : W p l e R s m args below meth c H locs cells slots Q (F0 m (pc + 1) ls (.int (f i.toNatClampNeg) :: rest))) : W p l e R s m args below meth c H locs cells slots Q (F0 m pc ls (.int i :: .ref a :: rest)) := by
  obtain ⟨ws, tys, hK, hPw, hD, hq⟩ := hP
  rcases hq a _ hM with ⟨-, k, v, hk, hv⟩ | ⟨-, cell, h1, h2, h3, h4, h5⟩
  · cases v with
    | inr o => exact hv.elim
    | inl y =>
      obtain ⟨cA, y⟩ := y
      obtain ⟨hxy, t, ht⟩ := hv
      have hxy : (n, .inl f) = y := hxy
      subst hxy
      exact va_cald hx hb hK hPw k t hk ht hin hdg kk
  · exact W.cald hx hb h1 h2 h3 (by rw [h4]; exact hin) (h5 _ (Nat.not_le.mp fun q => hin (Or.inr q))) rfl rfl hdg kk
/-- how long an array is -/
theorem pm_rdn (hx : p.tables.exec = Jvm.exec) (hb : c.code = cc) {M : pmM} {H : Heap} {locs : List Loc} {cells slots pc : Nat} {ls : Array Slot} {rest : List Value} {a n : Nat} {ty : FieldType} {x : (Nat → Int32) ⊕ (Nat → Int64) ⊕ (Nat → UInt32) ⊕ (Nat → UInt64) ⊕ (Nat → Option Nat)} (hP : pm_P D cl base M s H) (hM : M a = some (.inl (ty, n, x))) (hdg : decode cc pc = .ok (.arraylength, 1)) (kk : W p l e R s m args below meth c H locs cells slots Q (F0 m (pc + 1) ls (.int (Int32.ofNat n) :: rest))) : W p l e R s m args below meth c H locs cells slots Q (F0 m pc ls (.ref a :: rest)) := by
  obtain ⟨ws, tys, hK, hPw, hD, hq⟩ := hP
  rcases hq a _ hM with ⟨-, k, v, hk, hv⟩ | ⟨-, hr⟩
  · cases v with
    | inr o => exact hv.elim
    | inl y =>
      obtain ⟨cA, y⟩ := y
      obtain ⟨hxy, t, ht⟩ := hv
      have hxy : (n, x) = y := hxy
      subst hxy
      exact va_alen hx hb hK hPw k t hk ht rfl hdg kk
  · cases x with
    | inr x => exact hr.elim
    | inl f =>
      obtain ⟨cell, h1, h2, h3, h4, h5⟩ := hr
      exact W.alen hx hb h1 h2 (by rw [h4]) rfl rfl hdg kk
theorem pm_al_len {M : pmM} {a : Nat} {k : Nat → Prop} (h : match M a with
    | some (.inl (_, n, _)) => k n
    | _ => False) : ∃ ty n x, M a = some (.inl (ty, n, x)) ∧ k n := by
  split at h
  · exact ⟨_, _, _, by assumption, h⟩
  · exact h.elim
/-- an array that isn't of small numbers stands in the world -/
theorem pm_P.wl {M : pmM} {U : State} {H : Heap} (hP : pm_P D cl base M U H) {a n : Nat} {ty : FieldType} {x : (Nat → Int64) ⊕ (Nat → UInt32) ⊕ (Nat → UInt64) ⊕ (Nat → Option Nat)} (hM : M a = some (.inl (ty, n, .inr x))) : ∃ (ws : va_W) (tys : List (ClassId × FieldType)) (k t : Nat) (cA : ClassId), va_K D cl tys U ∧ va_P D cl ws H ∧ va_D (fun q => base ≤ q) ws ∧ ws[k]? = some (a, .inl (cA, n, .inr x)) ∧ tys[t]? = some (cA, ty) ∧ ∀ (b : Nat) (e : pmE), M b = some e → (base ≤ b ∧ ∃ (k : Nat) (v : va_E), ws[k]? = some (b, v) ∧ pm_rel tys e v) ∨ (b < base ∧ pm_ro D cl U H b e) := by
  obtain ⟨ws, tys, hK, hPw, hD, hq⟩ := id hP
  rcases hq a _ hM with ⟨h1, -⟩ | ⟨-, hr⟩
  · exact hP.at hM h1
  · exact hr.elim
theorem pm_bytes (t : ArrayType) {n : Nat} (h : n ≤ 4000000) : n * componentBytes (newarray.typeOf t) ≤ 536870912 := by
  have h8 : componentBytes (newarray.typeOf t) ≤ 8 := by cases t <;> decide
  exact Nat.le_trans (Nat.mul_le_mul h h8) (by decide)
/-- the heap below the base is as it was -/
theorem pm_low {H H1 : Heap} {locs locs1 : List Loc} (hbs : base ≤ s.heap.size) (h : va_S (fun q => base ≤ q) s.heap H locs) (h1 : va_S (fun q => base ≤ q) s.heap H1 locs1) : ∀ q, q < base → H1[q]? = H[q]? := fun q hq => by
  rw [h1.2.1 q (by omega) (by omega), h.2.1 q (by omega) (by omega)]
/-- a constant text, by the long form -/
theorem pm_ldcwS (hexec : p.tables.exec = Jvm.exec) (hb : c.code = cc) {H : Heap} {locs : List Loc} {cells slots pc : Nat} {ls : Array Slot} {rest : List Value} {own tx : String} {index q : Nat} (hown : s.vm.findClass own = some m.cls) (hZ : vk_R own index tx q s) (hdg : decode cc pc = .ok (.ldc_w index, 3))
    (k : W p l e R s m args below meth c H locs cells slots Q (F0 m (pc + 3) ls (.ref q :: rest))) : W p l e R s m args below meth c H locs cells slots Q (F0 m pc ls rest) := by
  intro T hT X
  obtain ⟨t, a1, b1⟩ := k T hT X
  refine ⟨t, ?_, b1⟩
  obtain ⟨k0, cf, i, a', hk, hcf, hcp, -, hr, hev'⟩ := Cond.stringRef_spec hown hZ.1
  cases hZ.2.symm.trans hev'
  obtain ⟨k', hk', he⟩ := X.warmed.alike.2.2 _ _ hk
  have hr' : k'.resolved[index]? = some (some (.string q)) := by
    rcases X.warmed.entry hk hk' index with h | ⟨h, -⟩
    · rw [h]; exact hr
    · rw [hr] at h; cases h
  subst hb
  jvm_step X.here [hexec, hdg, ldc_w.wp_string (e := e) (s := T) (f := F0 m pc ls rest) X.here.top hk' (by rw [he]; exact hcf) hcp hr']
  exact a1
set_option maxHeartbeats 4000000 in
set_option maxRecDepth 100000 in
theorem pm_sound (C0 : pm_ok D cl base Z p l e R s m args below meth c own cc X) {mc ms : Nat} (hmc : mc ≤ R.cells) (hms : ms ≤ R.slots)
    (hret : ∀ (ins : Instr) (v : Option Value) (st : List Value) (pc : Nat) (M : pmM) (H : Heap) (locs : List Loc) (ls : Array Slot) (cells slots : Nat), decode cc pc = .ok (ins, 1) → ((∃ x ty, ins = .ireturn ∧ v = some (.int x) ∧ st = [.int x] ∧ X.ret = some ty ∧ narrow ty (.int x) = .int x) ∨ (∃ x, ins = .lreturn ∧ v = some (.long x) ∧ st = [.long x] ∧ X.ret = some .long) ∨ (∃ q ty, ins = .areturn ∧ v = some (va_rf q) ∧ st = [va_rf q] ∧ X.ret = some ty ∧ ty.isReference = true) ∨ (ins = .return_ ∧ v = none ∧ st = [] ∧ X.ret = none)) → Rt v M → pm_P D cl base M s H → va_S (fun q => base ≤ q) s.heap H locs → cells ≤ mc → slots ≤ ms → W p l e R s m args below meth c H locs cells slots Q (F0 m pc ls st)) :
    pm_cl cl base X Rt (fun pc L st M kc ks => ∀ (H : Heap) (locs : List Loc) (ls : Array Slot) (cells slots : Nat), pm_P D cl base M s H → va_S (fun q => base ≤ q) s.heap H locs → lv_has ls X.nL L → cells + kc ≤ mc → slots + ks ≤ ms → W p l e R s m args below meth c H locs cells slots Q (F0 m pc ls st)) := by
  obtain ⟨hx, hb, hown, hbs, hc, hfld, hmk, hci, hcl, harr, hcal, hZ0, hsta, hnar, hstr⟩ := C0
  have hA : ∀ q, s.heap.size ≤ q → base ≤ q := fun q h => Nat.le_trans hbs h
  intro pc L st M kc ks ins hi h H locs ls cells slots hP hS hl hk1 hk2
  have hd := hc pc ins hi
  cases ins with
  | aconst_null => exact lv_null hx hb hd (h H locs ls cells slots hP hS hl hk1 hk2)
  | iconst n => exact lv_iconst hx hb hd rfl (h H locs ls cells slots hP hS hl hk1 hk2)
  | lconst n => exact lv_lconst hx hb hd rfl (h H locs ls cells slots hP hS hl hk1 hk2)
  | bipush n => exact lv_bipush hx hb hd rfl (h H locs ls cells slots hP hS hl hk1 hk2)
  | sipush n => exact lv_sipush hx hb hd rfl (h H locs ls cells slots hP hS hl hk1 hk2)
  | ldc i =>
    rcases h with ⟨v, hv, h⟩ | ⟨a, ha, h⟩
    · exact lv_ldc hx hb hown (hci i v hv) hd (h H locs ls cells slots hP hS hl hk1 hk2)
    · obtain ⟨tx, hRm⟩ := hstr i a ha
      have hR := hZ0.2.1 _ hRm
      exact va_ldcS hx hb hown hR hd (h H locs ls cells slots hP hS hl hk1 hk2)
  | ldc_w i =>
    rcases h with ⟨v, hv, h⟩ | ⟨a, ha, h⟩
    · exact lv_ldcw hx hb hown (hci i v hv) hd (h H locs ls cells slots hP hS hl hk1 hk2)
    · obtain ⟨tx, hRm⟩ := hstr i a ha
      have hR := hZ0.2.1 _ hRm
      exact pm_ldcwS hx hb hown hR hd (h H locs ls cells slots hP hS hl hk1 hk2)
  | ldc2_w i =>
    obtain ⟨v, hv, h⟩ := pm_opt_of h
    exact lv_ldc2 hx hb hown (hcl i v hv) hd (h H locs ls cells slots hP hS hl hk1 hk2)
  | iload_n i =>
    obtain ⟨v, hv, h⟩ := pm_old_of h
    obtain ⟨x, rfl, h⟩ := pm_isI_of h
    exact lv_iload_n hx hb hd rfl (pm_get_at hl hv) (h H locs ls cells slots hP hS hl hk1 hk2)
  | iload i =>
    obtain ⟨v, hv, h⟩ := pm_old_of h
    obtain ⟨x, rfl, h⟩ := pm_isI_of h
    exact lv_iload hx hb hd (pm_get_at hl hv) (h H locs ls cells slots hP hS hl hk1 hk2)
  | lload_n i =>
    obtain ⟨v, hv, h⟩ := pm_old_of h
    obtain ⟨x, rfl, h⟩ := pm_isL_of h
    exact lv_lload_n hx hb hd rfl (pm_get_at hl hv) (h H locs ls cells slots hP hS hl hk1 hk2)
  | lload i =>
    obtain ⟨v, hv, h⟩ := pm_old_of h
    obtain ⟨x, rfl, h⟩ := pm_isL_of h
    exact lv_lload hx hb hd (pm_get_at hl hv) (h H locs ls cells slots hP hS hl hk1 hk2)
  | aload_n i =>
    obtain ⟨v, hv, h⟩ := pm_old_of h
    obtain ⟨q, rfl, h⟩ := pm_isQ_of h
    cases q with
    | none => exact lv_aload_nN hx hb hd rfl (pm_get_at hl hv) (h H locs ls cells slots hP hS hl hk1 hk2)
    | some a => exact lv_aload_n hx hb hd rfl (pm_get_at hl hv) (h H locs ls cells slots hP hS hl hk1 hk2)
  | aload i =>
    obtain ⟨v, hv, h⟩ := pm_old_of h
    obtain ⟨q, rfl, h⟩ := pm_isQ_of h
    cases q with
    | none => exact lv_aloadN hx hb hd (pm_get_at hl hv) (h H locs ls cells slots hP hS hl hk1 hk2)
    | some a => exact lv_aload hx hb hd (pm_get_at hl hv) (h H locs ls cells slots hP hS hl hk1 hk2)
  | istore_n i =>
    obtain ⟨hn, h⟩ := h
    obtain ⟨x, r, rfl, h⟩ := ps_i_of h
    exact lv_istore_n hx hb hd rfl hl hn rfl (fun ls hl => h H locs ls cells slots hP hS hl hk1 hk2)
  | istore i =>
    obtain ⟨hn, h⟩ := h
    obtain ⟨x, r, rfl, h⟩ := ps_i_of h
    exact lv_istore hx hb hd hl hn rfl (fun ls hl => h H locs ls cells slots hP hS hl hk1 hk2)
  | lstore_n i =>
    obtain ⟨hn, h⟩ := h
    obtain ⟨x, r, rfl, h⟩ := ps_l_of h
    exact lv_lstore_n hx hb hd rfl hl hn rfl (fun ls hl => h H locs ls cells slots hP hS hl hk1 hk2)
  | lstore i =>
    obtain ⟨hn, h⟩ := h
    obtain ⟨x, r, rfl, h⟩ := ps_l_of h
    exact lv_lstore hx hb hd hl hn rfl (fun ls hl => h H locs ls cells slots hP hS hl hk1 hk2)
  | astore_n i =>
    obtain ⟨hn, h⟩ := h
    obtain ⟨q, r, rfl, h⟩ := ps_q_of h
    cases q with
    | none => exact lv_astore_nN hx hb hd rfl hl hn rfl (fun ls hl => h H locs ls cells slots hP hS hl hk1 hk2)
    | some a => exact lv_astore_n hx hb hd rfl hl hn rfl (fun ls hl => h H locs ls cells slots hP hS hl hk1 hk2)
  | astore i =>
    obtain ⟨hn, h⟩ := h
    obtain ⟨q, r, rfl, h⟩ := ps_q_of h
    cases q with
    | none => exact lv_astoreN hx hb hd hl hn rfl (fun ls hl => h H locs ls cells slots hP hS hl hk1 hk2)
    | some a => exact lv_astore hx hb hd hl hn rfl (fun ls hl => h H locs ls cells slots hP hS hl hk1 hk2)
  | iinc i n =>
    obtain ⟨hn, h⟩ := h
    obtain ⟨v, hv, h⟩ := pm_old_of h
    obtain ⟨x, rfl, h⟩ := pm_isI_of h
    obtain ⟨k, hk⟩ := pm_get_k hv
    exact lv_iinc hx hb hd hl hk rfl hn rfl (fun ls hl => h H locs ls cells slots hP hS hl hk1 hk2)
  | iadd => obtain ⟨x, y, r, rfl, h⟩ := ps_ii_of h; exact lv_iadd hx hb hd (h H locs ls cells slots hP hS hl hk1 hk2)
  | isub => obtain ⟨x, y, r, rfl, h⟩ := ps_ii_of h; exact lv_isub hx hb hd (h H locs ls cells slots hP hS hl hk1 hk2)
  | imul => obtain ⟨x, y, r, rfl, h⟩ := ps_ii_of h; exact lv_imul hx hb hd (h H locs ls cells slots hP hS hl hk1 hk2)
  | iand => obtain ⟨x, y, r, rfl, h⟩ := ps_ii_of h; exact lv_iand hx hb hd (h H locs ls cells slots hP hS hl hk1 hk2)
  | ior => obtain ⟨x, y, r, rfl, h⟩ := ps_ii_of h; exact lv_ior hx hb hd (h H locs ls cells slots hP hS hl hk1 hk2)
  | ixor => obtain ⟨x, y, r, rfl, h⟩ := ps_ii_of h; exact lv_ixor hx hb hd (h H locs ls cells slots hP hS hl hk1 hk2)
  | ishl => obtain ⟨x, y, r, rfl, h⟩ := ps_ii_of h; exact lv_ishl hx hb hd (h H locs ls cells slots hP hS hl hk1 hk2)
  | ishr => obtain ⟨x, y, r, rfl, h⟩ := ps_ii_of h; exact lv_ishr hx hb hd (h H locs ls cells slots hP hS hl hk1 hk2)
  | iushr => obtain ⟨x, y, r, rfl, h⟩ := ps_ii_of h; exact lv_iushr hx hb hd rfl (h H locs ls cells slots hP hS hl hk1 hk2)
  | idiv => obtain ⟨x, y, r, rfl, h0, h⟩ := ps_ii_of h; exact lv_idiv hx hb hd h0 (h H locs ls cells slots hP hS hl hk1 hk2)
  | irem => obtain ⟨x, y, r, rfl, h0, h⟩ := ps_ii_of h; exact lv_irem hx hb hd h0 (h H locs ls cells slots hP hS hl hk1 hk2)
  | ineg => obtain ⟨x, r, rfl, h⟩ := ps_i_of h; exact lv_ineg hx hb hd (h H locs ls cells slots hP hS hl hk1 hk2)
  | ladd => obtain ⟨x, y, r, rfl, h⟩ := ps_ll_of h; exact lv_ladd hx hb hd (h H locs ls cells slots hP hS hl hk1 hk2)
  | lsub => obtain ⟨x, y, r, rfl, h⟩ := ps_ll_of h; exact lv_lsub hx hb hd (h H locs ls cells slots hP hS hl hk1 hk2)
  | lmul => obtain ⟨x, y, r, rfl, h⟩ := ps_ll_of h; exact lv_lmul hx hb hd (h H locs ls cells slots hP hS hl hk1 hk2)
  | land => obtain ⟨x, y, r, rfl, h⟩ := ps_ll_of h; exact lv_land hx hb hd (h H locs ls cells slots hP hS hl hk1 hk2)
  | lor => obtain ⟨x, y, r, rfl, h⟩ := ps_ll_of h; exact lv_lor hx hb hd (h H locs ls cells slots hP hS hl hk1 hk2)
  | lxor => obtain ⟨x, y, r, rfl, h⟩ := ps_ll_of h; exact lv_lxor hx hb hd (h H locs ls cells slots hP hS hl hk1 hk2)
  | lrem => obtain ⟨x, y, r, rfl, h0, h⟩ := ps_ll_of h; exact lv_lrem hx hb hd h0 (h H locs ls cells slots hP hS hl hk1 hk2)
  | ldiv => obtain ⟨x, y, r, rfl, h0, h⟩ := ps_ll_of h; exact lv_ldiv hx hb hd h0 (h H locs ls cells slots hP hS hl hk1 hk2)
  | lshr => obtain ⟨x, y, r, rfl, h⟩ := ps_li_of h; exact lv_lshr hx hb hd rfl (h H locs ls cells slots hP hS hl hk1 hk2)
  | lcmp => obtain ⟨x, y, r, rfl, h⟩ := ps_ll_of h; exact W.lcmp hx hb hd (h H locs ls cells slots hP hS hl hk1 hk2)
  | lshl => obtain ⟨x, y, r, rfl, h⟩ := ps_li_of h; exact lv_lshl hx hb hd rfl (h H locs ls cells slots hP hS hl hk1 hk2)
  | lushr => obtain ⟨x, y, r, rfl, h⟩ := ps_li_of h; exact lv_lushr hx hb hd rfl (h H locs ls cells slots hP hS hl hk1 hk2)
  | i2l => obtain ⟨x, r, rfl, h⟩ := ps_i_of h; exact lv_i2l hx hb hd rfl (h H locs ls cells slots hP hS hl hk1 hk2)
  | l2i => obtain ⟨x, r, rfl, h⟩ := ps_l_of h; exact lv_l2i hx hb hd rfl (h H locs ls cells slots hP hS hl hk1 hk2)
  | i2b => obtain ⟨x, r, rfl, h⟩ := ps_i_of h; exact lv_i2b hx hb hd rfl (h H locs ls cells slots hP hS hl hk1 hk2)
  | i2c => obtain ⟨x, r, rfl, h⟩ := ps_i_of h; exact lv_i2c hx hb hd rfl (h H locs ls cells slots hP hS hl hk1 hk2)
  | dup => obtain ⟨v, r, rfl, h1, h⟩ := ps_v_of h; exact lv_dup hx hb hd h1 (h H locs ls cells slots hP hS hl hk1 hk2)
  | dup_x1 =>
    obtain ⟨v, r, rfl, h⟩ := ps_v_of h
    obtain ⟨w, r, rfl, h1, h2, h⟩ := ps_v_of h
    exact lv_dup_x1 hx hb hd h1 h2 (h H locs ls cells slots hP hS hl hk1 hk2)
  | dup2 =>
    obtain ⟨v, r, rfl, h⟩ := ps_v_of h
    obtain ⟨w, r, rfl, h1, h2, h⟩ := ps_v_of h
    exact lv_dup2_11 hx hb hd h1 h2 (h H locs ls cells slots hP hS hl hk1 hk2)
  | pop => obtain ⟨v, r, rfl, h1, h⟩ := ps_v_of h; exact lv_pop hx hb hd h1 (h H locs ls cells slots hP hS hl hk1 hk2)
  | goto off => exact lv_goto hx hb hd (pm_jmp h.1) (h.2 H locs ls cells slots hP hS hl hk1 hk2)
  | ifCond cd off =>
    obtain ⟨hj, h⟩ := h
    obtain ⟨x, r, rfl, ht, hf⟩ := ps_i_of h
    cases cd with
    | eq => exact lv_if_eq hx hb hd (pm_jmp hj) (fun q => ht (q) H locs ls cells slots hP hS hl hk1 hk2) (fun q => hf (q) H locs ls cells slots hP hS hl hk1 hk2)
    | ne => exact lv_if_ne hx hb hd (pm_jmp hj) (fun q => ht (q) H locs ls cells slots hP hS hl hk1 hk2) (fun q => hf (fun z => z q) H locs ls cells slots hP hS hl hk1 hk2)
    | lt => exact lv_if_lt hx hb hd (pm_jmp hj) (fun q => ht (q) H locs ls cells slots hP hS hl hk1 hk2) (fun q => hf (q) H locs ls cells slots hP hS hl hk1 hk2)
    | ge => exact lv_if_ge hx hb hd (pm_jmp hj) (fun q => ht (q) H locs ls cells slots hP hS hl hk1 hk2) (fun q => hf (q) H locs ls cells slots hP hS hl hk1 hk2)
    | gt => exact lv_if_gt hx hb hd (pm_jmp hj) (fun q => ht (q) H locs ls cells slots hP hS hl hk1 hk2) (fun q => hf (q) H locs ls cells slots hP hS hl hk1 hk2)
    | le => exact lv_if_le hx hb hd (pm_jmp hj) (fun q => ht (q) H locs ls cells slots hP hS hl hk1 hk2) (fun q => hf (q) H locs ls cells slots hP hS hl hk1 hk2)
  | if_icmp cd off =>
    obtain ⟨hj, h⟩ := h
    obtain ⟨x, y, r, rfl, ht, hf⟩ := ps_ii_of h
    cases cd with
    | eq => exact lv_icmp_eq hx hb hd (pm_jmp hj) (fun q => ht (q) H locs ls cells slots hP hS hl hk1 hk2) (fun q => hf (q) H locs ls cells slots hP hS hl hk1 hk2)
    | ne => exact lv_icmp_ne hx hb hd (pm_jmp hj) (fun q => ht (q) H locs ls cells slots hP hS hl hk1 hk2) (fun q => hf (fun z => z q) H locs ls cells slots hP hS hl hk1 hk2)
    | lt => exact lv_icmp_lt hx hb hd (pm_jmp hj) (fun q => ht (q) H locs ls cells slots hP hS hl hk1 hk2) (fun q => hf (q) H locs ls cells slots hP hS hl hk1 hk2)
    | ge => exact lv_icmp_ge hx hb hd (pm_jmp hj) (fun q => ht (q) H locs ls cells slots hP hS hl hk1 hk2) (fun q => hf (q) H locs ls cells slots hP hS hl hk1 hk2)
    | gt => exact lv_icmp_gt hx hb hd (pm_jmp hj) (fun q => ht (q) H locs ls cells slots hP hS hl hk1 hk2) (fun q => hf (q) H locs ls cells slots hP hS hl hk1 hk2)
    | le => exact lv_icmp_le hx hb hd (pm_jmp hj) (fun q => ht (q) H locs ls cells slots hP hS hl hk1 hk2) (fun q => hf (q) H locs ls cells slots hP hS hl hk1 hk2)
  | if_acmp cd off =>
    obtain ⟨hj, h⟩ := h
    obtain ⟨y, r1, hst, h1⟩ := ps_q_of h
    subst hst
    obtain ⟨x, r, hr1, ht, hf⟩ := ps_q_of h1
    subst hr1
    cases cd with
    | eq => exact lv_acmp_eq hx hb hd (pm_jmp hj) (fun q => ht (⟨fun _ => q, fun _ => rfl⟩) H locs ls cells slots hP hS hl hk1 hk2) (fun q => hf (fun z => q (z.mp rfl)) H locs ls cells slots hP hS hl hk1 hk2)
    | ne => exact lv_acmp_ne hx hb hd (pm_jmp hj) (fun q => ht ⟨(fun z => by cases z), fun z => (q z).elim⟩ H locs ls cells slots hP hS hl hk1 hk2) (fun q => hf (fun z => by cases z.mpr q) H locs ls cells slots hP hS hl hk1 hk2)
  | ifnull off =>
    obtain ⟨hj, h⟩ := h
    obtain ⟨q, r, rfl, ht, hf⟩ := ps_q_of h
    cases q with
    | none => exact lv_ifnullN hx hb hd (pm_jmp hj) (ht (rfl) H locs ls cells slots hP hS hl hk1 hk2)
    | some a => exact lv_ifnull hx hb hd (hf ((fun z => by cases z)) H locs ls cells slots hP hS hl hk1 hk2)
  | ifnonnull off =>
    obtain ⟨hj, h⟩ := h
    obtain ⟨q, r, rfl, ht, hf⟩ := ps_q_of h
    cases q with
    | none => exact lv_ifnonnullN hx hb hd (hf (rfl) H locs ls cells slots hP hS hl hk1 hk2)
    | some a => exact lv_ifnonnull hx hb hd (pm_jmp hj) (ht ((fun z => by cases z)) H locs ls cells slots hP hS hl hk1 hk2)
  | tableswitch d lo hg offs =>
    obtain ⟨x, r, rfl, ho, hin⟩ := ps_i_of h
    by_cases h1 : x.toInt < lo
    · obtain ⟨hj, h⟩ := ho (Or.inl h1)
      exact lv_tableOut hx hb hd (Or.inl h1) (pm_jmp hj) (h H locs ls cells slots hP hS hl hk1 hk2)
    · by_cases h2 : hg < x.toInt
      · obtain ⟨hj, h⟩ := ho (Or.inr h2)
        exact lv_tableOut hx hb hd (Or.inr h2) (pm_jmp hj) (h H locs ls cells slots hP hS hl hk1 hk2)
      · obtain ⟨off, hoff, hj, h⟩ := pm_opt_of (hin h1 h2)
        exact lv_tableIn hx hb hd h1 h2 hoff (pm_jmp hj) (h H locs ls cells slots hP hS hl hk1 hk2)
  | getfield i =>
    obtain ⟨f, hf, h⟩ := pm_opt_of h
    obtain ⟨a, r, rfl, h⟩ := ps_r_of h
    obtain ⟨fs, hM, h⟩ := pm_ob_of h
    obtain ⟨v, hv, h⟩ := pm_opt_of h
    obtain ⟨C, T, N, ty, Ts, g1, g2, g3, g4, g5, g6, g7, g8, -⟩ := hfld i f hf
    obtain ⟨tys, hK, hP1⟩ := hP.ob hM
    rcases g8 with g8 | ⟨host, g8⟩
    · exact va_get hx hb g3 g4 hown hK hP1 0 rfl g1 f.2.1 g2 g8 (fun _ z => z) hv hd (h H locs ls cells slots hP hS hl hk1 hk2)
    · exact va_getN hx hb g3 g4 hown hK hP1 0 rfl g1 f.2.1 g2 g8 (fun _ z => z) hv hd (h H locs ls cells slots hP hS hl hk1 hk2)
  | putfield i =>
    obtain ⟨f, hf, h⟩ := pm_opt_of h
    obtain ⟨v, r, rfl, h⟩ := ps_v_of h
    obtain ⟨a, r, rfl, h⟩ := ps_r_of h
    obtain ⟨fs, hM, hba, hlen, hn, hfit, hw, h⟩ := pm_ob_of h
    obtain ⟨C, T, N, ty, Ts, g1, g2, g3, g4, g5, g6, g7, g8, g9⟩ := hfld i f hf
    obtain ⟨ws, tys, k, hK, hPw, hD, hk, hq⟩ := hP.atO hM hba
    have fin : ∀ (H1 : Heap) (locs1 : List Loc), va_P D cl (ws.set k (a, .inr (f.1, fs.set f.2.1 v))) H1 → va_D (fun q => base ≤ q) (ws.set k (a, .inr (f.1, fs.set f.2.1 v))) → va_S (fun q => base ≤ q) s.heap H1 locs1 → W p l e R s m args below meth c H1 locs1 cells slots Q (F0 m (pc + 3) ls r) := fun H1 locs1 hP1 hD1 hS1 => h H1 locs1 ls cells slots (pm_P.set hK hq hk hba pm_rel_o hD1 hP1 (pm_low hbs hS hS1)) hS1 hl hk1 hk2
    have g7' : parseFieldDescriptor (T f.2.1).2.2.1 = some f.2.2.1 := by rw [g5 _ g2, g7]
    rcases g9 hw with g9 | ⟨g9, g10, g11, g12⟩
    · rcases g8 with g8 | ⟨host, g8⟩
      · exact va_put hx hb g3 g4 ty g5 g6 hown hK hPw hD hS k hk g1 f.2.1 g2 g8 (fun _ z => z) g9 g7' hn hfit hlen hd fin
      · exact va_putN hx hb g3 g4 ty g5 g6 hown hK hPw hD hS k hk g1 f.2.1 g2 g8 (fun _ z => z) g9 g7' hn hfit hlen hd fin
    · exact va_putF hx hb g3 g4 ty g5 g6 hown hK hPw hD hS k hk g1 f.2.1 g2 g12 (fun _ z => z) g9 g10 g11 g7' hn hfit hlen hd fin
  | getstatic i =>
    obtain ⟨v, hv, h⟩ := pm_opt_of h
    obtain ⟨C, nm, ds, hZm, g8⟩ := hsta i v hv
    have hZ := hZ0.1 _ hZm
    rcases g8 with g8 | ⟨host, g8⟩
    · exact va_gets hx hb hZ hS hown g8 (fun _ z => z) hd (h H locs ls cells slots hP hS hl hk1 hk2)
    · exact va_getsN hx hb hZ hS hown g8 (fun _ z => z) hd (h H locs ls cells slots hP hS hl hk1 hk2)
  | arraylength =>
    obtain ⟨a, r, rfl, h⟩ := ps_r_of h
    obtain ⟨ty, N, x, hM, h⟩ := pm_al_len h
    exact pm_rdn hx hb hP hM hd (h H locs ls cells slots hP hS hl hk1 hk2)
  | iaload =>
    obtain ⟨i, r, rfl, h⟩ := ps_i_of h
    obtain ⟨a, r, rfl, h⟩ := ps_r_of h
    obtain ⟨ty, n, f, hM, hty, hin, h⟩ := pm_ai_of h
    cases ty with
    | int => exact pm_rdi hx hb hP hM hin hd (h H locs ls cells slots hP hS hl hk1 hk2)
    | _ => cases hty
  | baload =>
    obtain ⟨i, r, rfl, h⟩ := ps_i_of h
    obtain ⟨a, r, rfl, h⟩ := ps_r_of h
    obtain ⟨ty, n, f, hM, hty, hin, h⟩ := pm_ai_of h
    cases ty with
    | byte => exact pm_rdb hx hb hP hM hin hd (h H locs ls cells slots hP hS hl hk1 hk2)
    | boolean => exact pm_rdz hx hb hP hM hin hd (h H locs ls cells slots hP hS hl hk1 hk2)
    | _ => cases hty
  | caload =>
    obtain ⟨i, r, rfl, h⟩ := ps_i_of h
    obtain ⟨a, r, rfl, h⟩ := ps_r_of h
    obtain ⟨ty, N, f, hM, hty, hin, h⟩ := pm_ai_of h
    cases ty with
    | char => exact pm_rdc hx hb hP hM hin hd (h H locs ls cells slots hP hS hl hk1 hk2)
    | _ => cases hty
  | laload =>
    obtain ⟨i, r, rfl, h⟩ := ps_i_of h
    obtain ⟨a, r, rfl, h⟩ := ps_r_of h
    obtain ⟨N, f, hM, hin, h⟩ := pm_al_of h
    obtain ⟨ws, tys, k, t, cA, hK, hPw, hD, hk, ht, hq⟩ := hP.wl hM
    exact va_lald hx hb hK hPw k t hk ht hin hd (h H locs ls cells slots hP hS hl hk1 hk2)
  | aaload =>
    obtain ⟨i, r, rfl, h⟩ := ps_i_of h
    obtain ⟨a, r, rfl, h⟩ := ps_r_of h
    obtain ⟨C, N, f, hM, hin, h⟩ := pm_aq_of h
    obtain ⟨ws, tys, k, t, cA, hK, hPw, hD, hk, ht, hq⟩ := hP.wl hM
    exact va_aldq hx hb hK hPw k t hk ht hin hd (h H locs ls cells slots hP hS hl hk1 hk2)
  | iastore =>
    obtain ⟨i, x, r, rfl, h⟩ := ps_ii_of h
    obtain ⟨a, r, rfl, h⟩ := ps_r_of h
    obtain ⟨ty, N, f, hM, hty, hba, hin, h⟩ := pm_ai_of h
    obtain ⟨ws, tys, k, t, cA, hK, hPw, hD, hk, ht, hq⟩ := hP.at hM hba
    cases ty with
    | int => exact va_iast hx hb hK hPw hD hS k t hk ht hin hd (fun H1 locs1 hP1 hD1 hS1 => h H1 locs1 ls cells slots (pm_P.set hK hq hk hba (pm_rel_a ht) hD1 hP1 (pm_low hbs hS hS1)) hS1 hl hk1 hk2)
    | _ => cases hty
  | bastore =>
    obtain ⟨i, x, r, rfl, h⟩ := ps_ii_of h
    obtain ⟨a, r, rfl, h⟩ := ps_r_of h
    obtain ⟨ty, N, f, hM, hty, hba, hin, h⟩ := pm_ai_of h
    obtain ⟨ws, tys, k, t, cA, hK, hPw, hD, hk, ht, hq⟩ := hP.at hM hba
    cases ty with
    | byte => exact va_bast hx hb hK hPw hD hS k t hk ht hin hd (fun H1 locs1 hP1 hD1 hS1 => h H1 locs1 ls cells slots (pm_P.set hK hq hk hba (pm_rel_a ht) hD1 hP1 (pm_low hbs hS hS1)) hS1 hl hk1 hk2)
    | boolean => exact va_zast hx hb hK hPw hD hS k t hk ht hin hd (fun H1 locs1 hP1 hD1 hS1 => h H1 locs1 ls cells slots (pm_P.set hK hq hk hba (pm_rel_a ht) hD1 hP1 (pm_low hbs hS hS1)) hS1 hl hk1 hk2)
    | _ => cases hty
  | castore =>
    obtain ⟨i, x, r, rfl, h⟩ := ps_ii_of h
    obtain ⟨a, r, rfl, h⟩ := ps_r_of h
    obtain ⟨ty, N, f, hM, hty, hba, hin, h⟩ := pm_ai_of h
    obtain ⟨ws, tys, k, t, cA, hK, hPw, hD, hk, ht, hq⟩ := hP.at hM hba
    cases ty with
    | char => exact va_cast hx hb hK hPw hD hS k t hk ht hin hd (fun H1 locs1 hP1 hD1 hS1 => h H1 locs1 ls cells slots (pm_P.set hK hq hk hba (pm_rel_a ht) hD1 hP1 (pm_low hbs hS hS1)) hS1 hl hk1 hk2)
    | _ => cases hty
  | lastore =>
    obtain ⟨x, r, rfl, h⟩ := ps_l_of h
    obtain ⟨i, r, rfl, h⟩ := ps_i_of h
    obtain ⟨a, r, rfl, h⟩ := ps_r_of h
    obtain ⟨N, f, hM, hba, hin, h⟩ := pm_al_of h
    obtain ⟨ws, tys, k, t, cA, hK, hPw, hD, hk, ht, hq⟩ := hP.at hM hba
    exact va_last hx hb hK hPw hD hS k t hk ht hin hd (fun H1 locs1 hP1 hD1 hS1 => h H1 locs1 ls cells slots (pm_P.set hK hq hk hba (pm_rel_a ht) hD1 hP1 (pm_low hbs hS hS1)) hS1 hl hk1 hk2)
  | aastore =>
    unfold pm_ins at h
    dsimp only at h
    obtain ⟨q, r1, hst, h1⟩ := ps_q_of h
    subst hst
    obtain ⟨i, r2, hr1, h2⟩ := ps_i_of (st := r1) h1
    subst hr1
    obtain ⟨a, r, hr2, h3⟩ := ps_r_of (st := r2) h2
    subst hr2
    clear h
    obtain ⟨C, N, f, hM, hba, hin, hv, h⟩ := pm_aq_of h3
    obtain ⟨ws, tys, k, t, cA, hK, hPw, hD, hk, ht, hq⟩ := hP.at hM hba
    cases q with
    | none => exact va_astqN hx hb hK hPw hD hS k t hk ht hin hd (fun H1 locs1 hP1 hD1 hS1 => h H1 locs1 ls cells slots (pm_P.set hK hq hk hba (pm_rel_a ht) hD1 hP1 (pm_low hbs hS hS1)) hS1 hl hk1 hk2)
    | some b =>
      obtain ⟨hbb, ci, w, fs, hMb, hw, rfl⟩ := hv b rfl
      rcases hq b _ hMb with ⟨-, kb, vb, hkb, hvb⟩ | ⟨z, -⟩
      · cases vb with
        | inl y => exact hvb.elim
        | inr o =>
          have eo : (ci, fs) = o := hvb
          subst eo
          exact va_astq hx hb hK hPw hD hS k t kb ci hk ht hkb hw hin hd (fun H1 locs1 hP1 hD1 hS1 => h H1 locs1 ls cells slots (pm_P.set hK hq hk hba (pm_rel_a ht) hD1 hP1 (pm_low hbs hS hS1)) hS1 hl hk1 hk2)
      · omega
  | new i =>
    obtain ⟨o, ho, g1, g2, h⟩ := pm_opt_of h
    obtain ⟨C, T, ty, Ts, f1, f2, f3, f4, f5, f6, f7, f8⟩ := hmk i o ho
    obtain ⟨ws, tys, hK, hPw, hD, hq⟩ := hP
    refine va_new hx hb f2 f3 ty f4 hown f5 f6 f7 hK hPw hD hS hA f1 f8 (by omega) (by omega) hd (fun q H1 hP1 hD1 hS1 => ?_)
    obtain ⟨n1, n2, hP2⟩ := pm_P.push (t2 := []) (e := .inr o) (by rw [List.append_nil]; exact hK) hq pm_rel_o hD1 hP1 (pm_low hbs hS hS1)
    exact (h q n1 n2) H1 locs ls _ _ hP2 hS1 hl (by omega) (by omega)
  | newarray t =>
    obtain ⟨gt, h⟩ := h
    obtain ⟨N, r, rfl, g0, g1, g2, g3, h⟩ := ps_i_of h
    obtain ⟨ws, tys, hK, hPw, hD, hq⟩ := hP
    refine va_newa (ty := newarray.typeOf t) (a0 := (N.toNatClampNeg, pm_zero t)) hx hb (hnar t gt) rfl hK hPw hD hS hA (fun cA => by cases t <;> rfl) g0 rfl (pm_bytes t g1) (by omega) (by omega) hd (fun q cA H1 hK1 hP1 hD1 hS1 => ?_)
    obtain ⟨n1, n2, hP2⟩ := pm_P.push (t2 := [(cA, newarray.typeOf t)]) (e := .inl (newarray.typeOf t, N.toNatClampNeg, pm_zero t)) hK1 hq (pm_rel_a (t := tys.length) (by simp)) hD1 hP1 (pm_low hbs hS hS1)
    exact (h q n1 n2) H1 locs ls _ _ hP2 hS1 hl (by omega) (by omega)
  | anewarray i =>
    obtain ⟨C, hC, h⟩ := pm_opt_of h
    obtain ⟨N, r, rfl, g0, g1, g2, g3, h⟩ := ps_i_of h
    obtain ⟨a1, a2⟩ := harr i C hC
    obtain ⟨ws, tys, hK, hPw, hD, hq⟩ := hP
    refine va_newq hx hb hown a1 a2 hK hPw hD hS hA g0 rfl (by omega) (by omega) (by omega) hd (fun q cA H1 hK1 hP1 hD1 hS1 => ?_)
    obtain ⟨n1, n2, hP2⟩ := pm_P.push (t2 := [(cA, .object C)]) (e := .inl (.object C, N.toNatClampNeg, .inr (.inr (.inr (.inr fun _ => none))))) hK1 hq (pm_rel_a (t := tys.length) (by simp)) hD1 hP1 (pm_low hbs hS hS1)
    exact (h q n1 n2) H1 locs ls _ _ hP2 hS1 hl (by omega) (by omega)
  | invokevirtual i =>
    obtain ⟨⟨yk, yn, yT⟩, hy, rfl, g1, g2, mc', ms', g3, g4, h⟩ := pm_opt_of h
    have hr := hcal i _ hy Q pc ls (st.take yn).reverse (st.drop yn) M mc' ms' cells slots _ H locs hd (by rw [List.length_reverse, List.length_take]; exact Nat.min_eq_left g1) g2 hl.1 (by omega) (by omega) hP hS h (fun v M1 H1 locs1 hRt hP1 hS1 => hRt H1 locs1 ls _ _ hP1 hS1 hl (by omega) (by omega))
    rw [List.reverse_reverse, List.take_append_drop] at hr
    exact hr
  | invokespecial i =>
    obtain ⟨⟨yk, yn, yT⟩, hy, rfl, g1, g2, mc', ms', g3, g4, h⟩ := pm_opt_of h
    have hr := hcal i _ hy Q pc ls (st.take yn).reverse (st.drop yn) M mc' ms' cells slots _ H locs hd (by rw [List.length_reverse, List.length_take]; exact Nat.min_eq_left g1) g2 hl.1 (by omega) (by omega) hP hS h (fun v M1 H1 locs1 hRt hP1 hS1 => hRt H1 locs1 ls _ _ hP1 hS1 hl (by omega) (by omega))
    rw [List.reverse_reverse, List.take_append_drop] at hr
    exact hr
  | invokestatic i =>
    obtain ⟨⟨yk, yn, yT⟩, hy, rfl, g1, g2, mc', ms', g3, g4, h⟩ := pm_opt_of h
    have hr := hcal i _ hy Q pc ls (st.take yn).reverse (st.drop yn) M mc' ms' cells slots _ H locs hd (by rw [List.length_reverse, List.length_take]; exact Nat.min_eq_left g1) g2 hl.1 (by omega) (by omega) hP hS h (fun v M1 H1 locs1 hRt hP1 hS1 => hRt H1 locs1 ls _ _ hP1 hS1 hl (by omega) (by omega))
    rw [List.reverse_reverse, List.take_append_drop] at hr
    exact hr
  | ireturn =>
    obtain ⟨x, ty, rfl, g1, g2, h⟩ := h
    exact hret _ _ _ pc M H locs ls cells slots hd (Or.inl ⟨x, ty, rfl, rfl, rfl, g1, g2⟩) h hP hS (by omega) (by omega)
  | lreturn =>
    obtain ⟨x, rfl, g1, h⟩ := h
    exact hret _ _ _ pc M H locs ls cells slots hd (Or.inr (Or.inl ⟨x, rfl, rfl, rfl, g1⟩)) h hP hS (by omega) (by omega)
  | areturn =>
    obtain ⟨q, ty, rfl, g1, g2, h⟩ := h
    exact hret _ _ _ pc M H locs ls cells slots hd (Or.inr (Or.inr (Or.inl ⟨q, ty, rfl, rfl, rfl, g1, g2⟩))) h hP hS (by omega) (by omega)
  | return_ =>
    obtain ⟨rfl, g1, h⟩ := h
    exact hret _ _ _ pc M H locs ls cells slots hd (Or.inr (Or.inr (Or.inr ⟨rfl, rfl, rfl, g1⟩))) h hP hS (by omega) (by omega)
  | _ => exact False.elim h
end Main
end
section
section Mets
variable {l : Launch} {D : va_G} {cl : List vw_C} {base : Nat} {Z : pmZ}
/-- a body's contract out of its walk over pictures -/
abbrev pm_Met (l : Launch) (D : va_G) (cl : List vw_C) (base : Nat) (Z : pmZ) (y : MethodName) (ws : List Cond) (fr lo : Nat) (T : pmT) : Prop := ∀ (As : List Value) (M : pmM) (mc ms : Nat) (Rt : Option Value → pmM → Prop), T As M mc ms Rt → Met l y ws { frames := fr, cells := mc, slots := ms, locals := lo } (va_Pc As (fun U => base ≤ U.heap.size ∧ pm_P D cl base M U U.heap ∧ pm_Z base Z U U.heap)) (fun _ => pm_Qc D cl base Rt) mc ms (fun q => base ≤ q)
set_option maxHeartbeats 4000000 in
theorem pm_met {y : MethodName} {ws ws' : List Cond} {cc : ByteArray} {ret : Option FieldType} {fr lo : Nat} {X : pmX} (hy : plainName y.cls = true) (hw : ws = Cond.code y cc X.nL ret :: ws') (hX : X.ret = ret)
    (hok : ∀ (mc ms : Nat) (p : Program) (e : Env) (s : State) (m : MethodId) (args : Array Value) (below : List Frame) (meth : Method) (c : Code), p.tables.exec = Jvm.exec → c.code = cc → c.maxLocals = X.nL → s.vm.findClass y.cls = some m.cls → meth.name = y.name → (∀ w ∈ ws, w.before args s = true) → base ≤ s.heap.size → pm_Z base Z s s.heap → pm_ok D cl base Z p l e { frames := fr, cells := mc, slots := ms, locals := lo } s m args below meth c y.cls cc X) :
    pm_Met l D cl base Z y ws fr lo (pm_mt cl base X) := by
  intro As M mc ms Rt hT
  obtain ⟨hlen, h⟩ := hT
  refine Met.ofW (cc := cc) (maxL := X.nL) (ret := ret) hy hw ?_
  intro p e s m args below meth c s₁ B hml hv
  obtain ⟨rfl, hbs, hP, hZ⟩ := hv
  have hx := B.exec
  have hb := B.bytes
  have hr := B.returns
  have hts := atoms_spec (ws := ws) B.pre
  have hown : s.vm.findClass y.cls = some m.cls := findClass_of_methodNamed B.named
  have hlocks := B.notSynchronized
  have hnm : meth.name = y.name := (name_of_methodNamed B.named B.method).1
  have C0 := hok mc ms p e s m As.toArray below meth c hx hb hml hown hnm hts hbs hZ
  have hl := lv_entry As (n := X.nL) hlen
  rw [lg_entry_eq]
  refine h _ (pm_sound (Q := MQ below (fun _ => pm_Qc D cl base Rt) As.toArray s mc ms (fun q => base ≤ q)) (mc := mc) (ms := ms) C0 (Nat.le_refl _) (Nat.le_refl _) ?_) s.heap [] _ 0 0 hP va_S.rf hl (by omega) (by omega)
  intro ins v st pc M H locs ls cells slots hdg hcase hRt hP hS hc hs
  have hq : ∀ t : State, t.heap = H → s.WarmedH t.vm → pm_Qc D cl base Rt s (.returned v) t := fun t ht hW => ⟨v, M, rfl, hRt, by rw [ht]; exact hP.moved hW.alike, by rw [ht]; exact hS.1, fun q h1 h2 => by rw [ht]; exact hS.2.1 q h1 h2⟩
  refine W.widen hc hs ?_
  rcases hcase with ⟨x, ty, rfl, rfl, rfl, g1, g2⟩ | ⟨x, rfl, rfl, rfl, g1⟩ | ⟨q, ty, rfl, rfl, rfl, g1, g2⟩ | ⟨rfl, rfl, rfl, g1⟩
  · exact W.zret hx hb (hr.trans (hX ▸ g1)) g2 hq hS.2.2 hdg
  · exact W.lret hx hb (hr.trans (hX ▸ g1)) hq hS.2.2 hdg
  · exact W.aret hx hb (hr.trans (hX ▸ g1)) (by cases ty <;> first | exact Or.inl ⟨_, rfl⟩ | exact Or.inr ⟨_, rfl⟩ | cases g2) (by cases q <;> first | exact Or.inl rfl | exact Or.inr ⟨_, rfl⟩) hq hS.2.2 hdg
  · exact W.vret hx hb (hr.trans (hX ▸ g1)) hq hS.2.2 hdg
end Mets
section Calls2
variable {p : Program} {l : Launch} {e : Env} {R : Room} {s : State} {m : MethodId} {args : Array Value} {below : List Frame} {meth : Method} {c : Code} {cc : ByteArray} {D : va_G} {cl : List vw_C} {base : Nat} {Z : pmZ} {own : String} {Ts ws : List Cond} {y : MethodName} {bytes : ByteArray} {maxL nL fr lo n i : Nat} {ret : Option FieldType} {T : pmT}
/-- the receiver is there, of its kind -/
def pm_rcv (ci : Nat) (T : pmT) : pmT := fun As M mc ms Rt => ∃ (b : Nat) (As' : List Value) (fs : List Value), As = .ref b :: As' ∧ M b = some (.inr (ci, fs)) ∧ T As M mc ms Rt
theorem pm_pre {As : List Value} {M : pmM} {H : Heap} {locs : List Loc} (hP : pm_P D cl base M s H) (hbs : base ≤ s.heap.size) (hZ : pm_Z base Z s s.heap) (hS : va_S (fun q => base ≤ q) s.heap H locs) : FrameBlind (va_Pc As (fun U => base ≤ U.heap.size ∧ pm_P D cl base M U U.heap ∧ pm_Z base Z U U.heap)) ∧ ∀ U : State, U.heap = H → s.WarmedH U.vm → va_Pc As (fun U => base ≤ U.heap.size ∧ pm_P D cl base M U U.heap ∧ pm_Z base Z U U.heap) As.toArray U := by
  refine ⟨fun a U g mk q => ?_, fun U hU hW => ⟨rfl, ?_, ?_, hZ.warm hS hU hW⟩⟩
  · obtain ⟨q0, q1, q2, q3⟩ := q
    exact ⟨q0, q1, pm_P.moved (u := U) (U := U.calling g mk a) (Vm.Alike.refl U.vm) q2, pm_Z.called q3 rfl rfl⟩
  · rw [hU]
    exact Nat.le_trans hbs hS.1
  · rw [hU]
    exact hP.moved hW.alike
theorem pm_cokV (hbs : base ≤ s.heap.size) (hZ : pm_Z base Z s s.heap) (S : CallFix p m c cc nL s args Ts own) {C : String} (hM : pm_Met l D cl base Z y ws fr lo T) (cw : ∀ mc ms, CallW R s args own C i y bytes maxL ret ws { frames := fr, cells := mc, slots := ms, locals := lo } mc ms n) {ci N : Nat} {F : u_T} (hc : cl[ci]? = some (C, F, N)) : pm_cok D cl base p l e R s m args below meth c nL cc i (0, n + 1, pm_rcv ci T) := by
  intro Q pc ls As rest M mc ms cells slots Rt H locs hdg hn hw hls hk1 hk2 hP hS hT kk
  obtain ⟨b, As', fs, rfl, hMb, hT⟩ := hT
  obtain ⟨tys, hK, hP1⟩ := hP.ob hMb
  have hp := pm_pre (As := .ref b :: As') hP hbs hZ hS
  refine pm_call (Q := Q) ?_ hS kk
  rw [List.reverse_cons, List.append_assoc]
  exact va_runV (g := F0 m pc ls _) S (hM _ _ mc ms Rt hT) (cw mc ms) ⟨hp.1, va_recv hK hP1 hc (q0 := 0) rfl, hp.2⟩ rfl (by simpa using hn) hls rfl (lv_room hw) hdg ⟨hk1, hk2⟩
theorem pm_cokVN (hbs : base ≤ s.heap.size) (hZ : pm_Z base Z s s.heap) (S : CallFix p m c cc nL s args Ts own) {C host : String} (hM : pm_Met l D cl base Z y ws fr lo T) (cw : ∀ mc ms, va_CN R s args own i y host bytes maxL ret ws { frames := fr, cells := mc, slots := ms, locals := lo } mc ms n ∧ (Cond.instanceMethod y).before args s = true ∧ (Cond.selects C y y).before args s = true) {ci N : Nat} {F : u_T} (hc : cl[ci]? = some (C, F, N)) : pm_cok D cl base p l e R s m args below meth c nL cc i (0, n + 1, pm_rcv ci T) := by
  intro Q pc ls As rest M mc ms cells slots Rt H locs hdg hn hw hls hk1 hk2 hP hS hT kk
  obtain ⟨b, As', fs, rfl, hMb, hT⟩ := hT
  obtain ⟨tys, hK, hP1⟩ := hP.ob hMb
  have hp := pm_pre (As := .ref b :: As') hP hbs hZ hS
  refine pm_call (Q := Q) ?_ hS kk
  rw [List.reverse_cons, List.append_assoc]
  exact va_runVN (g := F0 m pc ls _) S (hM _ _ mc ms Rt hT) (cw mc ms) ⟨hp.1, va_recv hK hP1 hc (q0 := 0) rfl, hp.2⟩ rfl (by simpa using hn) hls rfl (lv_room hw) hdg ⟨hk1, hk2⟩
theorem pm_cokI (hbs : base ≤ s.heap.size) (hZ : pm_Z base Z s s.heap) (S : CallFix p m c cc nL s args Ts own) (hM : pm_Met l D cl base Z y ws fr lo T) (cw : ∀ mc ms, CallB R s args own i y bytes maxL none ws { frames := fr, cells := mc, slots := ms, locals := lo } mc ms n ∧ y.name = "<init>" ∧ (Cond.instanceMethod y).before args s = true) {ci : Nat} : pm_cok D cl base p l e R s m args below meth c nL cc i (1, n + 1, pm_rcv ci T) := by
  intro Q pc ls As rest M mc ms cells slots Rt H locs hdg hn hw hls hk1 hk2 hP hS hT kk
  obtain ⟨b, As', fs, rfl, hMb, hT⟩ := hT
  have hp := pm_pre (As := .ref b :: As') hP hbs hZ hS
  refine pm_call (Q := Q) ?_ hS kk
  rw [List.reverse_cons, List.append_assoc]
  exact va_runI (g := F0 m pc ls _) S (hM _ _ mc ms Rt hT) (cw mc ms) hp rfl (by simpa using hn) hls rfl (lv_room hw) hdg ⟨hk1, hk2⟩
theorem pm_cokIN (hbs : base ≤ s.heap.size) (hZ : pm_Z base Z s s.heap) (S : CallFix p m c cc nL s args Ts own) {host : String} (hM : pm_Met l D cl base Z y ws fr lo T) (cw : ∀ mc ms, va_CN R s args own i y host bytes maxL none ws { frames := fr, cells := mc, slots := ms, locals := lo } mc ms n ∧ y.name = "<init>" ∧ (Cond.instanceMethod y).before args s = true) {ci : Nat} : pm_cok D cl base p l e R s m args below meth c nL cc i (1, n + 1, pm_rcv ci T) := by
  intro Q pc ls As rest M mc ms cells slots Rt H locs hdg hn hw hls hk1 hk2 hP hS hT kk
  obtain ⟨b, As', fs, rfl, hMb, hT⟩ := hT
  have hp := pm_pre (As := .ref b :: As') hP hbs hZ hS
  refine pm_call (Q := Q) ?_ hS kk
  rw [List.reverse_cons, List.append_assoc]
  exact va_runIN (g := F0 m pc ls _) S (hM _ _ mc ms Rt hT) (cw mc ms) hp rfl (by simpa using hn) hls rfl (lv_room hw) hdg ⟨hk1, hk2⟩
theorem pm_cokS (hbs : base ≤ s.heap.size) (hZ : pm_Z base Z s s.heap) (S : CallFix p m c cc nL s args Ts own) (hM : pm_Met l D cl base Z y ws fr lo T) (cw : ∀ mc ms, CallB R s args own i y bytes maxL ret ws { frames := fr, cells := mc, slots := ms, locals := lo } mc ms n ∧ (Cond.static y).before args s = true) : pm_cok D cl base p l e R s m args below meth c nL cc i (2, n, T) := by
  intro Q pc ls As rest M mc ms cells slots Rt H locs hdg hn hw hls hk1 hk2 hP hS hT kk
  have hp := pm_pre (As := As) hP hbs hZ hS
  refine pm_call (Q := Q) ?_ hS kk
  exact va_runS (g := F0 m pc ls _) S (hM _ _ mc ms Rt hT) (cw mc ms) hp rfl hn hls rfl (lv_room hw) hdg ⟨hk1, hk2⟩
theorem pm_cokSN (hbs : base ≤ s.heap.size) (hZ : pm_Z base Z s s.heap) (S : CallFix p m c cc nL s args Ts own) {host : String} (hM : pm_Met l D cl base Z y ws fr lo T) (cw : ∀ mc ms, va_CN R s args own i y host bytes maxL ret ws { frames := fr, cells := mc, slots := ms, locals := lo } mc ms n ∧ (Cond.static y).before args s = true ∧ True) : pm_cok D cl base p l e R s m args below meth c nL cc i (2, n, T) := by
  intro Q pc ls As rest M mc ms cells slots Rt H locs hdg hn hw hls hk1 hk2 hP hS hT kk
  have hp := pm_pre (As := As) hP hbs hZ hS
  refine pm_call (Q := Q) ?_ hS kk
  exact va_runSN (g := F0 m pc ls _) S (hM _ _ mc ms Rt hT) (cw mc ms) hp rfl hn hls rfl (lv_room hw) hdg ⟨hk1, hk2⟩
/-- Object's own start: nothing -/
def pm_oi : pmT := fun As M _ _ Rt => ∃ b : Nat, As = [.ref b] ∧ Rt none M
theorem pm_cokO (hx : p.tables.exec = Jvm.exec) (hb : c.code = cc) (hml : c.maxLocals = nL) (hown : s.vm.findClass own = some m.cls) (hlink : (Cond.methodLink own i Lib.objectInit).before args s = true) (hinst : (Cond.instanceMethod Lib.objectInit).before args s = true) (hcode : (Cond.code Lib.objectInit ⟨#[0xb1]⟩ 1 none).before args s = true) (hf : 1 ≤ R.frames) (hlo : 20 ≤ R.locals) : pm_cok D cl base p l e R s m args below meth c nL cc i (1, 1, pm_oi) := by
  intro Q pc ls As rest M mc ms cells slots Rt H locs hdg hn hw hls hk1 hk2 hP hS hT kk
  obtain ⟨b, rfl, hT⟩ := hT
  have hr : 2 * (F0 m pc ls (.ref b :: rest)).monitorRoom + (rest.map fun v => v.category).sum ≤ 8 := lv_room hw
  exact W.objInit hx hb hown hlink hinst hcode (g := F0 m pc ls (.ref b :: rest)) rfl (by rw [hml]; exact hls) rfl hdg hf (by omega) (W.widen (Nat.le_add_right _ _) (Nat.le_add_right _ _) (kk none M H locs hT hP hS))
end Calls2
end
section
/-! What was there before all. -/
def kZ3 : List (String × Nat × String × String × String × String) := [("RoutingField$Reader", 64, "RoutingField", "tape", "LRoutingField$Bytes;", "RoutingField"), ("RoutingField$Router", 90, "RoutingField", "time", "I", "RoutingField"), ("RoutingField$Reader", 197, "RoutingField", "links", "[LRoutingField$Link;", "RoutingField"), ("RoutingField$Reader", 194, "RoutingField", "linkTotal", "I", "RoutingField"), ("RoutingField$Reader", 210, "RoutingField", "routers", "[LRoutingField$Router;", "RoutingField"), ("RoutingField$Reader", 207, "RoutingField", "routerTotal", "I", "RoutingField"), ("RoutingField$Reader", 220, "RoutingField", "lists", "[LRoutingField$PrefixList;", "RoutingField"), ("RoutingField$Router", 247, "RoutingField", "lists", "[LRoutingField$PrefixList;", "RoutingField"), ("RoutingField$Reader", 217, "RoutingField", "listTotal", "I", "RoutingField"), ("RoutingField$Router", 340, "RoutingField", "draft", "LRoutingField$Datagram;", "RoutingField"), ("RoutingField$Router", 268, "RoutingField", "told", "LRoutingField$Table;", "RoutingField"), ("RoutingField$Router", 181, "RoutingField", "entry", "LRoutingField$Prefix;", "RoutingField"), ("RoutingField$Router", 467, "RoutingField", "hop", "LRoutingField$Prefix;", "RoutingField")]
def kZ4 : List (String × Nat × MethodName × String) := [("RoutingField$Reader", 234, ⟨"RoutingField", "linkAt", "(I)LRoutingField$Link;"⟩, "RoutingField"), ("RoutingField$Router", 396, ⟨"RoutingField", "launch", "(LRoutingField$Link;)V"⟩, "RoutingField"), ("RoutingField$Router", 235, ⟨"RoutingField", "linkAt", "(I)LRoutingField$Link;"⟩, "RoutingField")]
def kZ5 : List String := ["RoutingField$Link", "RoutingField$Router", "RoutingField$PrefixList", "RoutingField$Datagram", "RoutingField$Route", "RoutingField$Port", "RoutingField$Prefix"]
def kZ2 : List (String × Nat × String × Nat) := [("RoutingField$Reader", 74, "link", 0), ("RoutingField$Reader", 244, "jitter", 1), ("RoutingField$Reader", 246, "mtu", 2), ("RoutingField$Reader", 172, "", 3), ("java/lang/String", 7, "", 3), ("RoutingField$Reader", 84, "router", 4), ("RoutingField$Router", 85, "", 3), ("RoutingField$Reader", 89, "join", 5), ("RoutingField$Reader", 312, "cost", 6), ("RoutingField$Reader", 313, "split", 7), ("RoutingField$Reader", 314, "password", 8), ("RoutingField$Reader", 316, "md5", 9), ("RoutingField$Reader", 318, "sha", 10), ("RoutingField$Reader", 320, "passive", 11), ("RoutingField$Reader", 321, "off", 12), ("RoutingField$Reader", 323, "simple", 13), ("RoutingField$Reader", 325, "poison", 14), ("RoutingField$Reader", 94, "key", 15), ("RoutingField$Reader", 99, "nokey", 16), ("RoutingField$Reader", 104, "static", 17), ("RoutingField$Reader", 242, "tag", 18), ("RoutingField$Reader", 109, "nostatic", 19), ("RoutingField$Reader", 114, "filter", 20), ("RoutingField$Reader", 405, "in", 21), ("RoutingField$Reader", 407, "out", 22), ("RoutingField$Reader", 409, "permit", 23), ("RoutingField$Reader", 411, "deny", 24), ("RoutingField$Reader", 119, "list", 25), ("RoutingField$Reader", 424, "ge", 26), ("RoutingField$Reader", 426, "le", 27), ("RoutingField$Reader", 124, "distribute", 28), ("RoutingField$Reader", 437, "*", 29), ("RoutingField$Reader", 129, "offset", 30), ("RoutingField$Reader", 134, "summary", 31), ("RoutingField$Reader", 139, "neighbor", 32), ("RoutingField$Reader", 144, "redistribute", 33), ("RoutingField$Reader", 471, "connected", 34), ("RoutingField$Reader", 473, "own", 35), ("RoutingField$Reader", 149, "default", 36), ("RoutingField$Reader", 481, "only", 37), ("RoutingField$Reader", 154, "timers", 38), ("RoutingField", 350, "", 3), ("RoutingField$Bytes", 82, "::", 39), ("RoutingField$Bytes", 43, "", 3), ("RoutingField", 373, "static", 17), ("RoutingField", 375, "direct", 40), ("RoutingField", 377, "via", 41), ("RoutingField", 388, "-", 42), ("RoutingField", 401, "up", 43), ("RoutingField", 402, "down", 44), ("RoutingField", 404, "cost", 6), ("RoutingField", 433, "off", 12), ("RoutingField", 435, "simple", 13), ("RoutingField", 437, "poison", 14), ("RoutingField$Chain", 53, "password", 8), ("RoutingField$Chain", 54, "chain", 45), ("RoutingField$Chain", 56, "open", 46), ("RoutingField", 425, "passive", 11), ("RoutingField", 432, "changed", 47), ("RoutingField", 443, "link", 0), ("RoutingField", 444, "jitter", 1), ("RoutingField", 445, "mtu", 2), ("RoutingField", 447, "list", 25), ("RoutingField", 454, "permit", 23), ("RoutingField", 456, "deny", 24), ("RoutingField", 465, "ge", 26), ("RoutingField", 470, "le", 27), ("RoutingField", 472, "router", 4), ("RoutingField", 475, "timers", 38), ("RoutingField", 520, "join", 5), ("RoutingField", 526, "split", 7), ("RoutingField", 530, "password", 8), ("RoutingField", 540, "key", 15), ("RoutingField", 548, "md5", 9), ("RoutingField", 550, "sha", 10), ("RoutingField", 565, "tag", 18), ("RoutingField", 572, "filter", 20), ("RoutingField", 439, "in", 21), ("RoutingField", 441, "out", 22), ("RoutingField", 493, "distribute", 28), ("RoutingField", 577, "*", 29), ("RoutingField", 506, "offset", 30), ("RoutingField", 582, "summary", 31), ("RoutingField", 590, "neighbor", 32), ("RoutingField", 598, "default", 36), ("RoutingField", 603, "only", 37), ("RoutingField", 611, "redistribute", 33), ("RoutingField", 613, "connected", 34), ("RoutingField", 615, "own", 35), ("RoutingField", 249, "no such byte of the text", 48)]
def kZ (sa : Nat → Nat) : pmZ := ([("java/lang/String", "COMPACT_STRINGS", "Z", .int 1), ("RoutingField$Chain", "SINES", "[I", .ref (sa 1000)), ("RoutingField$Chain", "TURNS", "[I", .ref (sa 1001))], kZ2.map (fun q => (q.1, q.2.1, q.2.2.1, sa q.2.2.2)), kZ3, kZ4, kZ5)
end
section
/-! Pools: what the numbers in the code of each kind stand for; checked against the tables, place by place. -/
def pm_look {α : Type} : List (Nat × α) → Nat → Option α
  | [], _ => none
  | q :: r, i => if q.1 = i then some q.2 else pm_look r i
theorem pm_look_mem {α : Type} {l : List (Nat × α)} {i : Nat} {v : α} (h : pm_look l i = some v) : (i, v) ∈ l := by
  induction l with
  | nil => cases h
  | cons q r ih =>
    unfold pm_look at h
    by_cases hq : q.1 = i
    · rw [if_pos hq] at h
      cases h
      rw [← hq]
      exact List.mem_cons_self
    · rw [if_neg hq] at h
      exact List.mem_cons_of_mem _ (ih h)
theorem pm_look_all {α : Type} {l : List (Nat × α)} {P : Nat → α → Prop} (h : ∀ q ∈ l, P q.1 q.2) : ∀ i v, pm_look l i = some v → P i v := fun i v hv => h (i, v) (pm_look_mem hv)
def kty : Nat → Nat → FieldType := fun ci => match ci with
  | 0 => kY_By
  | 1 => kY_Ch
  | 2 => kY_Da
  | 3 => kY_Li
  | 4 => kY_Po
  | 5 => kY_Pr
  | 6 => kY_Pl
  | 7 => kY_Re
  | 8 => kY_Ro
  | 9 => kY_Rr
  | 10 => kY_Ta
  | 11 => kY_Rf
  | 12 => kY_Mo
  | 13 => kY_St
  | _ => kY_Ns
theorem kc_all : ∀ (ci : Nat) (C : String) (T : u_T) (N : Nat), kcl[ci]? = some (C, T, N) → (∀ k, k < N → parseFieldDescriptor (T k).2.2.1 = some (kty ci k)) ∧ (∀ a, a < N → ∀ b, b < N → a ≠ b → (T a).2.1 ≠ (T b).2.1) ∧ ∀ w ∈ u_ws C T N, w ∈ pw_T := by
  intro ci C T N h
  match ci, h with
  | 0, h => cases h; exact ⟨kY_By_ok, kN_By, kL_By⟩
  | 1, h => cases h; exact ⟨kY_Ch_ok, kN_Ch, kL_Ch⟩
  | 2, h => cases h; exact ⟨kY_Da_ok, kN_Da, kL_Da⟩
  | 3, h => cases h; exact ⟨kY_Li_ok, kN_Li, kL_Li⟩
  | 4, h => cases h; exact ⟨kY_Po_ok, kN_Po, kL_Po⟩
  | 5, h => cases h; exact ⟨kY_Pr_ok, kN_Pr, kL_Pr⟩
  | 6, h => cases h; exact ⟨kY_Pl_ok, kN_Pl, kL_Pl⟩
  | 7, h => cases h; exact ⟨kY_Re_ok, kN_Re, kL_Re⟩
  | 8, h => cases h; exact ⟨kY_Ro_ok, kN_Ro, kL_Ro⟩
  | 9, h => cases h; exact ⟨kY_Rr_ok, kN_Rr, kL_Rr⟩
  | 10, h => cases h; exact ⟨kY_Ta_ok, kN_Ta, kL_Ta⟩
  | 11, h => cases h; exact ⟨kY_Rf_ok, kN_Rf, kL_Rf⟩
  | 12, h => cases h; exact ⟨kY_Mo_ok, kN_Mo, kL_Mo⟩
  | 13, h => cases h; exact ⟨kY_St_ok, kN_St, kL_St⟩
  | 14, h => cases h; exact ⟨kY_Ns_ok, kN_Ns, kL_Ns⟩
  | n + 15, h => simp [kcl] at h
/-- a field's entry: (kind, place, type, not final), where its link stands in the tables, whether it is a nest mate's, whether it is the owner's own -/
abbrev kfE : Type := (Nat × Nat × FieldType × Bool) × Nat × Bool × Bool
def kf_link (own : String) (i : Nat) (nest : Bool) (q : String × String × String × Bool) : Cond := if nest then .fieldLinkNest own i q.1 q.2.1 q.2.2.1 "RoutingField" else .fieldLink own i q.1 q.2.1 q.2.2.1
def kf_chk (own : String) (q : Nat × kfE) : Bool := match kcl[q.2.1.1]? with
  | some (_, T, N) => decide (q.2.1.2.1 < N) && decide (kty q.2.1.1 q.2.1.2.1 = q.2.1.2.2.1) && ((T q.2.1.2.1).2.2.2 == !q.2.1.2.2.2) && (!q.2.2.2.2 || (decide ((T q.2.1.2.1).1 = own) && !q.2.2.2.1)) && decide (tables_1[q.2.2.1]? = some (kf_link own q.1 q.2.2.2.1 (T q.2.1.2.1))) && (!q.2.2.2.1 || decide ((own, q.1, (T q.2.1.2.1).1, (T q.2.1.2.1).2.1, (T q.2.1.2.1).2.2.1, "RoutingField") ∈ kZ3))
  | none => false
def kfld (l : List (Nat × kfE)) (init : Bool) : Nat → Option (Nat × Nat × FieldType × Bool) := fun i => (pm_look l i).map fun q => (q.1.1, q.1.2.1, q.1.2.2.1, q.1.2.2.2 || (init && q.2.2.2))
theorem kf_use {own : String} {args : Array Value} {s : State} {base : Nat} {sa : Nat → Nat} {H : Heap} {i j : Nat} {nest : Bool} {q : String × String × String × Bool} (hts : ∀ w ∈ pw_T, w.before args s = true) (hZ : pm_Z base (kZ sa) s H) (h : tables_1[j]? = some (kf_link own i nest q)) (hn : nest = true → (own, i, q.1, q.2.1, q.2.2.1, "RoutingField") ∈ kZ3) : (Cond.fieldLink own i q.1 q.2.1 q.2.2.1).before args s = true ∧ nest = false ∨ (Cond.fieldLinkNest own i q.1 q.2.1 q.2.2.1 "RoutingField").before args s = true := by
  cases nest with
  | true => exact Or.inr (va_Nw.use rfl (hZ.2.2.1 _ (hn rfl)))
  | false => exact Or.inl ⟨hts _ (pw_in j h rfl), rfl⟩
theorem kf_ok {own : String} {meth : Method} {args : Array Value} {s : State} {base : Nat} {sa : Nat → Nat} {H : Heap} {l : List (Nat × kfE)} {init : Bool} (hts : ∀ w ∈ pw_T, w.before args s = true) (hZ : pm_Z base (kZ sa) s H) (h : ∀ q ∈ l, kf_chk own q = true) (hi : init = true → meth.name = "<init>") : ∀ i f, kfld l init i = some f → pm_fok kcl own meth args s i f := by
  intro i f hf
  unfold kfld at hf
  cases hq : pm_look l i with
  | none => rw [hq] at hf; cases hf
  | some q =>
    rw [hq] at hf
    cases hf
    have hc := h (i, q) (pm_look_mem hq)
    unfold kf_chk at hc
    cases hk : kcl[q.1.1]? with
    | none => simp only [hk] at hc; cases hc
    | some r =>
      obtain ⟨C, T, N⟩ := r
      simp only [hk, Bool.and_eq_true, decide_eq_true_eq] at hc
      obtain ⟨⟨⟨⟨⟨c1, c2⟩, c3⟩, c4⟩, c5⟩, c6⟩ := hc
      obtain ⟨a1, a2, a3⟩ := kc_all _ _ _ _ hk
      have hw := kf_use hts hZ c5 (fun hn => by
        rw [hn] at c6
        simpa using c6)
      refine ⟨C, T, N, kty q.1.1, pw_T, hk, c1, hts, a3, a1, a2, c2, ?_, ?_⟩
      · rcases hw with hw | hw
        · exact Or.inl hw.1
        · exact Or.inr ⟨_, hw⟩
      · intro hwr
        have c3' : (T q.1.2.1).2.2.2 = !q.1.2.2.2 := by simpa using c3
        by_cases hfin : q.1.2.2.2 = true
        · left
          rw [c3', hfin]
          rfl
        · have hfin2 : q.1.2.2.2 = false := by simpa using hfin
          have hwr : (q.1.2.2.2 || (init && q.2.2.2)) = true := hwr
          rw [hfin2, Bool.false_or, Bool.and_eq_true] at hwr
          right
          rw [hwr.2] at c4
          simp only [Bool.not_true, Bool.false_or, Bool.and_eq_true, decide_eq_true_eq, Bool.not_eq_true'] at c4
          refine ⟨by rw [c3', hfin2]; rfl, hi hwr.1, c4.1, ?_⟩
          have c5' := c5
          rw [c4.2] at c5'
          exact hts _ (pw_in _ c5' rfl)
/-- a making's entry: (kind, first fields), where its link, 'can be made' and 'is initialised' stand -/
abbrev kmE : Type := (Nat × List Value) × Nat × Nat × Nat
def km_chk (own : String) (q : Nat × kmE) : Bool := match kcl[q.2.1.1]? with
  | some (C, _, N) => decide (N = q.2.1.2.length) && decide (tables_1[q.2.2.1]? = some (.classLink own q.1 C)) && decide (tables_1[q.2.2.2.1]? = some (.instantiable C q.2.1.2.length)) && decide (tables_1[q.2.2.2.2]? = some (.initialized C)) && (List.range q.2.1.2.length).all (fun j => decide (defaultValue (kty q.2.1.1 j) = vp_V q.2.1.2 j))
  | none => false
def kmk (l : List (Nat × kmE)) : Nat → Option (Nat × List Value) := fun i => (pm_look l i).map fun q => q.1
theorem km_ok {own : String} {args : Array Value} {s : State} {l : List (Nat × kmE)} (hts : ∀ w ∈ pw_T, w.before args s = true) (h : ∀ q ∈ l, km_chk own q = true) : ∀ i o, kmk l i = some o → pm_nok kcl own args s i o := by
  intro i o ho
  unfold kmk at ho
  cases hq : pm_look l i with
  | none => rw [hq] at ho; cases ho
  | some q =>
    rw [hq] at ho
    cases ho
    have hc := h (i, q) (pm_look_mem hq)
    unfold km_chk at hc
    cases hk : kcl[q.1.1]? with
    | none => simp only [hk] at hc; cases hc
    | some r =>
      obtain ⟨C, T, N⟩ := r
      simp only [hk, Bool.and_eq_true, decide_eq_true_eq] at hc
      obtain ⟨⟨⟨⟨c1, c2⟩, c3⟩, c4⟩, c5⟩ := hc
      subst c1
      obtain ⟨a1, a2, a3⟩ := kc_all _ _ _ _ hk
      exact ⟨C, T, kty q.1.1, pw_T, hk, hts, a3, a1, hts _ (pw_in _ c2 rfl), hts _ (pw_in _ c3 rfl), hts _ (pw_in _ c4 rfl), fun j hj => of_decide_eq_true (List.all_eq_true.mp c5 j (List.mem_range.mpr hj))⟩
/-- constants: the number, where its word stands -/
def kci (l : List (Nat × Int32 × Nat)) : Nat → Option Int32 := fun i => (pm_look l i).map fun q => q.1
def kli (l : List (Nat × Int64 × Nat)) : Nat → Option Int64 := fun i => (pm_look l i).map fun q => q.1
theorem kci_ok {own : String} {args : Array Value} {s : State} {l : List (Nat × Int32 × Nat)} (hts : ∀ w ∈ pw_T, w.before args s = true) (h : ∀ q ∈ l, tables_1[q.2.2]? = some (.constant own q.1 q.2.1)) : ∀ i v, kci l i = some v → (Jvm.Cond.constant own i v).before args s = true := by
  intro i v hv
  unfold kci at hv
  cases hq : pm_look l i with
  | none => rw [hq] at hv; cases hv
  | some q =>
    rw [hq] at hv
    cases hv
    exact hts _ (pw_in _ (h (i, q) (pm_look_mem hq)) rfl)
theorem kli_ok {own : String} {args : Array Value} {s : State} {l : List (Nat × Int64 × Nat)} (hts : ∀ w ∈ pw_T, w.before args s = true) (h : ∀ q ∈ l, tables_1[q.2.2]? = some (.constantLong own q.1 q.2.1)) : ∀ i v, kli l i = some v → (Jvm.Cond.constantLong own i v).before args s = true := by
  intro i v hv
  unfold kli at hv
  cases hq : pm_look l i with
  | none => rw [hq] at hv; cases hv
  | some q =>
    rw [hq] at hv
    cases hv
    exact hts _ (pw_in _ (h (i, q) (pm_look_mem hq)) rfl)
/-- arrays of references: the name, where its link and its array's word stand -/
def kar (l : List (Nat × String × Nat × Nat)) : Nat → Option String := fun i => (pm_look l i).map fun q => q.1
theorem kar_ok {own : String} {args : Array Value} {s : State} {base : Nat} {sa : Nat → Nat} {H : Heap} {l : List (Nat × String × Nat × Nat)} (hts : ∀ w ∈ pw_T, w.before args s = true) (hZ : pm_Z base (kZ sa) s H) (h : ∀ q ∈ l, tables_1[q.2.2.1]? = some (.classLink own q.1 q.2.1) ∧ q.2.1 ∈ kZ5) : ∀ i C, kar l i = some C → (Cond.classLink own i C).before args s = true ∧ va_AO C s := by
  intro i C hC
  unfold kar at hC
  cases hq : pm_look l i with
  | none => rw [hq] at hC; cases hC
  | some q =>
    rw [hq] at hC
    cases hC
    obtain ⟨h1, h2⟩ := h (i, q) (pm_look_mem hq)
    exact ⟨hts _ (pw_in _ h1 rfl), hZ.2.2.2.2 _ h2⟩
/-- statics: where they are declared, what they hold (by 'sa'), where their link stands, whether it is a nest mate's -/
abbrev ksE : Type := (String × String × String) × Value × Nat × Bool
def kst (l : List (Nat × ksE)) : Nat → Option Value := fun i => (pm_look l i).map fun q => q.2.1
theorem kst_ok {own : String} {args : Array Value} {s : State} {base : Nat} {sa : Nat → Nat} {H : Heap} {l : List (Nat × ksE)} (hts : ∀ w ∈ pw_T, w.before args s = true) (hZ : pm_Z base (kZ sa) s H) (h : ∀ q ∈ l, tables_1[q.2.2.2.1]? = some (kf_link own q.1 q.2.2.2.2 (q.2.1.1, q.2.1.2.1, q.2.1.2.2, false)) ∧ (q.2.2.2.2 = true → (own, q.1, q.2.1.1, q.2.1.2.1, q.2.1.2.2, "RoutingField") ∈ kZ3) ∧ (q.2.1.1, q.2.1.2.1, q.2.1.2.2, q.2.2.1) ∈ (kZ sa).1) : ∀ i v, kst l i = some v → ∃ (C n d : String), (C, n, d, v) ∈ (kZ sa).1 ∧ ((Cond.fieldLink own i C n d).before args s = true ∨ ∃ host, (Cond.fieldLinkNest own i C n d host).before args s = true) := by
  intro i v hv
  unfold kst at hv
  cases hq : pm_look l i with
  | none => rw [hq] at hv; cases hv
  | some q =>
    rw [hq] at hv
    cases hv
    obtain ⟨h1, hn, h2⟩ := h (i, q) (pm_look_mem hq)
    refine ⟨_, _, _, h2, ?_⟩
    rcases kf_use hts hZ h1 hn with hw | hw
    · exact Or.inl hw.1
    · exact Or.inr ⟨_, hw⟩
/-- constant texts: the text, its number -/
def ktx (sa : Nat → Nat) (l : List (Nat × String × Nat)) : Nat → Option Nat := fun i => (pm_look l i).map fun q => sa q.2
theorem ktx_ok {own : String} {sa : Nat → Nat} {Z : pmZ} {l : List (Nat × String × Nat)} (h : ∀ q ∈ l, (own, q.1, q.2.1, sa q.2.2) ∈ Z.2.1) : ∀ i a, ktx sa l i = some a → ∃ tx, (own, i, tx, a) ∈ Z.2.1 := by
  intro i a ha
  unfold ktx at ha
  cases hq : pm_look l i with
  | none => rw [hq] at ha; cases ha
  | some q =>
    rw [hq] at ha
    cases ha
    exact ⟨_, h (i, q) (pm_look_mem hq)⟩
theorem knar_ok {args : Array Value} {s : State} (hts : ∀ w ∈ pw_T, w.before args s = true) : ∀ t : ArrayType, pm_nar t = true → (Cond.arrayClass (newarray.typeOf t)).before args s = true := by
  intro t ht
  cases t with
  | boolean => exact hts _ (pw_in 644 (by decide +kernel) rfl)
  | char => exact hts _ (pw_in 542 (by decide +kernel) rfl)
  | byte => exact hts _ (pw_in 52 (by decide +kernel) rfl)
  | int => exact hts _ (pw_in 346 (by decide +kernel) rfl)
  | long => exact hts _ (pw_in 2479 (by decide +kernel) rfl)
  | _ => cases ht
end
section
/-! The pools themselves. -/
def kF_Rf : List (Nat × kfE) := [(99, (0, 1, .int, true), 42, false, false), (342, (5, 0, .int, true), 81, false, false), (225, (5, 3, .int, true), 91, false, false), (165, (2, 0, .object "RoutingField$Bytes", false), 106, false, false), (172, (2, 1, .object "RoutingField$Prefix", false), 110, false, false), (187, (2, 3, .boolean, true), 115, false, false), (178, (2, 4, .int, true), 118, false, false), (181, (2, 5, .int, true), 121, false, false), (184, (2, 6, .int, true), 124, false, false), (190, (2, 7, .object "RoutingField$Router", true), 127, false, false), (279, (2, 8, .object "RoutingField$Link", true), 130, false, false), (298, (2, 9, .int, true), 133, false, false), (394, (10, 0, .array (.object "RoutingField$Route"), true), 175, false, false), (261, (10, 1, .int, true), 178, false, false), (14, (11, 0, .object "RoutingField$Bytes", false), 187, false, true), (18, (11, 1, .object "RoutingField$Bytes", true), 189, false, true), (21, (11, 2, .object "RoutingField$Bytes", true), 190, false, true), (24, (11, 3, .object "RoutingField$Reader", true), 191, false, true), (28, (11, 4, .int, true), 192, false, true), (32, (11, 5, .int, true), 193, false, true), (37, (11, 6, .array (.object "RoutingField$Link"), false), 195, false, true), (41, (11, 7, .int, true), 197, false, true), (46, (11, 8, .array (.object "RoutingField$Router"), false), 199, false, true), (50, (11, 9, .int, true), 201, false, true), (55, (11, 10, .array (.object "RoutingField$PrefixList"), false), 203, false, true), (59, (11, 11, .int, true), 206, false, true), (64, (11, 12, .array (.object "RoutingField$Datagram"), false), 208, false, true), (68, (11, 13, .int, true), 209, false, true), (71, (11, 14, .array (.object "RoutingField$Datagram"), false), 210, false, true), (74, (11, 15, .int, true), 211, false, true), (78, (11, 16, .object "RoutingField$Datagram", true), 212, false, true), (85, (11, 17, .object "RoutingField$Table", false), 214, false, true), (92, (11, 18, .object "RoutingField$Prefix", false), 216, false, true), (96, (11, 19, .object "RoutingField$Prefix", false), 218, false, true), (527, (1, 0, .boolean, true), 300, false, false), (532, (1, 1, .array .byte, false), 302, false, false), (539, (1, 2, .int, true), 306, false, false), (542, (1, 3, .array .int, false), 308, false, false), (545, (1, 4, .array .int, false), 310, false, false), (556, (1, 5, .array .int, false), 312, false, false), (559, (1, 6, .array .int, false), 314, false, false), (552, (1, 7, .array (.array .byte), false), 316, false, false), (390, (3, 0, .object "java/lang/String", false), 552, false, false), (287, (3, 1, .int, false), 554, false, false), (295, (3, 2, .int, false), 556, false, false), (162, (3, 3, .int, false), 559, false, false), (136, (3, 4, .boolean, true), 561, false, false), (292, (3, 5, .int, true), 565, false, false), (149, (3, 6, .int, true), 567, false, false), (244, (3, 7, .object "RoutingField$Bytes", false), 569, false, false), (449, (6, 0, .object "java/lang/String", false), 620, false, false), (458, (6, 1, .array (.object "RoutingField$Prefix"), false), 622, false, false), (450, (6, 2, .array .boolean, false), 624, false, false), (462, (6, 3, .array .int, false), 626, false, false), (467, (6, 4, .array .int, false), 628, false, false), (446, (6, 5, .int, true), 630, false, false), (474, (9, 1, .object "java/lang/String", false), 648, false, false), (230, (9, 2, .int, false), 650, false, false), (125, (9, 3, .boolean, true), 652, false, false), (335, (9, 4, .array (.object "RoutingField$Port"), false), 655, false, false), (332, (9, 5, .int, true), 658, false, false), (258, (9, 6, .object "RoutingField$Table", false), 660, false, false), (562, (9, 7, .object "RoutingField$Table", false), 663, false, false), (569, (9, 8, .array (.object "RoutingField$PrefixList"), false), 666, false, false), (495, (9, 9, .array (.array .int), false), 669, false, false), (499, (9, 10, .int, true), 672, false, false), (508, (9, 11, .array (.array .int), false), 675, false, false), (511, (9, 12, .int, true), 678, false, false), (605, (9, 13, .array .int, false), 681, false, false), (608, (9, 14, .array .int, false), 684, false, false), (477, (9, 15, .array .int, false), 686, false, false), (254, (9, 16, .array .int, false), 689, false, false), (339, (4, 0, .object "RoutingField$Link", false), 872, false, false), (347, (4, 3, .int, true), 878, false, false), (405, (4, 4, .int, true), 882, false, false), (422, (4, 5, .boolean, true), 886, false, false), (412, (4, 6, .object "RoutingField$Chain", false), 890, false, false), (584, (4, 7, .array (.object "RoutingField$Prefix"), false), 893, false, false), (579, (4, 8, .int, true), 897, false, false), (592, (4, 11, .array (.object "RoutingField$Prefix"), false), 904, false, false), (587, (4, 12, .int, true), 908, false, false), (595, (4, 13, .int, true), 912, false, false), (600, (4, 14, .boolean, true), 916, false, false), (355, (8, 0, .object "RoutingField$Prefix", false), 1043, false, false), (379, (8, 1, .object "RoutingField$Prefix", false), 1045, false, false), (370, (8, 3, .int, true), 1051, false, false), (364, (8, 4, .int, true), 1055, false, false), (567, (8, 5, .int, true), 1059, false, false), (385, (8, 6, .object "RoutingField$Port", true), 1062, false, false), (429, (8, 7, .boolean, true), 1065, false, false), (426, (8, 10, .int, true), 1072, false, false)]
set_option maxRecDepth 100000 in
theorem kF_Rf_ok : ∀ q ∈ kF_Rf, kf_chk "RoutingField" q = true := by decide +kernel
def kM_Rf : List (Nat × kmE) := [(9, (0, [.null, .int 0]), 33, 34, 2), (35, (3, [.null, .int 0, .int 0, .int 0, .int 0, .int 0, .int 0, .null]), 53, 477, 13), (44, (9, [.null, .null, .int 0, .int 0, .null, .int 0, .null, .null, .null, .null, .int 0, .null, .int 0, .null, .null, .null, .null, .int 0, .int 0, .int 0]), 55, 597, 15), (53, (6, [.null, .null, .null, .null, .null, .int 0]), 57, 609, 16), (62, (2, [.null, .null, .null, .int 0, .int 0, .int 0, .int 0, .null, .null, .int 0, .int 0, .int 0]), 59, 61, 3), (82, (10, [.null, .int 0]), 165, 166, 5), (89, (5, [.int 0, .long 0, .long 0, .int 0]), 185, 69, 4), (106, (7, [.null, .null, .null, .int 0, .int 0, .int 0, .null, .null, .int 0, .int 0, .int 0, .null]), 281, 282, 7), (247, (14, [.null, .null, .null, .null, .null, .int 0]), 1908, 1909, 24)]
set_option maxRecDepth 100000 in
theorem kM_Rf_ok : ∀ q ∈ kM_Rf, km_chk "RoutingField" q = true := by decide +kernel
def kA_Rf : List (Nat × String × Nat × Nat) := [(35, "RoutingField$Link", 53, 54), (44, "RoutingField$Router", 55, 56), (53, "RoutingField$PrefixList", 57, 58), (62, "RoutingField$Datagram", 59, 60), (89, "RoutingField$Prefix", 185, 617)]
set_option maxRecDepth 100000 in
theorem kA_Rf_ok : ∀ q ∈ kA_Rf, tables_1[q.2.2.1]? = some (.classLink "RoutingField" q.1 q.2.1) ∧ q.2.1 ∈ kZ5 := by decide +kernel
def kI_Rf : List (Nat × Int32 × Nat) := [(220, 40000, 1849)]
set_option maxRecDepth 100000 in
theorem kI_Rf_ok : ∀ q ∈ kI_Rf, tables_1[q.2.2]? = some (.constant "RoutingField" q.1 q.2.1) := by decide +kernel
def kJ_Rf : List (Nat × Int64 × Nat) := [(290, 3, 1223)]
set_option maxRecDepth 100000 in
theorem kJ_Rf_ok : ∀ q ∈ kJ_Rf, tables_1[q.2.2]? = some (.constantLong "RoutingField" q.1 q.2.1) := by decide +kernel
def kS_Rf (sa : Nat → Nat) : List (Nat × ksE) := []
def kE_Rf : List (Nat × String × Nat) := [(350, "", 3), (373, "static", 17), (375, "direct", 40), (377, "via", 41), (388, "-", 42), (401, "up", 43), (402, "down", 44), (404, "cost", 6), (433, "off", 12), (435, "simple", 13), (437, "poison", 14), (425, "passive", 11), (432, "changed", 47), (443, "link", 0), (444, "jitter", 1), (445, "mtu", 2), (447, "list", 25), (454, "permit", 23), (456, "deny", 24), (465, "ge", 26), (470, "le", 27), (472, "router", 4), (475, "timers", 38), (520, "join", 5), (526, "split", 7), (530, "password", 8), (540, "key", 15), (548, "md5", 9), (550, "sha", 10), (565, "tag", 18), (572, "filter", 20), (439, "in", 21), (441, "out", 22), (493, "distribute", 28), (577, "*", 29), (506, "offset", 30), (582, "summary", 31), (590, "neighbor", 32), (598, "default", 36), (603, "only", 37), (611, "redistribute", 33), (613, "connected", 34), (615, "own", 35), (249, "no such byte of the text", 48)]
theorem kS_Rf_ok (sa : Nat → Nat) : ∀ q ∈ kS_Rf sa, tables_1[q.2.2.2.1]? = some (kf_link "RoutingField" q.1 q.2.2.2.2 (q.2.1.1, q.2.1.2.1, q.2.1.2.2, false)) ∧ (q.2.2.2.2 = true → ("RoutingField", q.1, q.2.1.1, q.2.1.2.1, q.2.1.2.2, "RoutingField") ∈ kZ3) ∧ (q.2.1.1, q.2.1.2.1, q.2.1.2.2, q.2.2.1) ∈ (kZ sa).1 := fun _ h => absurd h List.not_mem_nil
set_option maxRecDepth 100000 in
theorem kE_Rf_in : ∀ q ∈ kE_Rf, ("RoutingField", q.1, q.2.1, q.2.2) ∈ kZ2 := by decide +kernel
theorem kE_Rf_ok (sa : Nat → Nat) : ∀ q ∈ kE_Rf, ("RoutingField", q.1, q.2.1, sa q.2.2) ∈ (kZ sa).2.1 := fun q hq => List.mem_map.mpr ⟨_, kE_Rf_in q hq, rfl⟩
def kF_By : List (Nat × kfE) := [(9, (0, 0, .array .byte, true), 39, false, true), (15, (0, 1, .int, true), 41, false, true), (67, (5, 0, .int, true), 79, false, false), (73, (5, 1, .long, true), 85, false, false), (64, (5, 3, .int, true), 92, false, false)]
set_option maxRecDepth 100000 in
theorem kF_By_ok : ∀ q ∈ kF_By, kf_chk "RoutingField$Bytes" q = true := by decide +kernel
def kM_By : List (Nat × kmE) := []
set_option maxRecDepth 100000 in
theorem kM_By_ok : ∀ q ∈ kM_By, km_chk "RoutingField$Bytes" q = true := by decide +kernel
def kA_By : List (Nat × String × Nat × Nat) := []
set_option maxRecDepth 100000 in
theorem kA_By_ok : ∀ q ∈ kA_By, tables_1[q.2.2.1]? = some (.classLink "RoutingField$Bytes" q.1 q.2.1) ∧ q.2.1 ∈ kZ5 := by decide +kernel
def kI_By : List (Nat × Int32 × Nat) := []
set_option maxRecDepth 100000 in
theorem kI_By_ok : ∀ q ∈ kI_By, tables_1[q.2.2]? = some (.constant "RoutingField$Bytes" q.1 q.2.1) := by decide +kernel
def kJ_By : List (Nat × Int64 × Nat) := [(77, 255, 1713)]
set_option maxRecDepth 100000 in
theorem kJ_By_ok : ∀ q ∈ kJ_By, tables_1[q.2.2]? = some (.constantLong "RoutingField$Bytes" q.1 q.2.1) := by decide +kernel
def kS_By (sa : Nat → Nat) : List (Nat × ksE) := []
def kE_By : List (Nat × String × Nat) := [(82, "::", 39), (43, "", 3)]
theorem kS_By_ok (sa : Nat → Nat) : ∀ q ∈ kS_By sa, tables_1[q.2.2.2.1]? = some (kf_link "RoutingField$Bytes" q.1 q.2.2.2.2 (q.2.1.1, q.2.1.2.1, q.2.1.2.2, false)) ∧ (q.2.2.2.2 = true → ("RoutingField$Bytes", q.1, q.2.1.1, q.2.1.2.1, q.2.1.2.2, "RoutingField") ∈ kZ3) ∧ (q.2.1.1, q.2.1.2.1, q.2.1.2.2, q.2.2.1) ∈ (kZ sa).1 := fun _ h => absurd h List.not_mem_nil
set_option maxRecDepth 100000 in
theorem kE_By_in : ∀ q ∈ kE_By, ("RoutingField$Bytes", q.1, q.2.1, q.2.2) ∈ kZ2 := by decide +kernel
theorem kE_By_ok (sa : Nat → Nat) : ∀ q ∈ kE_By, ("RoutingField$Bytes", q.1, q.2.1, sa q.2.2) ∈ (kZ sa).2.1 := fun q hq => List.mem_map.mpr ⟨_, kE_By_in q hq, rfl⟩
def kF_Ch : List (Nat × kfE) := [(130, (0, 0, .array .byte, true), 40, false, false), (102, (0, 1, .int, true), 45, false, false), (11, (1, 0, .boolean, true), 297, false, true), (15, (1, 1, .array .byte, false), 301, false, true), (19, (1, 2, .int, true), 303, false, true), (23, (1, 3, .array .int, false), 307, false, true), (27, (1, 4, .array .int, false), 309, false, true), (30, (1, 5, .array .int, false), 311, false, true), (33, (1, 6, .array .int, false), 313, false, true), (38, (1, 7, .array (.array .byte), false), 315, false, true), (41, (1, 8, .array .byte, true), 317, false, true), (44, (1, 9, .int, true), 318, false, true), (47, (1, 10, .array .int, false), 319, false, true), (50, (1, 11, .array .int, false), 320, false, true)]
set_option maxRecDepth 100000 in
theorem kF_Ch_ok : ∀ q ∈ kF_Ch, kf_chk "RoutingField$Chain" q = true := by decide +kernel
def kM_Ch : List (Nat × kmE) := []
set_option maxRecDepth 100000 in
theorem kM_Ch_ok : ∀ q ∈ kM_Ch, km_chk "RoutingField$Chain" q = true := by decide +kernel
def kA_Ch : List (Nat × String × Nat × Nat) := []
set_option maxRecDepth 100000 in
theorem kA_Ch_ok : ∀ q ∈ kA_Ch, tables_1[q.2.2.1]? = some (.classLink "RoutingField$Chain" q.1 q.2.1) ∧ q.2.1 ∈ kZ5 := by decide +kernel
def kI_Ch : List (Nat × Int32 × Nat) := [(154, 1732584193, 1182), (155, (-271733879), 1183), (156, (-1732584194), 1184), (157, 271733878, 1185), (158, (-1009589776), 1186), (174, 1518500249, 1203), (175, 1859775393, 1204), (176, (-1894007588), 1205), (177, (-899497514), 1206)]
set_option maxRecDepth 100000 in
theorem kI_Ch_ok : ∀ q ∈ kI_Ch, tables_1[q.2.2]? = some (.constant "RoutingField$Chain" q.1 q.2.1) := by decide +kernel
def kJ_Ch : List (Nat × Int64 × Nat) := [(73, 65535, 1136), (81, 2, 1138), (97, 3, 1144), (109, 4294901761, 1154), (121, 4294901763, 1423), (95, 4294901762, 1445)]
set_option maxRecDepth 100000 in
theorem kJ_Ch_ok : ∀ q ∈ kJ_Ch, tables_1[q.2.2]? = some (.constantLong "RoutingField$Chain" q.1 q.2.1) := by decide +kernel
def kS_Ch (sa : Nat → Nat) : List (Nat × ksE) := [(165, ("RoutingField$Chain", "SINES", "[I"), .ref (sa 1000), 1191, false), (168, ("RoutingField$Chain", "TURNS", "[I"), .ref (sa 1001), 1193, false)]
def kE_Ch : List (Nat × String × Nat) := [(53, "password", 8), (54, "chain", 45), (56, "open", 46)]
theorem kS_Ch_ok (sa : Nat → Nat) : ∀ q ∈ kS_Ch sa, tables_1[q.2.2.2.1]? = some (kf_link "RoutingField$Chain" q.1 q.2.2.2.2 (q.2.1.1, q.2.1.2.1, q.2.1.2.2, false)) ∧ (q.2.2.2.2 = true → ("RoutingField$Chain", q.1, q.2.1.1, q.2.1.2.1, q.2.1.2.2, "RoutingField") ∈ kZ3) ∧ (q.2.1.1, q.2.1.2.1, q.2.1.2.2, q.2.2.1) ∈ (kZ sa).1 := List.forall_mem_cons.mpr ⟨⟨by decide +kernel, by decide +kernel, List.mem_of_getElem? (i := 1) rfl⟩, List.forall_mem_cons.mpr ⟨⟨by decide +kernel, by decide +kernel, List.mem_of_getElem? (i := 2) rfl⟩, fun _ h => absurd h List.not_mem_nil⟩⟩
set_option maxRecDepth 100000 in
theorem kE_Ch_in : ∀ q ∈ kE_Ch, ("RoutingField$Chain", q.1, q.2.1, q.2.2) ∈ kZ2 := by decide +kernel
theorem kE_Ch_ok (sa : Nat → Nat) : ∀ q ∈ kE_Ch, ("RoutingField$Chain", q.1, q.2.1, sa q.2.2) ∈ (kZ sa).2.1 := fun q hq => List.mem_map.mpr ⟨_, kE_Ch_in q hq, rfl⟩
def kF_Da : List (Nat × kfE) := [(61, (0, 1, .int, true), 43, false, false), (105, (5, 1, .long, true), 83, false, false), (109, (5, 2, .long, true), 87, false, false), (86, (5, 3, .int, true), 90, false, false), (14, (2, 0, .object "RoutingField$Bytes", false), 104, false, true), (23, (2, 1, .object "RoutingField$Prefix", false), 108, false, true), (27, (2, 2, .object "RoutingField$Prefix", false), 112, false, true), (30, (2, 3, .boolean, true), 114, false, true), (34, (2, 4, .int, true), 117, false, true), (38, (2, 5, .int, true), 120, false, true), (41, (2, 6, .int, true), 123, false, true), (44, (2, 7, .object "RoutingField$Router", true), 126, false, true), (48, (2, 8, .object "RoutingField$Link", true), 129, false, true), (52, (2, 9, .int, true), 132, false, true), (55, (2, 10, .int, true), 134, false, true), (58, (2, 11, .int, true), 137, false, true)]
set_option maxRecDepth 100000 in
theorem kF_Da_ok : ∀ q ∈ kF_Da, kf_chk "RoutingField$Datagram" q = true := by decide +kernel
def kM_Da : List (Nat × kmE) := [(9, (0, [.null, .int 0]), 66, 34, 2), (20, (5, [.int 0, .long 0, .long 0, .int 0]), 68, 69, 4)]
set_option maxRecDepth 100000 in
theorem kM_Da_ok : ∀ q ∈ kM_Da, km_chk "RoutingField$Datagram" q = true := by decide +kernel
def kA_Da : List (Nat × String × Nat × Nat) := [(20, "RoutingField$Prefix", 68, 617)]
set_option maxRecDepth 100000 in
theorem kA_Da_ok : ∀ q ∈ kA_Da, tables_1[q.2.2.1]? = some (.classLink "RoutingField$Datagram" q.1 q.2.1) ∧ q.2.1 ∈ kZ5 := by decide +kernel
def kI_Da : List (Nat × Int32 × Nat) := []
set_option maxRecDepth 100000 in
theorem kI_Da_ok : ∀ q ∈ kI_Da, tables_1[q.2.2]? = some (.constant "RoutingField$Datagram" q.1 q.2.1) := by decide +kernel
def kJ_Da : List (Nat × Int64 × Nat) := [(76, 16, 1460), (96, 2, 1524)]
set_option maxRecDepth 100000 in
theorem kJ_Da_ok : ∀ q ∈ kJ_Da, tables_1[q.2.2]? = some (.constantLong "RoutingField$Datagram" q.1 q.2.1) := by decide +kernel
def kS_Da (sa : Nat → Nat) : List (Nat × ksE) := []
def kE_Da : List (Nat × String × Nat) := []
theorem kS_Da_ok (sa : Nat → Nat) : ∀ q ∈ kS_Da sa, tables_1[q.2.2.2.1]? = some (kf_link "RoutingField$Datagram" q.1 q.2.2.2.2 (q.2.1.1, q.2.1.2.1, q.2.1.2.2, false)) ∧ (q.2.2.2.2 = true → ("RoutingField$Datagram", q.1, q.2.1.1, q.2.1.2.1, q.2.1.2.2, "RoutingField") ∈ kZ3) ∧ (q.2.1.1, q.2.1.2.1, q.2.1.2.2, q.2.2.1) ∈ (kZ sa).1 := fun _ h => absurd h List.not_mem_nil
set_option maxRecDepth 100000 in
theorem kE_Da_in : ∀ q ∈ kE_Da, ("RoutingField$Datagram", q.1, q.2.1, q.2.2) ∈ kZ2 := by decide +kernel
theorem kE_Da_ok (sa : Nat → Nat) : ∀ q ∈ kE_Da, ("RoutingField$Datagram", q.1, q.2.1, sa q.2.2) ∈ (kZ sa).2.1 := fun q hq => List.mem_map.mpr ⟨_, kE_Da_in q hq, rfl⟩
def kF_Li : List (Nat × kfE) := [(29, (3, 0, .object "java/lang/String", false), 550, false, true), (39, (3, 1, .int, false), 553, false, true), (42, (3, 2, .int, false), 555, false, true), (45, (3, 3, .int, false), 557, false, true), (7, (3, 4, .boolean, true), 560, false, true), (13, (3, 5, .int, true), 564, false, true), (17, (3, 6, .int, true), 566, false, true), (25, (3, 7, .object "RoutingField$Bytes", false), 568, false, true)]
set_option maxRecDepth 100000 in
theorem kF_Li_ok : ∀ q ∈ kF_Li, kf_chk "RoutingField$Link" q = true := by decide +kernel
def kM_Li : List (Nat × kmE) := [(20, (0, [.null, .int 0]), 547, 34, 2)]
set_option maxRecDepth 100000 in
theorem kM_Li_ok : ∀ q ∈ kM_Li, km_chk "RoutingField$Link" q = true := by decide +kernel
def kA_Li : List (Nat × String × Nat × Nat) := []
set_option maxRecDepth 100000 in
theorem kA_Li_ok : ∀ q ∈ kA_Li, tables_1[q.2.2.1]? = some (.classLink "RoutingField$Link" q.1 q.2.1) ∧ q.2.1 ∈ kZ5 := by decide +kernel
def kI_Li : List (Nat × Int32 × Nat) := []
set_option maxRecDepth 100000 in
theorem kI_Li_ok : ∀ q ∈ kI_Li, tables_1[q.2.2]? = some (.constant "RoutingField$Link" q.1 q.2.1) := by decide +kernel
def kJ_Li : List (Nat × Int64 × Nat) := []
set_option maxRecDepth 100000 in
theorem kJ_Li_ok : ∀ q ∈ kJ_Li, tables_1[q.2.2]? = some (.constantLong "RoutingField$Link" q.1 q.2.1) := by decide +kernel
def kS_Li (sa : Nat → Nat) : List (Nat × ksE) := []
def kE_Li : List (Nat × String × Nat) := []
theorem kS_Li_ok (sa : Nat → Nat) : ∀ q ∈ kS_Li sa, tables_1[q.2.2.2.1]? = some (kf_link "RoutingField$Link" q.1 q.2.2.2.2 (q.2.1.1, q.2.1.2.1, q.2.1.2.2, false)) ∧ (q.2.2.2.2 = true → ("RoutingField$Link", q.1, q.2.1.1, q.2.1.2.1, q.2.1.2.2, "RoutingField") ∈ kZ3) ∧ (q.2.1.1, q.2.1.2.1, q.2.1.2.2, q.2.2.1) ∈ (kZ sa).1 := fun _ h => absurd h List.not_mem_nil
set_option maxRecDepth 100000 in
theorem kE_Li_in : ∀ q ∈ kE_Li, ("RoutingField$Link", q.1, q.2.1, q.2.2) ∈ kZ2 := by decide +kernel
theorem kE_Li_ok (sa : Nat → Nat) : ∀ q ∈ kE_Li, ("RoutingField$Link", q.1, q.2.1, sa q.2.2) ∈ (kZ sa).2.1 := fun q hq => List.mem_map.mpr ⟨_, kE_Li_in q hq, rfl⟩
def kF_Po : List (Nat × kfE) := [(143, (0, 1, .int, true), 44, false, false), (86, (5, 0, .int, true), 76, false, false), (155, (5, 1, .long, true), 84, false, false), (114, (2, 0, .object "RoutingField$Bytes", false), 105, false, false), (127, (2, 1, .object "RoutingField$Prefix", false), 109, false, false), (140, (2, 10, .int, true), 135, false, false), (146, (2, 11, .int, true), 138, false, false), (98, (1, 0, .boolean, true), 298, false, false), (120, (1, 2, .int, true), 304, false, false), (93, (3, 3, .int, false), 558, false, false), (77, (4, 0, .object "RoutingField$Link", false), 870, false, true), (9, (4, 1, .object "RoutingField$Prefix", true), 873, false, true), (15, (4, 2, .object "RoutingField$Prefix", true), 874, false, true), (18, (4, 3, .int, true), 875, false, true), (22, (4, 4, .int, true), 879, false, true), (25, (4, 5, .boolean, true), 883, false, true), (32, (4, 6, .object "RoutingField$Chain", false), 887, false, true), (38, (4, 7, .array (.object "RoutingField$Prefix"), false), 891, false, true), (42, (4, 8, .int, true), 894, false, true), (45, (4, 9, .array .int, false), 898, false, true), (49, (4, 10, .array .boolean, false), 900, false, true), (53, (4, 11, .array (.object "RoutingField$Prefix"), false), 902, false, true), (56, (4, 12, .int, true), 905, false, true), (59, (4, 13, .int, true), 909, false, true), (62, (4, 14, .boolean, true), 913, false, true), (65, (4, 15, .int, true), 917, false, true), (68, (4, 16, .array .int, true), 919, false, true), (71, (4, 17, .array .int, true), 920, false, true), (74, (4, 18, .int, true), 921, false, true)]
set_option maxRecDepth 100000 in
theorem kF_Po_ok : ∀ q ∈ kF_Po, kf_chk "RoutingField$Port" q = true := by decide +kernel
def kM_Po : List (Nat × kmE) := [(29, (1, [.int 0, .null, .int 0, .null, .null, .null, .null, .null, .null, .int 0, .null, .null]), 867, 290, 8), (36, (5, [.int 0, .long 0, .long 0, .int 0]), 869, 69, 4)]
set_option maxRecDepth 100000 in
theorem kM_Po_ok : ∀ q ∈ kM_Po, km_chk "RoutingField$Port" q = true := by decide +kernel
def kA_Po : List (Nat × String × Nat × Nat) := [(36, "RoutingField$Prefix", 869, 617)]
set_option maxRecDepth 100000 in
theorem kA_Po_ok : ∀ q ∈ kA_Po, tables_1[q.2.2.1]? = some (.classLink "RoutingField$Port" q.1 q.2.1) ∧ q.2.1 ∈ kZ5 := by decide +kernel
def kI_Po : List (Nat × Int32 × Nat) := []
set_option maxRecDepth 100000 in
theorem kI_Po_ok : ∀ q ∈ kI_Po, tables_1[q.2.2]? = some (.constant "RoutingField$Port" q.1 q.2.1) := by decide +kernel
def kJ_Po : List (Nat × Int64 × Nat) := [(159, 4294967295, 1434), (153, 65535, 1446)]
set_option maxRecDepth 100000 in
theorem kJ_Po_ok : ∀ q ∈ kJ_Po, tables_1[q.2.2]? = some (.constantLong "RoutingField$Port" q.1 q.2.1) := by decide +kernel
def kS_Po (sa : Nat → Nat) : List (Nat × ksE) := []
def kE_Po : List (Nat × String × Nat) := []
theorem kS_Po_ok (sa : Nat → Nat) : ∀ q ∈ kS_Po sa, tables_1[q.2.2.2.1]? = some (kf_link "RoutingField$Port" q.1 q.2.2.2.2 (q.2.1.1, q.2.1.2.1, q.2.1.2.2, false)) ∧ (q.2.2.2.2 = true → ("RoutingField$Port", q.1, q.2.1.1, q.2.1.2.1, q.2.1.2.2, "RoutingField") ∈ kZ3) ∧ (q.2.1.1, q.2.1.2.1, q.2.1.2.2, q.2.2.1) ∈ (kZ sa).1 := fun _ h => absurd h List.not_mem_nil
set_option maxRecDepth 100000 in
theorem kE_Po_in : ∀ q ∈ kE_Po, ("RoutingField$Port", q.1, q.2.1, q.2.2) ∈ kZ2 := by decide +kernel
theorem kE_Po_ok (sa : Nat → Nat) : ∀ q ∈ kE_Po, ("RoutingField$Port", q.1, q.2.1, sa q.2.2) ∈ (kZ sa).2.1 := fun q hq => List.mem_map.mpr ⟨_, kE_Po_in q hq, rfl⟩
def kF_Pr : List (Nat × kfE) := [(9, (5, 0, .int, true), 74, false, true), (15, (5, 1, .long, true), 82, false, true), (19, (5, 2, .long, true), 86, false, true), (22, (5, 3, .int, true), 88, false, true)]
set_option maxRecDepth 100000 in
theorem kF_Pr_ok : ∀ q ∈ kF_Pr, kf_chk "RoutingField$Prefix" q = true := by decide +kernel
def kM_Pr : List (Nat × kmE) := []
set_option maxRecDepth 100000 in
theorem kM_Pr_ok : ∀ q ∈ kM_Pr, km_chk "RoutingField$Prefix" q = true := by decide +kernel
def kA_Pr : List (Nat × String × Nat × Nat) := []
set_option maxRecDepth 100000 in
theorem kA_Pr_ok : ∀ q ∈ kA_Pr, tables_1[q.2.2.1]? = some (.classLink "RoutingField$Prefix" q.1 q.2.1) ∧ q.2.1 ∈ kZ5 := by decide +kernel
def kI_Pr : List (Nat × Int32 × Nat) := [(27, 65535, 1707)]
set_option maxRecDepth 100000 in
theorem kI_Pr_ok : ∀ q ∈ kI_Pr, tables_1[q.2.2]? = some (.constant "RoutingField$Prefix" q.1 q.2.1) := by decide +kernel
def kJ_Pr : List (Nat × Int64 × Nat) := [(25, (-1), 794), (32, (-9223372036854775808), 1012), (51, 127, 1571), (53, 7, 1572), (55, 1018, 1573), (57, 255, 1574)]
set_option maxRecDepth 100000 in
theorem kJ_Pr_ok : ∀ q ∈ kJ_Pr, tables_1[q.2.2]? = some (.constantLong "RoutingField$Prefix" q.1 q.2.1) := by decide +kernel
def kS_Pr (sa : Nat → Nat) : List (Nat × ksE) := []
def kE_Pr : List (Nat × String × Nat) := []
theorem kS_Pr_ok (sa : Nat → Nat) : ∀ q ∈ kS_Pr sa, tables_1[q.2.2.2.1]? = some (kf_link "RoutingField$Prefix" q.1 q.2.2.2.2 (q.2.1.1, q.2.1.2.1, q.2.1.2.2, false)) ∧ (q.2.2.2.2 = true → ("RoutingField$Prefix", q.1, q.2.1.1, q.2.1.2.1, q.2.1.2.2, "RoutingField") ∈ kZ3) ∧ (q.2.1.1, q.2.1.2.1, q.2.1.2.2, q.2.2.1) ∈ (kZ sa).1 := fun _ h => absurd h List.not_mem_nil
set_option maxRecDepth 100000 in
theorem kE_Pr_in : ∀ q ∈ kE_Pr, ("RoutingField$Prefix", q.1, q.2.1, q.2.2) ∈ kZ2 := by decide +kernel
theorem kE_Pr_ok (sa : Nat → Nat) : ∀ q ∈ kE_Pr, ("RoutingField$Prefix", q.1, q.2.1, sa q.2.2) ∈ (kZ sa).2.1 := fun q hq => List.mem_map.mpr ⟨_, kE_Pr_in q hq, rfl⟩
def kF_Pl : List (Nat × kfE) := [(51, (5, 3, .int, true), 89, false, false), (21, (6, 0, .object "java/lang/String", false), 618, false, true), (27, (6, 1, .array (.object "RoutingField$Prefix"), false), 621, false, true), (31, (6, 2, .array .boolean, false), 623, false, true), (35, (6, 3, .array .int, false), 625, false, true), (39, (6, 4, .array .int, false), 627, false, true), (9, (6, 5, .int, true), 629, false, true)]
set_option maxRecDepth 100000 in
theorem kF_Pl_ok : ∀ q ∈ kF_Pl, kf_chk "RoutingField$PrefixList" q = true := by decide +kernel
def kM_Pl : List (Nat × kmE) := [(25, (5, [.int 0, .long 0, .long 0, .int 0]), 616, 69, 4)]
set_option maxRecDepth 100000 in
theorem kM_Pl_ok : ∀ q ∈ kM_Pl, km_chk "RoutingField$PrefixList" q = true := by decide +kernel
def kA_Pl : List (Nat × String × Nat × Nat) := [(25, "RoutingField$Prefix", 616, 617)]
set_option maxRecDepth 100000 in
theorem kA_Pl_ok : ∀ q ∈ kA_Pl, tables_1[q.2.2.1]? = some (.classLink "RoutingField$PrefixList" q.1 q.2.1) ∧ q.2.1 ∈ kZ5 := by decide +kernel
def kI_Pl : List (Nat × Int32 × Nat) := []
set_option maxRecDepth 100000 in
theorem kI_Pl_ok : ∀ q ∈ kI_Pl, tables_1[q.2.2]? = some (.constant "RoutingField$PrefixList" q.1 q.2.1) := by decide +kernel
def kJ_Pl : List (Nat × Int64 × Nat) := []
set_option maxRecDepth 100000 in
theorem kJ_Pl_ok : ∀ q ∈ kJ_Pl, tables_1[q.2.2]? = some (.constantLong "RoutingField$PrefixList" q.1 q.2.1) := by decide +kernel
def kS_Pl (sa : Nat → Nat) : List (Nat × ksE) := []
def kE_Pl : List (Nat × String × Nat) := []
theorem kS_Pl_ok (sa : Nat → Nat) : ∀ q ∈ kS_Pl sa, tables_1[q.2.2.2.1]? = some (kf_link "RoutingField$PrefixList" q.1 q.2.2.2.2 (q.2.1.1, q.2.1.2.1, q.2.1.2.2, false)) ∧ (q.2.2.2.2 = true → ("RoutingField$PrefixList", q.1, q.2.1.1, q.2.1.2.1, q.2.1.2.2, "RoutingField") ∈ kZ3) ∧ (q.2.1.1, q.2.1.2.1, q.2.1.2.2, q.2.2.1) ∈ (kZ sa).1 := fun _ h => absurd h List.not_mem_nil
set_option maxRecDepth 100000 in
theorem kE_Pl_in : ∀ q ∈ kE_Pl, ("RoutingField$PrefixList", q.1, q.2.1, q.2.2) ∈ kZ2 := by decide +kernel
theorem kE_Pl_ok (sa : Nat → Nat) : ∀ q ∈ kE_Pl, ("RoutingField$PrefixList", q.1, q.2.1, sa q.2.2) ∈ (kZ sa).2.1 := fun q hq => List.mem_map.mpr ⟨_, kE_Pl_in q hq, rfl⟩
def kF_Re : List (Nat × kfE) := [(276, (5, 0, .int, true), 80, false, false), (419, (5, 3, .int, true), 94, false, false), (387, (10, 1, .int, true), 179, false, false), (64, (11, 0, .object "RoutingField$Bytes", false), 188, true, false), (197, (11, 6, .array (.object "RoutingField$Link"), false), 196, true, false), (194, (11, 7, .int, true), 198, true, false), (210, (11, 8, .array (.object "RoutingField$Router"), false), 200, true, false), (207, (11, 9, .int, true), 202, true, false), (220, (11, 10, .array (.object "RoutingField$PrefixList"), false), 204, true, false), (217, (11, 11, .int, true), 207, true, false), (56, (7, 0, .object "RoutingField", false), 347, false, true), (9, (7, 1, .array .int, false), 348, false, true), (15, (7, 2, .array .int, false), 349, false, true), (18, (7, 3, .int, true), 350, false, true), (22, (7, 4, .int, true), 351, false, true), (25, (7, 5, .int, true), 352, false, true), (31, (7, 6, .object "RoutingField$Prefix", false), 353, false, true), (37, (7, 7, .array .byte, false), 354, false, true), (41, (7, 8, .int, true), 355, false, true), (44, (7, 9, .int, true), 356, false, true), (47, (7, 10, .boolean, true), 357, false, true), (52, (7, 11, .object "RoutingField$Chain", false), 358, false, true), (201, (3, 0, .object "java/lang/String", false), 551, false, false), (302, (3, 4, .boolean, true), 563, false, false), (224, (6, 0, .object "java/lang/String", false), 619, false, false), (214, (9, 1, .object "java/lang/String", false), 647, false, false), (299, (9, 3, .boolean, true), 653, false, false), (289, (9, 5, .int, true), 657, false, false), (377, (9, 7, .object "RoutingField$Table", false), 662, false, false), (413, (9, 8, .array (.object "RoutingField$PrefixList"), false), 665, false, false), (445, (9, 9, .array (.array .int), false), 668, false, false), (442, (9, 10, .int, true), 671, false, false), (456, (9, 11, .array (.array .int), false), 674, false, false), (453, (9, 12, .int, true), 677, false, false), (475, (9, 13, .array .int, false), 680, false, false), (478, (9, 14, .array .int, false), 683, false, false), (489, (9, 15, .array .int, false), 687, false, false), (364, (4, 3, .int, true), 877, false, false), (365, (4, 4, .int, true), 881, false, false), (363, (4, 5, .boolean, true), 885, false, false), (339, (4, 6, .object "RoutingField$Chain", false), 888, false, false), (459, (4, 8, .int, true), 896, false, false), (465, (4, 12, .int, true), 907, false, false), (483, (4, 13, .int, true), 911, false, false), (486, (4, 14, .boolean, true), 915, false, false), (392, (8, 4, .int, true), 1054, false, false), (397, (8, 5, .int, true), 1058, false, false)]
set_option maxRecDepth 100000 in
theorem kF_Re_ok : ∀ q ∈ kF_Re, kf_chk "RoutingField$Reader" q = true := by decide +kernel
def kM_Re : List (Nat × kmE) := [(28, (5, [.int 0, .long 0, .long 0, .int 0]), 287, 69, 4), (35, (1, [.int 0, .null, .int 0, .null, .null, .null, .null, .null, .null, .int 0, .null, .null]), 289, 290, 8), (202, (3, [.null, .int 0, .int 0, .int 0, .int 0, .int 0, .int 0, .null]), 476, 477, 13), (164, (13, [.null, .int 0, .int 0, .int 0]), 486, 487, 9), (215, (9, [.null, .null, .int 0, .int 0, .null, .int 0, .null, .null, .null, .null, .int 0, .null, .int 0, .null, .null, .null, .null, .int 0, .int 0, .int 0]), 596, 597, 15), (225, (6, [.null, .null, .null, .null, .null, .int 0]), 1308, 609, 16)]
set_option maxRecDepth 100000 in
theorem kM_Re_ok : ∀ q ∈ kM_Re, km_chk "RoutingField$Reader" q = true := by decide +kernel
def kA_Re : List (Nat × String × Nat × Nat) := [(28, "RoutingField$Prefix", 287, 617), (202, "RoutingField$Link", 476, 54), (215, "RoutingField$Router", 596, 56), (225, "RoutingField$PrefixList", 1308, 58)]
set_option maxRecDepth 100000 in
theorem kA_Re_ok : ∀ q ∈ kA_Re, tables_1[q.2.2.1]? = some (.classLink "RoutingField$Reader" q.1 q.2.1) ∧ q.2.1 ∈ kZ5 := by decide +kernel
def kI_Re : List (Nat × Int32 × Nat) := [(354, 99999, 852), (376, 65535, 1259)]
set_option maxRecDepth 100000 in
theorem kI_Re_ok : ∀ q ∈ kI_Re, tables_1[q.2.2]? = some (.constant "RoutingField$Reader" q.1 q.2.1) := by decide +kernel
def kJ_Re : List (Nat × Int64 × Nat) := []
set_option maxRecDepth 100000 in
theorem kJ_Re_ok : ∀ q ∈ kJ_Re, tables_1[q.2.2]? = some (.constantLong "RoutingField$Reader" q.1 q.2.1) := by decide +kernel
def kS_Re (sa : Nat → Nat) : List (Nat × ksE) := []
def kE_Re : List (Nat × String × Nat) := [(74, "link", 0), (244, "jitter", 1), (246, "mtu", 2), (172, "", 3), (84, "router", 4), (89, "join", 5), (312, "cost", 6), (313, "split", 7), (314, "password", 8), (316, "md5", 9), (318, "sha", 10), (320, "passive", 11), (321, "off", 12), (323, "simple", 13), (325, "poison", 14), (94, "key", 15), (99, "nokey", 16), (104, "static", 17), (242, "tag", 18), (109, "nostatic", 19), (114, "filter", 20), (405, "in", 21), (407, "out", 22), (409, "permit", 23), (411, "deny", 24), (119, "list", 25), (424, "ge", 26), (426, "le", 27), (124, "distribute", 28), (437, "*", 29), (129, "offset", 30), (134, "summary", 31), (139, "neighbor", 32), (144, "redistribute", 33), (471, "connected", 34), (473, "own", 35), (149, "default", 36), (481, "only", 37), (154, "timers", 38)]
theorem kS_Re_ok (sa : Nat → Nat) : ∀ q ∈ kS_Re sa, tables_1[q.2.2.2.1]? = some (kf_link "RoutingField$Reader" q.1 q.2.2.2.2 (q.2.1.1, q.2.1.2.1, q.2.1.2.2, false)) ∧ (q.2.2.2.2 = true → ("RoutingField$Reader", q.1, q.2.1.1, q.2.1.2.1, q.2.1.2.2, "RoutingField") ∈ kZ3) ∧ (q.2.1.1, q.2.1.2.1, q.2.1.2.2, q.2.2.1) ∈ (kZ sa).1 := fun _ h => absurd h List.not_mem_nil
set_option maxRecDepth 100000 in
theorem kE_Re_in : ∀ q ∈ kE_Re, ("RoutingField$Reader", q.1, q.2.1, q.2.2) ∈ kZ2 := by decide +kernel
theorem kE_Re_ok (sa : Nat → Nat) : ∀ q ∈ kE_Re, ("RoutingField$Reader", q.1, q.2.1, sa q.2.2) ∈ (kZ sa).2.1 := fun q hq => List.mem_map.mpr ⟨_, kE_Re_in q hq, rfl⟩
def kF_Ro : List (Nat × kfE) := [(51, (5, 0, .int, true), 75, false, false), (12, (8, 0, .object "RoutingField$Prefix", false), 1040, false, true), (18, (8, 1, .object "RoutingField$Prefix", false), 1044, false, true), (21, (8, 2, .object "RoutingField$Prefix", false), 1047, false, true), (24, (8, 3, .int, true), 1049, false, true), (28, (8, 4, .int, true), 1052, false, true), (31, (8, 5, .int, true), 1056, false, true), (34, (8, 6, .object "RoutingField$Port", true), 1060, false, true), (38, (8, 7, .boolean, true), 1063, false, true), (42, (8, 8, .int, true), 1066, false, true), (45, (8, 9, .int, true), 1068, false, true), (48, (8, 10, .int, true), 1070, false, true)]
set_option maxRecDepth 100000 in
theorem kF_Ro_ok : ∀ q ∈ kF_Ro, kf_chk "RoutingField$Route" q = true := by decide +kernel
def kM_Ro : List (Nat × kmE) := [(9, (5, [.int 0, .long 0, .long 0, .int 0]), 1038, 69, 4)]
set_option maxRecDepth 100000 in
theorem kM_Ro_ok : ∀ q ∈ kM_Ro, km_chk "RoutingField$Route" q = true := by decide +kernel
def kA_Ro : List (Nat × String × Nat × Nat) := [(9, "RoutingField$Prefix", 1038, 617)]
set_option maxRecDepth 100000 in
theorem kA_Ro_ok : ∀ q ∈ kA_Ro, tables_1[q.2.2.1]? = some (.classLink "RoutingField$Route" q.1 q.2.1) ∧ q.2.1 ∈ kZ5 := by decide +kernel
def kI_Ro : List (Nat × Int32 × Nat) := []
set_option maxRecDepth 100000 in
theorem kI_Ro_ok : ∀ q ∈ kI_Ro, tables_1[q.2.2]? = some (.constant "RoutingField$Route" q.1 q.2.1) := by decide +kernel
def kJ_Ro : List (Nat × Int64 × Nat) := []
set_option maxRecDepth 100000 in
theorem kJ_Ro_ok : ∀ q ∈ kJ_Ro, tables_1[q.2.2]? = some (.constantLong "RoutingField$Route" q.1 q.2.1) := by decide +kernel
def kS_Ro (sa : Nat → Nat) : List (Nat × ksE) := []
def kE_Ro : List (Nat × String × Nat) := []
theorem kS_Ro_ok (sa : Nat → Nat) : ∀ q ∈ kS_Ro sa, tables_1[q.2.2.2.1]? = some (kf_link "RoutingField$Route" q.1 q.2.2.2.2 (q.2.1.1, q.2.1.2.1, q.2.1.2.2, false)) ∧ (q.2.2.2.2 = true → ("RoutingField$Route", q.1, q.2.1.1, q.2.1.2.1, q.2.1.2.2, "RoutingField") ∈ kZ3) ∧ (q.2.1.1, q.2.1.2.1, q.2.1.2.2, q.2.2.1) ∈ (kZ sa).1 := fun _ h => absurd h List.not_mem_nil
set_option maxRecDepth 100000 in
theorem kE_Ro_in : ∀ q ∈ kE_Ro, ("RoutingField$Route", q.1, q.2.1, q.2.2) ∈ kZ2 := by decide +kernel
theorem kE_Ro_ok (sa : Nat → Nat) : ∀ q ∈ kE_Ro, ("RoutingField$Route", q.1, q.2.1, sa q.2.2) ∈ (kZ sa).2.1 := fun q hq => List.mem_map.mpr ⟨_, kE_Ro_in q hq, rfl⟩
def kF_Rr : List (Nat × kfE) := [(439, (0, 1, .int, true), 46, false, false), (128, (5, 0, .int, true), 77, false, false), (299, (5, 3, .int, true), 93, false, false), (344, (2, 0, .object "RoutingField$Bytes", false), 107, false, false), (373, (2, 1, .object "RoutingField$Prefix", false), 111, false, false), (382, (2, 2, .object "RoutingField$Prefix", false), 113, false, false), (379, (2, 3, .boolean, true), 116, false, false), (350, (2, 4, .int, true), 119, false, false), (387, (2, 5, .int, true), 122, false, false), (389, (2, 6, .int, true), 125, false, false), (392, (2, 7, .object "RoutingField$Router", true), 128, false, false), (418, (2, 8, .object "RoutingField$Link", true), 131, false, false), (436, (2, 10, .int, true), 136, false, false), (440, (2, 11, .int, true), 139, false, false), (198, (10, 0, .array (.object "RoutingField$Route"), true), 174, false, false), (195, (10, 1, .int, true), 177, false, false), (90, (11, 5, .int, true), 194, true, false), (247, (11, 10, .array (.object "RoutingField$PrefixList"), false), 205, true, false), (340, (11, 16, .object "RoutingField$Datagram", true), 213, true, false), (268, (11, 17, .object "RoutingField$Table", false), 215, true, false), (181, (11, 18, .object "RoutingField$Prefix", false), 217, true, false), (467, (11, 19, .object "RoutingField$Prefix", false), 219, true, false), (359, (1, 0, .boolean, true), 299, false, false), (333, (1, 2, .int, true), 305, false, false), (137, (3, 4, .boolean, true), 562, false, false), (74, (9, 0, .object "RoutingField", false), 645, false, true), (78, (9, 1, .object "java/lang/String", false), 646, false, true), (82, (9, 2, .int, false), 649, false, true), (9, (9, 3, .boolean, true), 651, false, true), (17, (9, 4, .array (.object "RoutingField$Port"), false), 654, false, true), (21, (9, 5, .int, true), 656, false, true), (28, (9, 6, .object "RoutingField$Table", false), 659, false, true), (32, (9, 7, .object "RoutingField$Table", false), 661, false, true), (37, (9, 8, .array (.object "RoutingField$PrefixList"), false), 664, false, true), (43, (9, 9, .array (.array .int), false), 667, false, true), (46, (9, 10, .int, true), 670, false, true), (49, (9, 11, .array (.array .int), false), 673, false, true), (52, (9, 12, .int, true), 676, false, true), (55, (9, 13, .array .int, false), 679, false, true), (59, (9, 14, .array .int, false), 682, false, true), (62, (9, 15, .array .int, false), 685, false, true), (65, (9, 16, .array .int, false), 688, false, true), (93, (9, 17, .int, true), 690, false, true), (68, (9, 18, .int, true), 691, false, true), (71, (9, 19, .int, true), 692, false, true), (96, (4, 0, .object "RoutingField$Link", false), 871, false, false), (161, (4, 3, .int, true), 876, false, false), (322, (4, 4, .int, true), 880, false, false), (254, (4, 5, .boolean, true), 884, false, false), (329, (4, 6, .object "RoutingField$Chain", false), 889, false, false), (312, (4, 7, .array (.object "RoutingField$Prefix"), false), 892, false, false), (309, (4, 8, .int, true), 895, false, false), (292, (4, 9, .array .int, false), 899, false, false), (295, (4, 10, .array .boolean, false), 901, false, false), (264, (4, 11, .array (.object "RoutingField$Prefix"), false), 903, false, false), (261, (4, 12, .int, true), 906, false, false), (271, (4, 13, .int, true), 910, false, false), (274, (4, 14, .boolean, true), 914, false, false), (366, (4, 15, .int, true), 918, false, false), (206, (8, 0, .object "RoutingField$Prefix", false), 1042, false, false), (503, (8, 1, .object "RoutingField$Prefix", false), 1046, false, false), (502, (8, 2, .object "RoutingField$Prefix", false), 1048, false, false), (171, (8, 3, .int, true), 1050, false, false), (121, (8, 4, .int, true), 1053, false, false), (168, (8, 5, .int, true), 1057, false, false), (174, (8, 6, .object "RoutingField$Port", true), 1061, false, false), (103, (8, 7, .boolean, true), 1064, false, false), (108, (8, 8, .int, true), 1067, false, false), (111, (8, 9, .int, true), 1069, false, false), (118, (8, 10, .int, true), 1071, false, false)]
set_option maxRecDepth 100000 in
theorem kF_Rr_ok : ∀ q ∈ kF_Rr, kf_chk "RoutingField$Router" q = true := by decide +kernel
def kM_Rr : List (Nat × kmE) := [(15, (4, [.null, .null, .null, .int 0, .int 0, .int 0, .null, .null, .int 0, .null, .null, .null, .int 0, .int 0, .int 0, .int 0, .null, .null, .int 0]), 602, 862, 18), (25, (10, [.null, .int 0]), 604, 166, 5), (35, (6, [.null, .null, .null, .null, .null, .int 0]), 606, 609, 16)]
set_option maxRecDepth 100000 in
theorem kM_Rr_ok : ∀ q ∈ kM_Rr, km_chk "RoutingField$Router" q = true := by decide +kernel
def kA_Rr : List (Nat × String × Nat × Nat) := [(15, "RoutingField$Port", 602, 603), (35, "RoutingField$PrefixList", 606, 58)]
set_option maxRecDepth 100000 in
theorem kA_Rr_ok : ∀ q ∈ kA_Rr, tables_1[q.2.2.1]? = some (.classLink "RoutingField$Router" q.1 q.2.1) ∧ q.2.1 ∈ kZ5 := by decide +kernel
def kI_Rr : List (Nat × Int32 × Nat) := []
set_option maxRecDepth 100000 in
theorem kI_Rr_ok : ∀ q ∈ kI_Rr, tables_1[q.2.2]? = some (.constant "RoutingField$Router" q.1 q.2.1) := by decide +kernel
def kJ_Rr : List (Nat × Int64 × Nat) := [(461, 16, 1549), (478, 255, 1562)]
set_option maxRecDepth 100000 in
theorem kJ_Rr_ok : ∀ q ∈ kJ_Rr, tables_1[q.2.2]? = some (.constantLong "RoutingField$Router" q.1 q.2.1) := by decide +kernel
def kS_Rr (sa : Nat → Nat) : List (Nat × ksE) := []
def kE_Rr : List (Nat × String × Nat) := [(85, "", 3)]
theorem kS_Rr_ok (sa : Nat → Nat) : ∀ q ∈ kS_Rr sa, tables_1[q.2.2.2.1]? = some (kf_link "RoutingField$Router" q.1 q.2.2.2.2 (q.2.1.1, q.2.1.2.1, q.2.1.2.2, false)) ∧ (q.2.2.2.2 = true → ("RoutingField$Router", q.1, q.2.1.1, q.2.1.2.1, q.2.1.2.2, "RoutingField") ∈ kZ3) ∧ (q.2.1.1, q.2.1.2.1, q.2.1.2.2, q.2.2.1) ∈ (kZ sa).1 := fun _ h => absurd h List.not_mem_nil
set_option maxRecDepth 100000 in
theorem kE_Rr_in : ∀ q ∈ kE_Rr, ("RoutingField$Router", q.1, q.2.1, q.2.2) ∈ kZ2 := by decide +kernel
theorem kE_Rr_ok (sa : Nat → Nat) : ∀ q ∈ kE_Rr, ("RoutingField$Router", q.1, q.2.1, sa q.2.2) ∈ (kZ sa).2.1 := fun q hq => List.mem_map.mpr ⟨_, kE_Rr_in q hq, rfl⟩
def kF_Ta : List (Nat × kfE) := [(41, (5, 0, .int, true), 78, false, false), (9, (10, 0, .array (.object "RoutingField$Route"), true), 173, false, true), (15, (10, 1, .int, true), 176, false, true), (19, (8, 0, .object "RoutingField$Prefix", false), 1041, false, false)]
set_option maxRecDepth 100000 in
theorem kF_Ta_ok : ∀ q ∈ kF_Ta, kf_chk "RoutingField$Table" q = true := by decide +kernel
def kM_Ta : List (Nat × kmE) := [(7, (8, [.null, .null, .null, .int 0, .int 0, .int 0, .null, .int 0, .int 0, .int 0, .int 0]), 171, 1033, 19)]
set_option maxRecDepth 100000 in
theorem kM_Ta_ok : ∀ q ∈ kM_Ta, km_chk "RoutingField$Table" q = true := by decide +kernel
def kA_Ta : List (Nat × String × Nat × Nat) := [(7, "RoutingField$Route", 171, 172)]
set_option maxRecDepth 100000 in
theorem kA_Ta_ok : ∀ q ∈ kA_Ta, tables_1[q.2.2.1]? = some (.classLink "RoutingField$Table" q.1 q.2.1) ∧ q.2.1 ∈ kZ5 := by decide +kernel
def kI_Ta : List (Nat × Int32 × Nat) := []
set_option maxRecDepth 100000 in
theorem kI_Ta_ok : ∀ q ∈ kI_Ta, tables_1[q.2.2]? = some (.constant "RoutingField$Table" q.1 q.2.1) := by decide +kernel
def kJ_Ta : List (Nat × Int64 × Nat) := []
set_option maxRecDepth 100000 in
theorem kJ_Ta_ok : ∀ q ∈ kJ_Ta, tables_1[q.2.2]? = some (.constantLong "RoutingField$Table" q.1 q.2.1) := by decide +kernel
def kS_Ta (sa : Nat → Nat) : List (Nat × ksE) := []
def kE_Ta : List (Nat × String × Nat) := []
theorem kS_Ta_ok (sa : Nat → Nat) : ∀ q ∈ kS_Ta sa, tables_1[q.2.2.2.1]? = some (kf_link "RoutingField$Table" q.1 q.2.2.2.2 (q.2.1.1, q.2.1.2.1, q.2.1.2.2, false)) ∧ (q.2.2.2.2 = true → ("RoutingField$Table", q.1, q.2.1.1, q.2.1.2.1, q.2.1.2.2, "RoutingField") ∈ kZ3) ∧ (q.2.1.1, q.2.1.2.1, q.2.1.2.2, q.2.2.1) ∈ (kZ sa).1 := fun _ h => absurd h List.not_mem_nil
set_option maxRecDepth 100000 in
theorem kE_Ta_in : ∀ q ∈ kE_Ta, ("RoutingField$Table", q.1, q.2.1, q.2.2) ∈ kZ2 := by decide +kernel
theorem kE_Ta_ok (sa : Nat → Nat) : ∀ q ∈ kE_Ta, ("RoutingField$Table", q.1, q.2.1, sa q.2.2) ∈ (kZ sa).2.1 := fun q hq => List.mem_map.mpr ⟨_, kE_Ta_in q hq, rfl⟩
def kF_La : List (Nat × kfE) := []
set_option maxRecDepth 100000 in
theorem kF_La_ok : ∀ q ∈ kF_La, kf_chk "RoutingFieldLaw" q = true := by decide +kernel
def kM_La : List (Nat × kmE) := [(8, (11, [.null, .null, .null, .null, .int 0, .int 0, .null, .int 0, .null, .int 0, .null, .int 0, .null, .int 0, .null, .int 0, .null, .null, .null, .null]), 25, 26, 1), (13, (14, [.null, .null, .null, .null, .null, .int 0]), 1903, 1909, 24), (16, (12, [.int 0, .int 0, .null, .int 0, .int 0, .null, .int 0, .null, .int 0, .null, .null, .int 0, .int 0, .long 0, .long 0, .int 0, .null, .int 0, .null, .null, .null, .null, .null, .null, .null, .null, .null, .int 0, .null, .null, .null, .null, .null, .null, .null, .null, .null, .int 0, .null, .null, .null, .null, .null, .null, .null, .null, .null, .null, .null, .null, .null, .null, .null, .null, .null, .null, .null, .null, .null, .null, .null, .null, .null, .null, .null, .null, .null, .null, .null, .null, .null, .null, .null, .null, .null, .null, .null, .null, .null, .null, .null, .null, .null, .null, .null, .null, .null, .null, .null, .null, .null, .null, .null, .null, .null, .null, .null, .null, .null, .null, .null, .int 0, .null, .null, .null, .null, .null, .null, .null, .null, .null, .null, .null, .null, .null, .null, .null, .null, .null, .null, .null, .null, .null, .int 0, .null, .null, .null, .null, .null, .null, .null, .null, .null, .null, .null, .null, .null, .null, .null, .int 0, .null, .null, .null, .null, .null, .int 0, .null, .null, .int 0, .null, .int 0, .null, .null, .int 0, .int 0, .int 0, .int 0, .null, .null, .null, .null, .null, .int 0, .int 0, .long 0, .long 0]), 1973, 1974, 6)]
set_option maxRecDepth 100000 in
theorem kM_La_ok : ∀ q ∈ kM_La, km_chk "RoutingFieldLaw" q = true := by decide +kernel
def kA_La : List (Nat × String × Nat × Nat) := []
set_option maxRecDepth 100000 in
theorem kA_La_ok : ∀ q ∈ kA_La, tables_1[q.2.2.1]? = some (.classLink "RoutingFieldLaw" q.1 q.2.1) ∧ q.2.1 ∈ kZ5 := by decide +kernel
def kI_La : List (Nat × Int32 × Nat) := []
set_option maxRecDepth 100000 in
theorem kI_La_ok : ∀ q ∈ kI_La, tables_1[q.2.2]? = some (.constant "RoutingFieldLaw" q.1 q.2.1) := by decide +kernel
def kJ_La : List (Nat × Int64 × Nat) := []
set_option maxRecDepth 100000 in
theorem kJ_La_ok : ∀ q ∈ kJ_La, tables_1[q.2.2]? = some (.constantLong "RoutingFieldLaw" q.1 q.2.1) := by decide +kernel
def kS_La (sa : Nat → Nat) : List (Nat × ksE) := []
def kE_La : List (Nat × String × Nat) := []
theorem kS_La_ok (sa : Nat → Nat) : ∀ q ∈ kS_La sa, tables_1[q.2.2.2.1]? = some (kf_link "RoutingFieldLaw" q.1 q.2.2.2.2 (q.2.1.1, q.2.1.2.1, q.2.1.2.2, false)) ∧ (q.2.2.2.2 = true → ("RoutingFieldLaw", q.1, q.2.1.1, q.2.1.2.1, q.2.1.2.2, "RoutingField") ∈ kZ3) ∧ (q.2.1.1, q.2.1.2.1, q.2.1.2.2, q.2.2.1) ∈ (kZ sa).1 := fun _ h => absurd h List.not_mem_nil
set_option maxRecDepth 100000 in
theorem kE_La_in : ∀ q ∈ kE_La, ("RoutingFieldLaw", q.1, q.2.1, q.2.2) ∈ kZ2 := by decide +kernel
theorem kE_La_ok (sa : Nat → Nat) : ∀ q ∈ kE_La, ("RoutingFieldLaw", q.1, q.2.1, sa q.2.2) ∈ (kZ sa).2.1 := fun q hq => List.mem_map.mpr ⟨_, kE_La_in q hq, rfl⟩
def kF_Mo : List (Nat × kfE) := [(427, (12, 0, .int, true), 1980, false, true), (657, (12, 1, .int, true), 1981, false, true), (7, (12, 2, .array .int, false), 1982, false, true), (452, (12, 3, .int, true), 1983, false, true), (523, (12, 4, .int, true), 1984, false, true), (13, (12, 5, .array .int, true), 1985, false, true), (1148, (12, 6, .int, true), 1986, false, true), (16, (12, 7, .array .int, true), 1987, false, true), (1114, (12, 8, .int, true), 1988, false, true), (19, (12, 9, .array .int, false), 1989, false, true), (22, (12, 10, .array .int, false), 1990, false, true), (530, (12, 11, .int, true), 1991, false, true), (487, (12, 12, .int, true), 1992, false, true), (490, (12, 13, .long, true), 1993, false, true), (494, (12, 14, .long, true), 1994, false, true), (513, (12, 15, .int, true), 1995, false, true), (25, (12, 16, .array .int, false), 1996, false, true), (474, (12, 17, .int, true), 1997, false, true), (28, (12, 18, .array .long, false), 1998, false, true), (32, (12, 19, .array .int, false), 1999, false, true), (35, (12, 20, .array .int, false), 2000, false, true), (38, (12, 21, .array .int, false), 2001, false, true), (41, (12, 22, .array .boolean, false), 2002, false, true), (45, (12, 23, .array .int, false), 2003, false, true), (48, (12, 24, .array .int, false), 2004, false, true), (51, (12, 25, .array .int, false), 2005, false, true), (54, (12, 26, .array .int, false), 2006, false, true), (480, (12, 27, .int, true), 2007, false, true), (57, (12, 28, .array .long, false), 2008, false, true), (60, (12, 29, .array .int, false), 2009, false, true), (63, (12, 30, .array .boolean, false), 2010, false, true), (66, (12, 31, .array .int, false), 2011, false, true), (69, (12, 32, .array .long, false), 2012, false, true), (72, (12, 33, .array .long, false), 2013, false, true), (75, (12, 34, .array .int, false), 2014, false, true), (78, (12, 35, .array .int, false), 2015, false, true), (81, (12, 36, .array .int, false), 2016, false, true), (477, (12, 37, .int, true), 2017, false, true), (84, (12, 38, .array .long, false), 2018, false, true), (87, (12, 39, .array .boolean, false), 2019, false, true), (90, (12, 40, .array .int, false), 2020, false, true), (93, (12, 41, .array .int, false), 2021, false, true), (96, (12, 42, .array .int, false), 2022, false, true), (99, (12, 43, .array .int, false), 2023, false, true), (102, (12, 44, .array .int, false), 2024, false, true), (105, (12, 45, .array .int, false), 2025, false, true), (108, (12, 46, .array .int, false), 2026, false, true), (111, (12, 47, .array .int, false), 2027, false, true), (114, (12, 48, .array .long, false), 2028, false, true), (117, (12, 49, .array .long, false), 2029, false, true), (120, (12, 50, .array .int, false), 2030, false, true), (123, (12, 51, .array .int, false), 2031, false, true), (126, (12, 52, .array .int, false), 2032, false, true), (129, (12, 53, .array .int, false), 2033, false, true), (132, (12, 54, .array .int, false), 2034, false, true), (135, (12, 55, .array .long, false), 2035, false, true), (138, (12, 56, .array .long, false), 2036, false, true), (141, (12, 57, .array .int, false), 2037, false, true), (144, (12, 58, .array .boolean, false), 2038, false, true), (147, (12, 59, .array .int, false), 2039, false, true), (150, (12, 60, .array .int, false), 2040, false, true), (153, (12, 61, .array .int, false), 2041, false, true), (156, (12, 62, .array .int, false), 2042, false, true), (159, (12, 63, .array .int, false), 2043, false, true), (162, (12, 64, .array .int, false), 2044, false, true), (165, (12, 65, .array .int, false), 2045, false, true), (168, (12, 66, .array .int, false), 2046, false, true), (171, (12, 67, .array .int, false), 2047, false, true), (174, (12, 68, .array .int, false), 2048, false, true), (177, (12, 69, .array .int, false), 2049, false, true), (180, (12, 70, .array .int, false), 2050, false, true), (183, (12, 71, .array .int, false), 2051, false, true), (186, (12, 72, .array .int, false), 2052, false, true), (189, (12, 73, .array .long, false), 2053, false, true), (192, (12, 74, .array .boolean, false), 2054, false, true), (195, (12, 75, .array .boolean, false), 2055, false, true), (198, (12, 76, .array .long, false), 2056, false, true), (201, (12, 77, .array .long, false), 2057, false, true), (204, (12, 78, .array .int, false), 2058, false, true), (207, (12, 79, .array .int, false), 2059, false, true), (210, (12, 80, .array .int, false), 2060, false, true), (213, (12, 81, .array .int, false), 2061, false, true), (216, (12, 82, .array .int, false), 2062, false, true), (219, (12, 83, .array .int, false), 2063, false, true), (222, (12, 84, .array .boolean, false), 2064, false, true), (225, (12, 85, .array .int, false), 2065, false, true), (228, (12, 86, .array .int, false), 2066, false, true), (231, (12, 87, .array .int, false), 2067, false, true), (234, (12, 88, .array .int, false), 2068, false, true), (237, (12, 89, .array .int, false), 2069, false, true), (240, (12, 90, .array .int, false), 2070, false, true), (243, (12, 91, .array .int, false), 2071, false, true), (246, (12, 92, .array .long, false), 2072, false, true), (249, (12, 93, .array .long, false), 2073, false, true), (252, (12, 94, .array .int, false), 2074, false, true), (255, (12, 95, .array .int, false), 2075, false, true), (258, (12, 96, .array .int, false), 2076, false, true), (261, (12, 97, .array .long, false), 2077, false, true), (264, (12, 98, .array .long, false), 2078, false, true), (267, (12, 99, .array .int, false), 2079, false, true), (270, (12, 100, .array .boolean, false), 2080, false, true), (1026, (12, 101, .int, true), 2081, false, true), (273, (12, 102, .array .int, true), 2082, false, true), (276, (12, 103, .array .long, true), 2083, false, true), (279, (12, 104, .array .long, true), 2084, false, true), (282, (12, 105, .array .int, false), 2085, false, true), (285, (12, 106, .array .int, false), 2086, false, true), (288, (12, 107, .array .long, false), 2087, false, true), (291, (12, 108, .array .long, false), 2088, false, true), (294, (12, 109, .array .int, false), 2089, false, true), (297, (12, 110, .array .int, false), 2090, false, true), (300, (12, 111, .array .int, false), 2091, false, true), (303, (12, 112, .array .int, false), 2092, false, true), (306, (12, 113, .array .int, false), 2093, false, true), (309, (12, 114, .array .long, false), 2094, false, true), (312, (12, 115, .array .long, false), 2095, false, true), (315, (12, 116, .array .int, false), 2096, false, true), (318, (12, 117, .array .long, false), 2097, false, true), (321, (12, 118, .array .long, false), 2098, false, true), (324, (12, 119, .array .boolean, false), 2099, false, true), (327, (12, 120, .array .int, false), 2100, false, true), (330, (12, 121, .array .int, false), 2101, false, true), (333, (12, 122, .array .int, false), 2102, false, true), (934, (12, 123, .int, true), 2103, false, true), (336, (12, 124, .array .int, false), 2104, false, true), (339, (12, 125, .array .boolean, false), 2105, false, true), (342, (12, 126, .array .int, false), 2106, false, true), (345, (12, 127, .array .int, false), 2107, false, true), (348, (12, 128, .array .boolean, false), 2108, false, true), (351, (12, 129, .array .long, false), 2109, false, true), (354, (12, 130, .array .long, false), 2110, false, true), (357, (12, 131, .array .int, false), 2111, false, true), (360, (12, 132, .array .long, false), 2112, false, true), (363, (12, 133, .array .long, false), 2113, false, true), (366, (12, 134, .array .int, false), 2114, false, true), (369, (12, 135, .array .int, false), 2115, false, true), (372, (12, 136, .array .int, false), 2116, false, true), (375, (12, 137, .array .int, false), 2117, false, true), (379, (12, 138, .array .int, false), 2118, false, true), (965, (12, 139, .int, true), 2119, false, true), (382, (12, 140, .array .long, false), 2120, false, true), (385, (12, 141, .array .long, false), 2121, false, true), (388, (12, 142, .array .int, false), 2122, false, true), (391, (12, 143, .array .int, false), 2123, false, true), (394, (12, 144, .array .int, false), 2124, false, true), (950, (12, 145, .int, true), 2125, false, true), (397, (12, 146, .array .int, false), 2126, false, true), (400, (12, 147, .array .int, false), 2127, false, true), (921, (12, 148, .int, true), 2128, false, true), (403, (12, 149, .array .int, false), 2129, false, true), (1005, (12, 150, .int, true), 2130, false, true), (406, (12, 151, .array .int, false), 2131, false, true), (409, (12, 152, .array .boolean, false), 2132, false, true), (780, (12, 153, .int, true), 2133, false, true), (783, (12, 154, .int, true), 2134, false, true), (786, (12, 155, .int, true), 2135, false, true), (773, (12, 156, .int, true), 2136, false, true), (412, (12, 157, .array .int, false), 2137, false, true), (415, (12, 158, .array .int, false), 2138, false, true), (418, (12, 159, .array .int, false), 2139, false, true), (421, (12, 160, .array .int, false), 2140, false, true), (424, (12, 161, .array .long, false), 2141, false, true), (1002, (12, 162, .int, true), 2142, false, true), (1008, (12, 163, .int, true), 2143, false, true), (1073, (12, 164, .long, true), 2144, false, true), (1076, (12, 165, .long, true), 2145, false, true)]
set_option maxRecDepth 100000 in
theorem kF_Mo_ok : ∀ q ∈ kF_Mo, kf_chk "RoutingFieldModel" q = true := by decide +kernel
def kM_Mo : List (Nat × kmE) := []
set_option maxRecDepth 100000 in
theorem kM_Mo_ok : ∀ q ∈ kM_Mo, km_chk "RoutingFieldModel" q = true := by decide +kernel
def kA_Mo : List (Nat × String × Nat × Nat) := []
set_option maxRecDepth 100000 in
theorem kA_Mo_ok : ∀ q ∈ kA_Mo, tables_1[q.2.2.1]? = some (.classLink "RoutingFieldModel" q.1 q.2.1) ∧ q.2.1 ∈ kZ5 := by decide +kernel
def kI_Mo : List (Nat × Int32 × Nat) := [(378, 179200, 1979), (692, 99999, 2632), (714, 65535, 2727), (892, 1732584193, 2748), (893, (-271733879), 2749), (894, (-1732584194), 2750), (895, 271733878, 2751), (896, (-1009589776), 2752), (888, 1518500249, 2766), (889, 1859775393, 2767), (890, (-1894007588), 2768), (891, (-899497514), 2769), (815, (-680876936), 2777), (816, (-389564586), 2778), (817, 606105819, 2779), (818, (-1044525330), 2780), (819, (-176418897), 2781), (820, 1200080426, 2782), (821, (-1473231341), 2783), (822, (-45705983), 2784), (823, 1770035416, 2785), (824, (-1958414417), 2786), (825, (-42063), 2787), (826, (-1990404162), 2788), (827, 1804603682, 2789), (828, (-40341101), 2790), (829, (-1502002290), 2791), (830, 1236535329, 2792), (831, (-165796510), 2793), (832, (-1069501632), 2794), (833, 643717713, 2795), (834, (-373897302), 2796), (835, (-701558691), 2797), (836, 38016083, 2798), (837, (-660478335), 2799), (838, (-405537848), 2800), (839, 568446438, 2801), (840, (-1019803690), 2802), (841, (-187363961), 2803), (842, 1163531501, 2804), (843, (-1444681467), 2805), (844, (-51403784), 2806), (845, 1735328473, 2807), (846, (-1926607734), 2808), (847, (-378558), 2809), (848, (-2022574463), 2810), (849, 1839030562, 2811), (850, (-35309556), 2812), (851, (-1530992060), 2813), (852, 1272893353, 2814), (853, (-155497632), 2815), (854, (-1094730640), 2816), (855, 681279174, 2817), (856, (-358537222), 2818), (857, (-722521979), 2819), (858, 76029189, 2820), (859, (-640364487), 2821), (860, (-421815835), 2822), (861, 530742520, 2823), (862, (-995338651), 2824), (863, (-198630844), 2825), (864, 1126891415, 2826), (865, (-1416354905), 2827), (866, (-57434055), 2828), (867, 1700485571, 2829), (868, (-1894986606), 2830), (869, (-1051523), 2831), (870, (-2054922799), 2832), (871, 1873313359, 2833), (872, (-30611744), 2834), (873, (-1560198380), 2835), (874, 1309151649, 2836), (875, (-145523070), 2837), (876, (-1120210379), 2838), (877, 718787259, 2839), (878, (-343485551), 2840), (1232, 40000, 3277)]
set_option maxRecDepth 100000 in
theorem kI_Mo_ok : ∀ q ∈ kI_Mo, tables_1[q.2.2]? = some (.constant "RoutingFieldModel" q.1 q.2.1) := by decide +kernel
def kJ_Mo : List (Nat × Int64 × Nat) := [(459, 37, 2519), (465, 40, 2523), (540, 782971, 2524), (632, 1048352218, 2529), (634, 21621, 2530), (624, 20992, 2538), (626, 30721, 2539), (628, 65688271285, 2540), (630, 982905, 2541), (545, 1882976218, 2562), (550, 664374, 2571), (660, 216780, 2576), (662, 49683580, 2577), (664, 2627531736724, 2578), (666, 24246, 2579), (668, 1969498085, 2580), (670, 1677407014, 2581), (431, (-1), 2656), (446, (-9223372036854775808), 2702), (811, 8, 2757), (813, 255, 2758), (937, 3, 2848), (555, 17825, 2849), (560, 36817825, 2858), (565, 1996896363, 2863), (709, 32047, 2868), (570, 2357196896363, 2876), (575, 638240218, 2881), (719, 374, 2890), (721, 24860, 2891), (723, 1652373180, 2896), (725, 264585, 2897), (580, 783180, 2898), (733, 285, 2903), (735, 485, 2904), (585, 1110755146402405, 2909), (590, 1551774620, 2918), (595, 80008514345, 2923), (600, 2315180035818, 2928), (605, 7603286755146402405, 2937), (746, 22177190624204, 2942), (748, 24934, 2943), (610, 16911458100, 2944), (615, 2071880739, 2949), (1061, 4294967295, 3018), (1046, 16, 3019), (1063, 127, 3023), (1065, 7, 3024), (1067, 1018, 3025), (1128, 65535, 3173), (1117, 5, 3193), (1157, 433800140, 3194), (1159, 35561, 3195), (1161, 13110667404, 3200), (1166, 856, 3205), (1168, 280934, 3206), (1170, 985814, 3207), (1172, 8193974, 3208), (1244, 1000, 3294), (1250, 15, 3299)]
set_option maxRecDepth 100000 in
theorem kJ_Mo_ok : ∀ q ∈ kJ_Mo, tables_1[q.2.2]? = some (.constantLong "RoutingFieldModel" q.1 q.2.1) := by decide +kernel
def kS_Mo (sa : Nat → Nat) : List (Nat × ksE) := []
def kE_Mo : List (Nat × String × Nat) := []
theorem kS_Mo_ok (sa : Nat → Nat) : ∀ q ∈ kS_Mo sa, tables_1[q.2.2.2.1]? = some (kf_link "RoutingFieldModel" q.1 q.2.2.2.2 (q.2.1.1, q.2.1.2.1, q.2.1.2.2, false)) ∧ (q.2.2.2.2 = true → ("RoutingFieldModel", q.1, q.2.1.1, q.2.1.2.1, q.2.1.2.2, "RoutingField") ∈ kZ3) ∧ (q.2.1.1, q.2.1.2.1, q.2.1.2.2, q.2.2.1) ∈ (kZ sa).1 := fun _ h => absurd h List.not_mem_nil
set_option maxRecDepth 100000 in
theorem kE_Mo_in : ∀ q ∈ kE_Mo, ("RoutingFieldModel", q.1, q.2.1, q.2.2) ∈ kZ2 := by decide +kernel
theorem kE_Mo_ok (sa : Nat → Nat) : ∀ q ∈ kE_Mo, ("RoutingFieldModel", q.1, q.2.1, sa q.2.2) ∈ (kZ sa).2.1 := fun q hq => List.mem_map.mpr ⟨_, kE_Mo_in q hq, rfl⟩
def kF_Ex : List (Nat × kfE) := []
set_option maxRecDepth 100000 in
theorem kF_Ex_ok : ∀ q ∈ kF_Ex, kf_chk "java/lang/Exception" q = true := by decide +kernel
def kM_Ex : List (Nat × kmE) := []
set_option maxRecDepth 100000 in
theorem kM_Ex_ok : ∀ q ∈ kM_Ex, km_chk "java/lang/Exception" q = true := by decide +kernel
def kA_Ex : List (Nat × String × Nat × Nat) := []
set_option maxRecDepth 100000 in
theorem kA_Ex_ok : ∀ q ∈ kA_Ex, tables_1[q.2.2.1]? = some (.classLink "java/lang/Exception" q.1 q.2.1) ∧ q.2.1 ∈ kZ5 := by decide +kernel
def kI_Ex : List (Nat × Int32 × Nat) := []
set_option maxRecDepth 100000 in
theorem kI_Ex_ok : ∀ q ∈ kI_Ex, tables_1[q.2.2]? = some (.constant "java/lang/Exception" q.1 q.2.1) := by decide +kernel
def kJ_Ex : List (Nat × Int64 × Nat) := []
set_option maxRecDepth 100000 in
theorem kJ_Ex_ok : ∀ q ∈ kJ_Ex, tables_1[q.2.2]? = some (.constantLong "java/lang/Exception" q.1 q.2.1) := by decide +kernel
def kS_Ex (sa : Nat → Nat) : List (Nat × ksE) := []
def kE_Ex : List (Nat × String × Nat) := []
theorem kS_Ex_ok (sa : Nat → Nat) : ∀ q ∈ kS_Ex sa, tables_1[q.2.2.2.1]? = some (kf_link "java/lang/Exception" q.1 q.2.2.2.2 (q.2.1.1, q.2.1.2.1, q.2.1.2.2, false)) ∧ (q.2.2.2.2 = true → ("java/lang/Exception", q.1, q.2.1.1, q.2.1.2.1, q.2.1.2.2, "RoutingField") ∈ kZ3) ∧ (q.2.1.1, q.2.1.2.1, q.2.1.2.2, q.2.2.1) ∈ (kZ sa).1 := fun _ h => absurd h List.not_mem_nil
set_option maxRecDepth 100000 in
theorem kE_Ex_in : ∀ q ∈ kE_Ex, ("java/lang/Exception", q.1, q.2.1, q.2.2) ∈ kZ2 := by decide +kernel
theorem kE_Ex_ok (sa : Nat → Nat) : ∀ q ∈ kE_Ex, ("java/lang/Exception", q.1, q.2.1, sa q.2.2) ∈ (kZ sa).2.1 := fun q hq => List.mem_map.mpr ⟨_, kE_Ex_in q hq, rfl⟩
def kF_Ig : List (Nat × kfE) := []
set_option maxRecDepth 100000 in
theorem kF_Ig_ok : ∀ q ∈ kF_Ig, kf_chk "java/lang/Integer" q = true := by decide +kernel
def kM_Ig : List (Nat × kmE) := []
set_option maxRecDepth 100000 in
theorem kM_Ig_ok : ∀ q ∈ kM_Ig, km_chk "java/lang/Integer" q = true := by decide +kernel
def kA_Ig : List (Nat × String × Nat × Nat) := []
set_option maxRecDepth 100000 in
theorem kA_Ig_ok : ∀ q ∈ kA_Ig, tables_1[q.2.2.1]? = some (.classLink "java/lang/Integer" q.1 q.2.1) ∧ q.2.1 ∈ kZ5 := by decide +kernel
def kI_Ig : List (Nat × Int32 × Nat) := [(265, 1431655765, 1545), (266, 858993459, 1546), (267, 252645135, 1547)]
set_option maxRecDepth 100000 in
theorem kI_Ig_ok : ∀ q ∈ kI_Ig, tables_1[q.2.2]? = some (.constant "java/lang/Integer" q.1 q.2.1) := by decide +kernel
def kJ_Ig : List (Nat × Int64 × Nat) := []
set_option maxRecDepth 100000 in
theorem kJ_Ig_ok : ∀ q ∈ kJ_Ig, tables_1[q.2.2]? = some (.constantLong "java/lang/Integer" q.1 q.2.1) := by decide +kernel
def kS_Ig (sa : Nat → Nat) : List (Nat × ksE) := []
def kE_Ig : List (Nat × String × Nat) := []
theorem kS_Ig_ok (sa : Nat → Nat) : ∀ q ∈ kS_Ig sa, tables_1[q.2.2.2.1]? = some (kf_link "java/lang/Integer" q.1 q.2.2.2.2 (q.2.1.1, q.2.1.2.1, q.2.1.2.2, false)) ∧ (q.2.2.2.2 = true → ("java/lang/Integer", q.1, q.2.1.1, q.2.1.2.1, q.2.1.2.2, "RoutingField") ∈ kZ3) ∧ (q.2.1.1, q.2.1.2.1, q.2.1.2.2, q.2.2.1) ∈ (kZ sa).1 := fun _ h => absurd h List.not_mem_nil
set_option maxRecDepth 100000 in
theorem kE_Ig_in : ∀ q ∈ kE_Ig, ("java/lang/Integer", q.1, q.2.1, q.2.2) ∈ kZ2 := by decide +kernel
theorem kE_Ig_ok (sa : Nat → Nat) : ∀ q ∈ kE_Ig, ("java/lang/Integer", q.1, q.2.1, sa q.2.2) ∈ (kZ sa).2.1 := fun q hq => List.mem_map.mpr ⟨_, kE_Ig_in q hq, rfl⟩
def kF_Rx : List (Nat × kfE) := []
set_option maxRecDepth 100000 in
theorem kF_Rx_ok : ∀ q ∈ kF_Rx, kf_chk "java/lang/RuntimeException" q = true := by decide +kernel
def kM_Rx : List (Nat × kmE) := []
set_option maxRecDepth 100000 in
theorem kM_Rx_ok : ∀ q ∈ kM_Rx, km_chk "java/lang/RuntimeException" q = true := by decide +kernel
def kA_Rx : List (Nat × String × Nat × Nat) := []
set_option maxRecDepth 100000 in
theorem kA_Rx_ok : ∀ q ∈ kA_Rx, tables_1[q.2.2.1]? = some (.classLink "java/lang/RuntimeException" q.1 q.2.1) ∧ q.2.1 ∈ kZ5 := by decide +kernel
def kI_Rx : List (Nat × Int32 × Nat) := []
set_option maxRecDepth 100000 in
theorem kI_Rx_ok : ∀ q ∈ kI_Rx, tables_1[q.2.2]? = some (.constant "java/lang/RuntimeException" q.1 q.2.1) := by decide +kernel
def kJ_Rx : List (Nat × Int64 × Nat) := []
set_option maxRecDepth 100000 in
theorem kJ_Rx_ok : ∀ q ∈ kJ_Rx, tables_1[q.2.2]? = some (.constantLong "java/lang/RuntimeException" q.1 q.2.1) := by decide +kernel
def kS_Rx (sa : Nat → Nat) : List (Nat × ksE) := []
def kE_Rx : List (Nat × String × Nat) := []
theorem kS_Rx_ok (sa : Nat → Nat) : ∀ q ∈ kS_Rx sa, tables_1[q.2.2.2.1]? = some (kf_link "java/lang/RuntimeException" q.1 q.2.2.2.2 (q.2.1.1, q.2.1.2.1, q.2.1.2.2, false)) ∧ (q.2.2.2.2 = true → ("java/lang/RuntimeException", q.1, q.2.1.1, q.2.1.2.1, q.2.1.2.2, "RoutingField") ∈ kZ3) ∧ (q.2.1.1, q.2.1.2.1, q.2.1.2.2, q.2.2.1) ∈ (kZ sa).1 := fun _ h => absurd h List.not_mem_nil
set_option maxRecDepth 100000 in
theorem kE_Rx_in : ∀ q ∈ kE_Rx, ("java/lang/RuntimeException", q.1, q.2.1, q.2.2) ∈ kZ2 := by decide +kernel
theorem kE_Rx_ok (sa : Nat → Nat) : ∀ q ∈ kE_Rx, ("java/lang/RuntimeException", q.1, q.2.1, sa q.2.2) ∈ (kZ sa).2.1 := fun q hq => List.mem_map.mpr ⟨_, kE_Rx_in q hq, rfl⟩
def kF_St : List (Nat × kfE) := [(9, (13, 0, .array .byte, false), 531, false, true), (15, (13, 1, .byte, false), 532, false, true)]
set_option maxRecDepth 100000 in
theorem kF_St_ok : ∀ q ∈ kF_St, kf_chk "java/lang/String" q = true := by decide +kernel
def kM_St : List (Nat × kmE) := []
set_option maxRecDepth 100000 in
theorem kM_St_ok : ∀ q ∈ kM_St, km_chk "java/lang/String" q = true := by decide +kernel
def kA_St : List (Nat × String × Nat × Nat) := []
set_option maxRecDepth 100000 in
theorem kA_St_ok : ∀ q ∈ kA_St, tables_1[q.2.2.1]? = some (.classLink "java/lang/String" q.1 q.2.1) ∧ q.2.1 ∈ kZ5 := by decide +kernel
def kI_St : List (Nat × Int32 × Nat) := []
set_option maxRecDepth 100000 in
theorem kI_St_ok : ∀ q ∈ kI_St, tables_1[q.2.2]? = some (.constant "java/lang/String" q.1 q.2.1) := by decide +kernel
def kJ_St : List (Nat × Int64 × Nat) := []
set_option maxRecDepth 100000 in
theorem kJ_St_ok : ∀ q ∈ kJ_St, tables_1[q.2.2]? = some (.constantLong "java/lang/String" q.1 q.2.1) := by decide +kernel
def kS_St (sa : Nat → Nat) : List (Nat × ksE) := [(38, ("java/lang/String", "COMPACT_STRINGS", "Z"), .int 1, 414, false)]
def kE_St : List (Nat × String × Nat) := [(7, "", 3)]
theorem kS_St_ok (sa : Nat → Nat) : ∀ q ∈ kS_St sa, tables_1[q.2.2.2.1]? = some (kf_link "java/lang/String" q.1 q.2.2.2.2 (q.2.1.1, q.2.1.2.1, q.2.1.2.2, false)) ∧ (q.2.2.2.2 = true → ("java/lang/String", q.1, q.2.1.1, q.2.1.2.1, q.2.1.2.2, "RoutingField") ∈ kZ3) ∧ (q.2.1.1, q.2.1.2.1, q.2.1.2.2, q.2.2.1) ∈ (kZ sa).1 := List.forall_mem_cons.mpr ⟨⟨by decide +kernel, by decide +kernel, List.mem_of_getElem? (i := 0) rfl⟩, fun _ h => absurd h List.not_mem_nil⟩
set_option maxRecDepth 100000 in
theorem kE_St_in : ∀ q ∈ kE_St, ("java/lang/String", q.1, q.2.1, q.2.2) ∈ kZ2 := by decide +kernel
theorem kE_St_ok (sa : Nat → Nat) : ∀ q ∈ kE_St, ("java/lang/String", q.1, q.2.1, sa q.2.2) ∈ (kZ sa).2.1 := fun q hq => List.mem_map.mpr ⟨_, kE_St_in q hq, rfl⟩
def kF_S1 : List (Nat × kfE) := []
set_option maxRecDepth 100000 in
theorem kF_S1_ok : ∀ q ∈ kF_S1, kf_chk "java/lang/StringLatin1" q = true := by decide +kernel
def kM_S1 : List (Nat × kmE) := []
set_option maxRecDepth 100000 in
theorem kM_S1_ok : ∀ q ∈ kM_S1, km_chk "java/lang/StringLatin1" q = true := by decide +kernel
def kA_S1 : List (Nat × String × Nat × Nat) := []
set_option maxRecDepth 100000 in
theorem kA_S1_ok : ∀ q ∈ kA_S1, tables_1[q.2.2.1]? = some (.classLink "java/lang/StringLatin1" q.1 q.2.1) ∧ q.2.1 ∈ kZ5 := by decide +kernel
def kI_S1 : List (Nat × Int32 × Nat) := []
set_option maxRecDepth 100000 in
theorem kI_S1_ok : ∀ q ∈ kI_S1, tables_1[q.2.2]? = some (.constant "java/lang/StringLatin1" q.1 q.2.1) := by decide +kernel
def kJ_S1 : List (Nat × Int64 × Nat) := []
set_option maxRecDepth 100000 in
theorem kJ_S1_ok : ∀ q ∈ kJ_S1, tables_1[q.2.2]? = some (.constantLong "java/lang/StringLatin1" q.1 q.2.1) := by decide +kernel
def kS_S1 (sa : Nat → Nat) : List (Nat × ksE) := []
def kE_S1 : List (Nat × String × Nat) := []
theorem kS_S1_ok (sa : Nat → Nat) : ∀ q ∈ kS_S1 sa, tables_1[q.2.2.2.1]? = some (kf_link "java/lang/StringLatin1" q.1 q.2.2.2.2 (q.2.1.1, q.2.1.2.1, q.2.1.2.2, false)) ∧ (q.2.2.2.2 = true → ("java/lang/StringLatin1", q.1, q.2.1.1, q.2.1.2.1, q.2.1.2.2, "RoutingField") ∈ kZ3) ∧ (q.2.1.1, q.2.1.2.1, q.2.1.2.2, q.2.2.1) ∈ (kZ sa).1 := fun _ h => absurd h List.not_mem_nil
set_option maxRecDepth 100000 in
theorem kE_S1_in : ∀ q ∈ kE_S1, ("java/lang/StringLatin1", q.1, q.2.1, q.2.2) ∈ kZ2 := by decide +kernel
theorem kE_S1_ok (sa : Nat → Nat) : ∀ q ∈ kE_S1, ("java/lang/StringLatin1", q.1, q.2.1, sa q.2.2) ∈ (kZ sa).2.1 := fun q hq => List.mem_map.mpr ⟨_, kE_S1_in q hq, rfl⟩
def kF_S2 : List (Nat × kfE) := []
set_option maxRecDepth 100000 in
theorem kF_S2_ok : ∀ q ∈ kF_S2, kf_chk "java/lang/StringUTF16" q = true := by decide +kernel
def kM_S2 : List (Nat × kmE) := []
set_option maxRecDepth 100000 in
theorem kM_S2_ok : ∀ q ∈ kM_S2, km_chk "java/lang/StringUTF16" q = true := by decide +kernel
def kA_S2 : List (Nat × String × Nat × Nat) := []
set_option maxRecDepth 100000 in
theorem kA_S2_ok : ∀ q ∈ kA_S2, tables_1[q.2.2.1]? = some (.classLink "java/lang/StringUTF16" q.1 q.2.1) ∧ q.2.1 ∈ kZ5 := by decide +kernel
def kI_S2 : List (Nat × Int32 × Nat) := [(20, 1073741823, 511)]
set_option maxRecDepth 100000 in
theorem kI_S2_ok : ∀ q ∈ kI_S2, tables_1[q.2.2]? = some (.constant "java/lang/StringUTF16" q.1 q.2.1) := by decide +kernel
def kJ_S2 : List (Nat × Int64 × Nat) := []
set_option maxRecDepth 100000 in
theorem kJ_S2_ok : ∀ q ∈ kJ_S2, tables_1[q.2.2]? = some (.constantLong "java/lang/StringUTF16" q.1 q.2.1) := by decide +kernel
def kS_S2 (sa : Nat → Nat) : List (Nat × ksE) := []
def kE_S2 : List (Nat × String × Nat) := []
theorem kS_S2_ok (sa : Nat → Nat) : ∀ q ∈ kS_S2 sa, tables_1[q.2.2.2.1]? = some (kf_link "java/lang/StringUTF16" q.1 q.2.2.2.2 (q.2.1.1, q.2.1.2.1, q.2.1.2.2, false)) ∧ (q.2.2.2.2 = true → ("java/lang/StringUTF16", q.1, q.2.1.1, q.2.1.2.1, q.2.1.2.2, "RoutingField") ∈ kZ3) ∧ (q.2.1.1, q.2.1.2.1, q.2.1.2.2, q.2.2.1) ∈ (kZ sa).1 := fun _ h => absurd h List.not_mem_nil
set_option maxRecDepth 100000 in
theorem kE_S2_in : ∀ q ∈ kE_S2, ("java/lang/StringUTF16", q.1, q.2.1, q.2.2) ∈ kZ2 := by decide +kernel
theorem kE_S2_ok (sa : Nat → Nat) : ∀ q ∈ kE_S2, ("java/lang/StringUTF16", q.1, q.2.1, sa q.2.2) ∈ (kZ sa).2.1 := fun q hq => List.mem_map.mpr ⟨_, kE_S2_in q hq, rfl⟩
def kF_Th : List (Nat × kfE) := []
set_option maxRecDepth 100000 in
theorem kF_Th_ok : ∀ q ∈ kF_Th, kf_chk "java/lang/Throwable" q = true := by decide +kernel
def kM_Th : List (Nat × kmE) := []
set_option maxRecDepth 100000 in
theorem kM_Th_ok : ∀ q ∈ kM_Th, km_chk "java/lang/Throwable" q = true := by decide +kernel
def kA_Th : List (Nat × String × Nat × Nat) := []
set_option maxRecDepth 100000 in
theorem kA_Th_ok : ∀ q ∈ kA_Th, tables_1[q.2.2.1]? = some (.classLink "java/lang/Throwable" q.1 q.2.1) ∧ q.2.1 ∈ kZ5 := by decide +kernel
def kI_Th : List (Nat × Int32 × Nat) := []
set_option maxRecDepth 100000 in
theorem kI_Th_ok : ∀ q ∈ kI_Th, tables_1[q.2.2]? = some (.constant "java/lang/Throwable" q.1 q.2.1) := by decide +kernel
def kJ_Th : List (Nat × Int64 × Nat) := []
set_option maxRecDepth 100000 in
theorem kJ_Th_ok : ∀ q ∈ kJ_Th, tables_1[q.2.2]? = some (.constantLong "java/lang/Throwable" q.1 q.2.1) := by decide +kernel
def kS_Th (sa : Nat → Nat) : List (Nat × ksE) := []
def kE_Th : List (Nat × String × Nat) := []
theorem kS_Th_ok (sa : Nat → Nat) : ∀ q ∈ kS_Th sa, tables_1[q.2.2.2.1]? = some (kf_link "java/lang/Throwable" q.1 q.2.2.2.2 (q.2.1.1, q.2.1.2.1, q.2.1.2.2, false)) ∧ (q.2.2.2.2 = true → ("java/lang/Throwable", q.1, q.2.1.1, q.2.1.2.1, q.2.1.2.2, "RoutingField") ∈ kZ3) ∧ (q.2.1.1, q.2.1.2.1, q.2.1.2.2, q.2.2.1) ∈ (kZ sa).1 := fun _ h => absurd h List.not_mem_nil
set_option maxRecDepth 100000 in
theorem kE_Th_in : ∀ q ∈ kE_Th, ("java/lang/Throwable", q.1, q.2.1, q.2.2) ∈ kZ2 := by decide +kernel
theorem kE_Th_ok (sa : Nat → Nat) : ∀ q ∈ kE_Th, ("java/lang/Throwable", q.1, q.2.1, sa q.2.2) ∈ (kZ sa).2.1 := fun q hq => List.mem_map.mpr ⟨_, kE_Th_in q hq, rfl⟩
def kF_Ns : List (Nat × kfE) := []
set_option maxRecDepth 100000 in
theorem kF_Ns_ok : ∀ q ∈ kF_Ns, kf_chk "java/util/NoSuchElementException" q = true := by decide +kernel
def kM_Ns : List (Nat × kmE) := []
set_option maxRecDepth 100000 in
theorem kM_Ns_ok : ∀ q ∈ kM_Ns, km_chk "java/util/NoSuchElementException" q = true := by decide +kernel
def kA_Ns : List (Nat × String × Nat × Nat) := []
set_option maxRecDepth 100000 in
theorem kA_Ns_ok : ∀ q ∈ kA_Ns, tables_1[q.2.2.1]? = some (.classLink "java/util/NoSuchElementException" q.1 q.2.1) ∧ q.2.1 ∈ kZ5 := by decide +kernel
def kI_Ns : List (Nat × Int32 × Nat) := []
set_option maxRecDepth 100000 in
theorem kI_Ns_ok : ∀ q ∈ kI_Ns, tables_1[q.2.2]? = some (.constant "java/util/NoSuchElementException" q.1 q.2.1) := by decide +kernel
def kJ_Ns : List (Nat × Int64 × Nat) := []
set_option maxRecDepth 100000 in
theorem kJ_Ns_ok : ∀ q ∈ kJ_Ns, tables_1[q.2.2]? = some (.constantLong "java/util/NoSuchElementException" q.1 q.2.1) := by decide +kernel
def kS_Ns (sa : Nat → Nat) : List (Nat × ksE) := []
def kE_Ns : List (Nat × String × Nat) := []
theorem kS_Ns_ok (sa : Nat → Nat) : ∀ q ∈ kS_Ns sa, tables_1[q.2.2.2.1]? = some (kf_link "java/util/NoSuchElementException" q.1 q.2.2.2.2 (q.2.1.1, q.2.1.2.1, q.2.1.2.2, false)) ∧ (q.2.2.2.2 = true → ("java/util/NoSuchElementException", q.1, q.2.1.1, q.2.1.2.1, q.2.1.2.2, "RoutingField") ∈ kZ3) ∧ (q.2.1.1, q.2.1.2.1, q.2.1.2.2, q.2.2.1) ∈ (kZ sa).1 := fun _ h => absurd h List.not_mem_nil
set_option maxRecDepth 100000 in
theorem kE_Ns_in : ∀ q ∈ kE_Ns, ("java/util/NoSuchElementException", q.1, q.2.1, q.2.2) ∈ kZ2 := by decide +kernel
theorem kE_Ns_ok (sa : Nat → Nat) : ∀ q ∈ kE_Ns, ("java/util/NoSuchElementException", q.1, q.2.1, sa q.2.2) ∈ (kZ sa).2.1 := fun q hq => List.mem_map.mpr ⟨_, kE_Ns_in q hq, rfl⟩
end
