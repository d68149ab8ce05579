section
-- ===== PART A: goes FIRST, ahead of the names: the tables' words, and 'selects' of the private methods out of them =====
/-- a private method of a class that the tables say can be made, by its rows of tables_1 -/
def lw_okq (q : MethodName × Nat) : Prop := (q.1.cls ≠ "java/lang/invoke/MethodHandle" ∧ q.1.cls ≠ "java/lang/invoke/VarHandle") ∧ Cond.instantiable q.1.cls q.2 ∈ tables_1 ∧ Cond.privateMethod q.1 ∈ tables_1 ∧ Cond.instanceMethod q.1 ∈ tables_1
theorem lw_p0 : lw_okq (⟨"Switchyard", "digestRouter", "(JLSwitchyard$Router;)J"⟩, 2) := ⟨⟨by decide +kernel, by decide +kernel⟩, List.mem_of_getElem? (i := 38) (by decide +kernel), List.mem_of_getElem? (i := 466) (by decide +kernel), List.mem_of_getElem? (i := 467) (by decide +kernel)⟩
theorem lw_p1 : lw_okq (⟨"Switchyard", "digestFlow", "(JI)J"⟩, 2) := ⟨⟨by decide +kernel, by decide +kernel⟩, List.mem_of_getElem? (i := 38) (by decide +kernel), List.mem_of_getElem? (i := 534) (by decide +kernel), List.mem_of_getElem? (i := 535) (by decide +kernel)⟩
theorem lw_p2 : lw_okq (⟨"java/lang/Throwable", "fillInStackTrace", "(I)Ljava/lang/Throwable;"⟩, 6) := ⟨⟨by decide +kernel, by decide +kernel⟩, List.mem_of_getElem? (i := 610) (by decide +kernel), List.mem_of_getElem? (i := 608) (by decide +kernel), List.mem_of_getElem? (i := 609) (by decide +kernel)⟩
theorem lw_p3 : lw_okq (⟨"Switchyard", "checkRouter", "(I)V"⟩, 2) := ⟨⟨by decide +kernel, by decide +kernel⟩, List.mem_of_getElem? (i := 38) (by decide +kernel), List.mem_of_getElem? (i := 653) (by decide +kernel), List.mem_of_getElem? (i := 654) (by decide +kernel)⟩
theorem lw_p4 : lw_okq (⟨"Switchyard$Net", "writeLetter", "(I)V"⟩, 9) := ⟨⟨by decide +kernel, by decide +kernel⟩, List.mem_of_getElem? (i := 46) (by decide +kernel), List.mem_of_getElem? (i := 705) (by decide +kernel), List.mem_of_getElem? (i := 706) (by decide +kernel)⟩
theorem lw_p5 : lw_okq (⟨"Switchyard$Net", "tellOthers", "(ILSwitchyard$Letter;I)V"⟩, 9) := ⟨⟨by decide +kernel, by decide +kernel⟩, List.mem_of_getElem? (i := 46) (by decide +kernel), List.mem_of_getElem? (i := 721) (by decide +kernel), List.mem_of_getElem? (i := 722) (by decide +kernel)⟩
theorem lw_p6 : lw_okq (⟨"Switchyard$Net", "tell", "(ILSwitchyard$Letter;LSwitchyard$Link;)V"⟩, 9) := ⟨⟨by decide +kernel, by decide +kernel⟩, List.mem_of_getElem? (i := 46) (by decide +kernel), List.mem_of_getElem? (i := 725) (by decide +kernel), List.mem_of_getElem? (i := 726) (by decide +kernel)⟩
theorem lw_p7 : lw_okq (⟨"Switchyard$Line", "makeRoom", "(I)V"⟩, 5) := ⟨⟨by decide +kernel, by decide +kernel⟩, List.mem_of_getElem? (i := 180) (by decide +kernel), List.mem_of_getElem? (i := 737) (by decide +kernel), List.mem_of_getElem? (i := 738) (by decide +kernel)⟩
theorem lw_p8 : lw_okq (⟨"Switchyard$Net", "tellKept", "(ILSwitchyard$Link;)V"⟩, 9) := ⟨⟨by decide +kernel, by decide +kernel⟩, List.mem_of_getElem? (i := 46) (by decide +kernel), List.mem_of_getElem? (i := 741) (by decide +kernel), List.mem_of_getElem? (i := 742) (by decide +kernel)⟩
theorem lw_p9 : lw_okq (⟨"Switchyard", "checkLink", "(I)V"⟩, 2) := ⟨⟨by decide +kernel, by decide +kernel⟩, List.mem_of_getElem? (i := 38) (by decide +kernel), List.mem_of_getElem? (i := 752) (by decide +kernel), List.mem_of_getElem? (i := 753) (by decide +kernel)⟩
theorem lw_p10 : lw_okq (⟨"Switchyard", "portOf", "(IZ)LSwitchyard$Port;"⟩, 2) := ⟨⟨by decide +kernel, by decide +kernel⟩, List.mem_of_getElem? (i := 38) (by decide +kernel), List.mem_of_getElem? (i := 875) (by decide +kernel), List.mem_of_getElem? (i := 876) (by decide +kernel)⟩
theorem lw_p11 : lw_okq (⟨"Switchyard", "checkFlow", "(I)V"⟩, 2) := ⟨⟨by decide +kernel, by decide +kernel⟩, List.mem_of_getElem? (i := 38) (by decide +kernel), List.mem_of_getElem? (i := 909) (by decide +kernel), List.mem_of_getElem? (i := 910) (by decide +kernel)⟩
theorem lw_p12 : lw_okq (⟨"Switchyard$Net", "takeLetters", "(ILSwitchyard$Line;I)V"⟩, 9) := ⟨⟨by decide +kernel, by decide +kernel⟩, List.mem_of_getElem? (i := 46) (by decide +kernel), List.mem_of_getElem? (i := 932) (by decide +kernel), List.mem_of_getElem? (i := 933) (by decide +kernel)⟩
theorem lw_p13 : lw_okq (⟨"Switchyard$Net", "deal", "(II)V"⟩, 9) := ⟨⟨by decide +kernel, by decide +kernel⟩, List.mem_of_getElem? (i := 46) (by decide +kernel), List.mem_of_getElem? (i := 945) (by decide +kernel), List.mem_of_getElem? (i := 946) (by decide +kernel)⟩
theorem lw_p14 : lw_okq (⟨"Switchyard$Net", "sendOn", "(IILSwitchyard$Link;)I"⟩, 9) := ⟨⟨by decide +kernel, by decide +kernel⟩, List.mem_of_getElem? (i := 46) (by decide +kernel), List.mem_of_getElem? (i := 958) (by decide +kernel), List.mem_of_getElem? (i := 959) (by decide +kernel)⟩
theorem lw_p15 : lw_okq (⟨"Switchyard$Net", "runFlow", "(I)V"⟩, 9) := ⟨⟨by decide +kernel, by decide +kernel⟩, List.mem_of_getElem? (i := 46) (by decide +kernel), List.mem_of_getElem? (i := 976) (by decide +kernel), List.mem_of_getElem? (i := 977) (by decide +kernel)⟩
def lw_privs_1 : List (MethodName × Nat) := [(⟨"Switchyard", "digestRouter", "(JLSwitchyard$Router;)J"⟩, 2), (⟨"Switchyard", "digestFlow", "(JI)J"⟩, 2), (⟨"java/lang/Throwable", "fillInStackTrace", "(I)Ljava/lang/Throwable;"⟩, 6), (⟨"Switchyard", "checkRouter", "(I)V"⟩, 2), (⟨"Switchyard$Net", "writeLetter", "(I)V"⟩, 9), (⟨"Switchyard$Net", "tellOthers", "(ILSwitchyard$Letter;I)V"⟩, 9), (⟨"Switchyard$Net", "tell", "(ILSwitchyard$Letter;LSwitchyard$Link;)V"⟩, 9), (⟨"Switchyard$Line", "makeRoom", "(I)V"⟩, 5), (⟨"Switchyard$Net", "tellKept", "(ILSwitchyard$Link;)V"⟩, 9), (⟨"Switchyard", "checkLink", "(I)V"⟩, 2), (⟨"Switchyard", "portOf", "(IZ)LSwitchyard$Port;"⟩, 2), (⟨"Switchyard", "checkFlow", "(I)V"⟩, 2), (⟨"Switchyard$Net", "takeLetters", "(ILSwitchyard$Line;I)V"⟩, 9), (⟨"Switchyard$Net", "deal", "(II)V"⟩, 9), (⟨"Switchyard$Net", "sendOn", "(IILSwitchyard$Link;)I"⟩, 9), (⟨"Switchyard$Net", "runFlow", "(I)V"⟩, 9)]
theorem lw_r1 : ∀ q ∈ lw_privs_1, lw_okq q := List.forall_mem_cons.mpr ⟨lw_p0, List.forall_mem_cons.mpr ⟨lw_p1, List.forall_mem_cons.mpr ⟨lw_p2, List.forall_mem_cons.mpr ⟨lw_p3, List.forall_mem_cons.mpr ⟨lw_p4, List.forall_mem_cons.mpr ⟨lw_p5, List.forall_mem_cons.mpr ⟨lw_p6, List.forall_mem_cons.mpr ⟨lw_p7, List.forall_mem_cons.mpr ⟨lw_p8, List.forall_mem_cons.mpr ⟨lw_p9, List.forall_mem_cons.mpr ⟨lw_p10, List.forall_mem_cons.mpr ⟨lw_p11, List.forall_mem_cons.mpr ⟨lw_p12, List.forall_mem_cons.mpr ⟨lw_p13, List.forall_mem_cons.mpr ⟨lw_p14, List.forall_mem_cons.mpr ⟨lw_p15, fun _ h => absurd h List.not_mem_nil⟩⟩⟩⟩⟩⟩⟩⟩⟩⟩⟩⟩⟩⟩⟩⟩
theorem lw_p16 : lw_okq (⟨"Switchyard$Router", "reckonWays", "([LSwitchyard$Link;)V"⟩, 6) := ⟨⟨by decide +kernel, by decide +kernel⟩, List.mem_of_getElem? (i := 294) (by decide +kernel), List.mem_of_getElem? (i := 1009) (by decide +kernel), List.mem_of_getElem? (i := 1010) (by decide +kernel)⟩
theorem lw_p17 : lw_okq (⟨"Switchyard$Router", "nearestBut", "(I)I"⟩, 6) := ⟨⟨by decide +kernel, by decide +kernel⟩, List.mem_of_getElem? (i := 294) (by decide +kernel), List.mem_of_getElem? (i := 1013) (by decide +kernel), List.mem_of_getElem? (i := 1014) (by decide +kernel)⟩
theorem lw_p18 : lw_okq (⟨"Switchyard$Router", "goOn", "(III)V"⟩, 6) := ⟨⟨by decide +kernel, by decide +kernel⟩, List.mem_of_getElem? (i := 294) (by decide +kernel), List.mem_of_getElem? (i := 1022) (by decide +kernel), List.mem_of_getElem? (i := 1023) (by decide +kernel)⟩
theorem lw_p19 : lw_okq (⟨"Switchyard$Router", "enterNetworks", "(LSwitchyard$PrefixList;)V"⟩, 6) := ⟨⟨by decide +kernel, by decide +kernel⟩, List.mem_of_getElem? (i := 294) (by decide +kernel), List.mem_of_getElem? (i := 1026) (by decide +kernel), List.mem_of_getElem? (i := 1027) (by decide +kernel)⟩
theorem lw_p20 : lw_okq (⟨"Switchyard$Router", "enterStatics", "(LSwitchyard$PrefixList;[LSwitchyard$Link;)V"⟩, 6) := ⟨⟨by decide +kernel, by decide +kernel⟩, List.mem_of_getElem? (i := 294) (by decide +kernel), List.mem_of_getElem? (i := 1034) (by decide +kernel), List.mem_of_getElem? (i := 1035) (by decide +kernel)⟩
theorem lw_p21 : lw_okq (⟨"Switchyard$Router", "enterLearned", "()V"⟩, 6) := ⟨⟨by decide +kernel, by decide +kernel⟩, List.mem_of_getElem? (i := 294) (by decide +kernel), List.mem_of_getElem? (i := 1038) (by decide +kernel), List.mem_of_getElem? (i := 1039) (by decide +kernel)⟩
theorem lw_p22 : lw_okq (⟨"Switchyard$Port", "takeNext", "()V"⟩, 14) := ⟨⟨by decide +kernel, by decide +kernel⟩, List.mem_of_getElem? (i := 174) (by decide +kernel), List.mem_of_getElem? (i := 1046) (by decide +kernel), List.mem_of_getElem? (i := 1047) (by decide +kernel)⟩
theorem lw_p23 : lw_okq (⟨"Switchyard$Port", "nextPlace", "()I"⟩, 14) := ⟨⟨by decide +kernel, by decide +kernel⟩, List.mem_of_getElem? (i := 174) (by decide +kernel), List.mem_of_getElem? (i := 1050) (by decide +kernel), List.mem_of_getElem? (i := 1051) (by decide +kernel)⟩
theorem lw_p24 : lw_okq (⟨"Switchyard$Port", "placeByClasses", "()I"⟩, 14) := ⟨⟨by decide +kernel, by decide +kernel⟩, List.mem_of_getElem? (i := 174) (by decide +kernel), List.mem_of_getElem? (i := 1054) (by decide +kernel), List.mem_of_getElem? (i := 1055) (by decide +kernel)⟩
theorem lw_p25 : lw_okq (⟨"Switchyard$Port", "firstOf", "(I)I"⟩, 14) := ⟨⟨by decide +kernel, by decide +kernel⟩, List.mem_of_getElem? (i := 174) (by decide +kernel), List.mem_of_getElem? (i := 1058) (by decide +kernel), List.mem_of_getElem? (i := 1059) (by decide +kernel)⟩
theorem lw_p26 : lw_okq (⟨"Switchyard$Port", "placeByTurns", "()I"⟩, 14) := ⟨⟨by decide +kernel, by decide +kernel⟩, List.mem_of_getElem? (i := 174) (by decide +kernel), List.mem_of_getElem? (i := 1062) (by decide +kernel), List.mem_of_getElem? (i := 1063) (by decide +kernel)⟩
theorem lw_p27 : lw_okq (⟨"java/util/ArrayList", "add", "(Ljava/lang/Object;[Ljava/lang/Object;I)V"⟩, 3) := ⟨⟨by decide +kernel, by decide +kernel⟩, List.mem_of_getElem? (i := 1320) (by decide +kernel), List.mem_of_getElem? (i := 1355) (by decide +kernel), List.mem_of_getElem? (i := 1356) (by decide +kernel)⟩
theorem lw_p28 : lw_okq (⟨"java/util/ArrayList", "grow", "()[Ljava/lang/Object;"⟩, 3) := ⟨⟨by decide +kernel, by decide +kernel⟩, List.mem_of_getElem? (i := 1320) (by decide +kernel), List.mem_of_getElem? (i := 1359) (by decide +kernel), List.mem_of_getElem? (i := 1360) (by decide +kernel)⟩
theorem lw_p29 : lw_okq (⟨"java/util/ArrayList", "grow", "(I)[Ljava/lang/Object;"⟩, 3) := ⟨⟨by decide +kernel, by decide +kernel⟩, List.mem_of_getElem? (i := 1320) (by decide +kernel), List.mem_of_getElem? (i := 1363) (by decide +kernel), List.mem_of_getElem? (i := 1364) (by decide +kernel)⟩
theorem lw_p30 : lw_okq (⟨"SwitchyardModel", "start", "(ZI)Z"⟩, 2) := ⟨⟨by decide +kernel, by decide +kernel⟩, List.mem_of_getElem? (i := 1306) (by decide +kernel), List.mem_of_getElem? (i := 1525) (by decide +kernel), List.mem_of_getElem? (i := 1526) (by decide +kernel)⟩
theorem lw_p31 : lw_okq (⟨"SwitchyardModel", "refuse", "(ZI)Z"⟩, 2) := ⟨⟨by decide +kernel, by decide +kernel⟩, List.mem_of_getElem? (i := 1306) (by decide +kernel), List.mem_of_getElem? (i := 1529) (by decide +kernel), List.mem_of_getElem? (i := 1530) (by decide +kernel)⟩
def lw_privs_2 : List (MethodName × Nat) := [(⟨"Switchyard$Router", "reckonWays", "([LSwitchyard$Link;)V"⟩, 6), (⟨"Switchyard$Router", "nearestBut", "(I)I"⟩, 6), (⟨"Switchyard$Router", "goOn", "(III)V"⟩, 6), (⟨"Switchyard$Router", "enterNetworks", "(LSwitchyard$PrefixList;)V"⟩, 6), (⟨"Switchyard$Router", "enterStatics", "(LSwitchyard$PrefixList;[LSwitchyard$Link;)V"⟩, 6), (⟨"Switchyard$Router", "enterLearned", "()V"⟩, 6), (⟨"Switchyard$Port", "takeNext", "()V"⟩, 14), (⟨"Switchyard$Port", "nextPlace", "()I"⟩, 14), (⟨"Switchyard$Port", "placeByClasses", "()I"⟩, 14), (⟨"Switchyard$Port", "firstOf", "(I)I"⟩, 14), (⟨"Switchyard$Port", "placeByTurns", "()I"⟩, 14), (⟨"java/util/ArrayList", "add", "(Ljava/lang/Object;[Ljava/lang/Object;I)V"⟩, 3), (⟨"java/util/ArrayList", "grow", "()[Ljava/lang/Object;"⟩, 3), (⟨"java/util/ArrayList", "grow", "(I)[Ljava/lang/Object;"⟩, 3), (⟨"SwitchyardModel", "start", "(ZI)Z"⟩, 2), (⟨"SwitchyardModel", "refuse", "(ZI)Z"⟩, 2)]
theorem lw_r2 : ∀ q ∈ lw_privs_2, lw_okq q := List.forall_mem_cons.mpr ⟨lw_p16, List.forall_mem_cons.mpr ⟨lw_p17, List.forall_mem_cons.mpr ⟨lw_p18, List.forall_mem_cons.mpr ⟨lw_p19, List.forall_mem_cons.mpr ⟨lw_p20, List.forall_mem_cons.mpr ⟨lw_p21, List.forall_mem_cons.mpr ⟨lw_p22, List.forall_mem_cons.mpr ⟨lw_p23, List.forall_mem_cons.mpr ⟨lw_p24, List.forall_mem_cons.mpr ⟨lw_p25, List.forall_mem_cons.mpr ⟨lw_p26, List.forall_mem_cons.mpr ⟨lw_p27, List.forall_mem_cons.mpr ⟨lw_p28, List.forall_mem_cons.mpr ⟨lw_p29, List.forall_mem_cons.mpr ⟨lw_p30, List.forall_mem_cons.mpr ⟨lw_p31, fun _ h => absurd h List.not_mem_nil⟩⟩⟩⟩⟩⟩⟩⟩⟩⟩⟩⟩⟩⟩⟩⟩
theorem lw_p32 : lw_okq (⟨"SwitchyardModel", "areNone", "(II)Z"⟩, 2) := ⟨⟨by decide +kernel, by decide +kernel⟩, List.mem_of_getElem? (i := 1306) (by decide +kernel), List.mem_of_getElem? (i := 1537) (by decide +kernel), List.mem_of_getElem? (i := 1538) (by decide +kernel)⟩
theorem lw_p33 : lw_okq (⟨"SwitchyardModel", "isNoRouter", "(I)Z"⟩, 2) := ⟨⟨by decide +kernel, by decide +kernel⟩, List.mem_of_getElem? (i := 1306) (by decide +kernel), List.mem_of_getElem? (i := 1541) (by decide +kernel), List.mem_of_getElem? (i := 1542) (by decide +kernel)⟩
theorem lw_p34 : lw_okq (⟨"SwitchyardModel$Net", "isOf", "(II)Z"⟩, 24) := ⟨⟨by decide +kernel, by decide +kernel⟩, List.mem_of_getElem? (i := 1312) (by decide +kernel), List.mem_of_getElem? (i := 1626) (by decide +kernel), List.mem_of_getElem? (i := 1627) (by decide +kernel)⟩
theorem lw_p35 : lw_okq (⟨"SwitchyardModel$Net", "sendAll", "(LSwitchyardModel$Letter;II)V"⟩, 24) := ⟨⟨by decide +kernel, by decide +kernel⟩, List.mem_of_getElem? (i := 1312) (by decide +kernel), List.mem_of_getElem? (i := 1662) (by decide +kernel), List.mem_of_getElem? (i := 1663) (by decide +kernel)⟩
theorem lw_p36 : lw_okq (⟨"SwitchyardModel$Net", "send", "(LSwitchyardModel$Letter;II)V"⟩, 24) := ⟨⟨by decide +kernel, by decide +kernel⟩, List.mem_of_getElem? (i := 1312) (by decide +kernel), List.mem_of_getElem? (i := 1666) (by decide +kernel), List.mem_of_getElem? (i := 1667) (by decide +kernel)⟩
theorem lw_p37 : lw_okq (⟨"SwitchyardModel$Net", "port", "(II)LSwitchyardModel$Port;"⟩, 24) := ⟨⟨by decide +kernel, by decide +kernel⟩, List.mem_of_getElem? (i := 1312) (by decide +kernel), List.mem_of_getElem? (i := 1670) (by decide +kernel), List.mem_of_getElem? (i := 1671) (by decide +kernel)⟩
theorem lw_p38 : lw_okq (⟨"SwitchyardModel$Net", "greet", "(II)V"⟩, 24) := ⟨⟨by decide +kernel, by decide +kernel⟩, List.mem_of_getElem? (i := 1312) (by decide +kernel), List.mem_of_getElem? (i := 1689) (by decide +kernel), List.mem_of_getElem? (i := 1690) (by decide +kernel)⟩
theorem lw_p39 : lw_okq (⟨"SwitchyardModel", "isNoLink", "(I)Z"⟩, 2) := ⟨⟨by decide +kernel, by decide +kernel⟩, List.mem_of_getElem? (i := 1306) (by decide +kernel), List.mem_of_getElem? (i := 1697) (by decide +kernel), List.mem_of_getElem? (i := 1698) (by decide +kernel)⟩
theorem lw_p40 : lw_okq (⟨"SwitchyardModel$Net", "drop", "(LSwitchyardModel$Packet;I)V"⟩, 24) := ⟨⟨by decide +kernel, by decide +kernel⟩, List.mem_of_getElem? (i := 1312) (by decide +kernel), List.mem_of_getElem? (i := 1729) (by decide +kernel), List.mem_of_getElem? (i := 1730) (by decide +kernel)⟩
theorem lw_p41 : lw_okq (⟨"SwitchyardModel", "hasNetwork", "(III)Z"⟩, 2) := ⟨⟨by decide +kernel, by decide +kernel⟩, List.mem_of_getElem? (i := 1306) (by decide +kernel), List.mem_of_getElem? (i := 1753) (by decide +kernel), List.mem_of_getElem? (i := 1754) (by decide +kernel)⟩
theorem lw_p42 : lw_okq (⟨"SwitchyardModel", "port", "(IZ)LSwitchyardModel$Port;"⟩, 2) := ⟨⟨by decide +kernel, by decide +kernel⟩, List.mem_of_getElem? (i := 1306) (by decide +kernel), List.mem_of_getElem? (i := 1777) (by decide +kernel), List.mem_of_getElem? (i := 1778) (by decide +kernel)⟩
theorem lw_p43 : lw_okq (⟨"SwitchyardModel", "isNoFlow", "(I)Z"⟩, 2) := ⟨⟨by decide +kernel, by decide +kernel⟩, List.mem_of_getElem? (i := 1306) (by decide +kernel), List.mem_of_getElem? (i := 1904) (by decide +kernel), List.mem_of_getElem? (i := 1905) (by decide +kernel)⟩
theorem lw_p44 : lw_okq (⟨"java/util/ArrayList", "fastRemove", "([Ljava/lang/Object;I)V"⟩, 3) := ⟨⟨by decide +kernel, by decide +kernel⟩, List.mem_of_getElem? (i := 1320) (by decide +kernel), List.mem_of_getElem? (i := 1929) (by decide +kernel), List.mem_of_getElem? (i := 1930) (by decide +kernel)⟩
theorem lw_p45 : lw_okq (⟨"SwitchyardModel$Net", "come", "(LSwitchyardModel$Letter;II)V"⟩, 24) := ⟨⟨by decide +kernel, by decide +kernel⟩, List.mem_of_getElem? (i := 1312) (by decide +kernel), List.mem_of_getElem? (i := 1934) (by decide +kernel), List.mem_of_getElem? (i := 1935) (by decide +kernel)⟩
theorem lw_p46 : lw_okq (⟨"SwitchyardModel$Net", "deal", "(LSwitchyardModel$Packet;I)V"⟩, 24) := ⟨⟨by decide +kernel, by decide +kernel⟩, List.mem_of_getElem? (i := 1312) (by decide +kernel), List.mem_of_getElem? (i := 1938) (by decide +kernel), List.mem_of_getElem? (i := 1939) (by decide +kernel)⟩
theorem lw_p47 : lw_okq (⟨"SwitchyardModel$Net", "queue", "(LSwitchyardModel$Packet;LSwitchyardModel$Port;)V"⟩, 24) := ⟨⟨by decide +kernel, by decide +kernel⟩, List.mem_of_getElem? (i := 1312) (by decide +kernel), List.mem_of_getElem? (i := 1955) (by decide +kernel), List.mem_of_getElem? (i := 1956) (by decide +kernel)⟩
def lw_privs_3 : List (MethodName × Nat) := [(⟨"SwitchyardModel", "areNone", "(II)Z"⟩, 2), (⟨"SwitchyardModel", "isNoRouter", "(I)Z"⟩, 2), (⟨"SwitchyardModel$Net", "isOf", "(II)Z"⟩, 24), (⟨"SwitchyardModel$Net", "sendAll", "(LSwitchyardModel$Letter;II)V"⟩, 24), (⟨"SwitchyardModel$Net", "send", "(LSwitchyardModel$Letter;II)V"⟩, 24), (⟨"SwitchyardModel$Net", "port", "(II)LSwitchyardModel$Port;"⟩, 24), (⟨"SwitchyardModel$Net", "greet", "(II)V"⟩, 24), (⟨"SwitchyardModel", "isNoLink", "(I)Z"⟩, 2), (⟨"SwitchyardModel$Net", "drop", "(LSwitchyardModel$Packet;I)V"⟩, 24), (⟨"SwitchyardModel", "hasNetwork", "(III)Z"⟩, 2), (⟨"SwitchyardModel", "port", "(IZ)LSwitchyardModel$Port;"⟩, 2), (⟨"SwitchyardModel", "isNoFlow", "(I)Z"⟩, 2), (⟨"java/util/ArrayList", "fastRemove", "([Ljava/lang/Object;I)V"⟩, 3), (⟨"SwitchyardModel$Net", "come", "(LSwitchyardModel$Letter;II)V"⟩, 24), (⟨"SwitchyardModel$Net", "deal", "(LSwitchyardModel$Packet;I)V"⟩, 24), (⟨"SwitchyardModel$Net", "queue", "(LSwitchyardModel$Packet;LSwitchyardModel$Port;)V"⟩, 24)]
theorem lw_r3 : ∀ q ∈ lw_privs_3, lw_okq q := List.forall_mem_cons.mpr ⟨lw_p32, List.forall_mem_cons.mpr ⟨lw_p33, List.forall_mem_cons.mpr ⟨lw_p34, List.forall_mem_cons.mpr ⟨lw_p35, List.forall_mem_cons.mpr ⟨lw_p36, List.forall_mem_cons.mpr ⟨lw_p37, List.forall_mem_cons.mpr ⟨lw_p38, List.forall_mem_cons.mpr ⟨lw_p39, List.forall_mem_cons.mpr ⟨lw_p40, List.forall_mem_cons.mpr ⟨lw_p41, List.forall_mem_cons.mpr ⟨lw_p42, List.forall_mem_cons.mpr ⟨lw_p43, List.forall_mem_cons.mpr ⟨lw_p44, List.forall_mem_cons.mpr ⟨lw_p45, List.forall_mem_cons.mpr ⟨lw_p46, List.forall_mem_cons.mpr ⟨lw_p47, fun _ h => absurd h List.not_mem_nil⟩⟩⟩⟩⟩⟩⟩⟩⟩⟩⟩⟩⟩⟩⟩⟩
theorem lw_p48 : lw_okq (⟨"SwitchyardModel$Net", "offer", "(I)V"⟩, 24) := ⟨⟨by decide +kernel, by decide +kernel⟩, List.mem_of_getElem? (i := 1312) (by decide +kernel), List.mem_of_getElem? (i := 1963) (by decide +kernel), List.mem_of_getElem? (i := 1964) (by decide +kernel)⟩
theorem lw_p49 : lw_okq (⟨"SwitchyardModel$Net", "reckon", "(I)V"⟩, 24) := ⟨⟨by decide +kernel, by decide +kernel⟩, List.mem_of_getElem? (i := 1312) (by decide +kernel), List.mem_of_getElem? (i := 1995) (by decide +kernel), List.mem_of_getElem? (i := 1996) (by decide +kernel)⟩
theorem lw_p50 : lw_okq (⟨"SwitchyardModel$Net", "other", "(II)I"⟩, 24) := ⟨⟨by decide +kernel, by decide +kernel⟩, List.mem_of_getElem? (i := 1312) (by decide +kernel), List.mem_of_getElem? (i := 2004) (by decide +kernel), List.mem_of_getElem? (i := 2005) (by decide +kernel)⟩
theorem lw_p51 : lw_okq (⟨"SwitchyardModel$Net", "table", "(I)V"⟩, 24) := ⟨⟨by decide +kernel, by decide +kernel⟩, List.mem_of_getElem? (i := 1312) (by decide +kernel), List.mem_of_getElem? (i := 2012) (by decide +kernel), List.mem_of_getElem? (i := 2013) (by decide +kernel)⟩
theorem lw_p52 : lw_okq (⟨"SwitchyardModel$Net", "serve", "(I)V"⟩, 24) := ⟨⟨by decide +kernel, by decide +kernel⟩, List.mem_of_getElem? (i := 1312) (by decide +kernel), List.mem_of_getElem? (i := 2044) (by decide +kernel), List.mem_of_getElem? (i := 2045) (by decide +kernel)⟩
theorem lw_p53 : lw_okq (⟨"SwitchyardModel$Net", "next", "(LSwitchyardModel$Port;)I"⟩, 24) := ⟨⟨by decide +kernel, by decide +kernel⟩, List.mem_of_getElem? (i := 1312) (by decide +kernel), List.mem_of_getElem? (i := 2048) (by decide +kernel), List.mem_of_getElem? (i := 2049) (by decide +kernel)⟩
theorem lw_p54 : lw_okq (⟨"SwitchyardModel$Net", "first", "(LSwitchyardModel$Port;I)I"⟩, 24) := ⟨⟨by decide +kernel, by decide +kernel⟩, List.mem_of_getElem? (i := 1312) (by decide +kernel), List.mem_of_getElem? (i := 2052) (by decide +kernel), List.mem_of_getElem? (i := 2053) (by decide +kernel)⟩
theorem lw_p55 : lw_okq (⟨"SwitchyardModel", "plain", "(I)I"⟩, 2) := ⟨⟨by decide +kernel, by decide +kernel⟩, List.mem_of_getElem? (i := 1306) (by decide +kernel), List.mem_of_getElem? (i := 2060) (by decide +kernel), List.mem_of_getElem? (i := 2061) (by decide +kernel)⟩
theorem lw_p56 : lw_okq (⟨"SwitchyardModel", "isNoAddress", "(II)Z"⟩, 2) := ⟨⟨by decide +kernel, by decide +kernel⟩, List.mem_of_getElem? (i := 1306) (by decide +kernel), List.mem_of_getElem? (i := 2144) (by decide +kernel), List.mem_of_getElem? (i := 2145) (by decide +kernel)⟩
theorem lw_p57 : lw_okq (⟨"SwitchyardModel", "isNoClass", "(II)Z"⟩, 2) := ⟨⟨by decide +kernel, by decide +kernel⟩, List.mem_of_getElem? (i := 1306) (by decide +kernel), List.mem_of_getElem? (i := 2185) (by decide +kernel), List.mem_of_getElem? (i := 2186) (by decide +kernel)⟩
theorem lw_p58 : lw_okq (⟨"SwitchyardModel", "queuedAt", "(LSwitchyardModel$Port;I)I"⟩, 2) := ⟨⟨by decide +kernel, by decide +kernel⟩, List.mem_of_getElem? (i := 1306) (by decide +kernel), List.mem_of_getElem? (i := 2189) (by decide +kernel), List.mem_of_getElem? (i := 2190) (by decide +kernel)⟩
theorem lw_p59 : lw_okq (⟨"SwitchyardModel", "onLinkNow", "(I)I"⟩, 2) := ⟨⟨by decide +kernel, by decide +kernel⟩, List.mem_of_getElem? (i := 1306) (by decide +kernel), List.mem_of_getElem? (i := 2206) (by decide +kernel), List.mem_of_getElem? (i := 2207) (by decide +kernel)⟩
def lw_privs_4 : List (MethodName × Nat) := [(⟨"SwitchyardModel$Net", "offer", "(I)V"⟩, 24), (⟨"SwitchyardModel$Net", "reckon", "(I)V"⟩, 24), (⟨"SwitchyardModel$Net", "other", "(II)I"⟩, 24), (⟨"SwitchyardModel$Net", "table", "(I)V"⟩, 24), (⟨"SwitchyardModel$Net", "serve", "(I)V"⟩, 24), (⟨"SwitchyardModel$Net", "next", "(LSwitchyardModel$Port;)I"⟩, 24), (⟨"SwitchyardModel$Net", "first", "(LSwitchyardModel$Port;I)I"⟩, 24), (⟨"SwitchyardModel", "plain", "(I)I"⟩, 2), (⟨"SwitchyardModel", "isNoAddress", "(II)Z"⟩, 2), (⟨"SwitchyardModel", "isNoClass", "(II)Z"⟩, 2), (⟨"SwitchyardModel", "queuedAt", "(LSwitchyardModel$Port;I)I"⟩, 2), (⟨"SwitchyardModel", "onLinkNow", "(I)I"⟩, 2)]
theorem lw_r4 : ∀ q ∈ lw_privs_4, lw_okq q := List.forall_mem_cons.mpr ⟨lw_p48, List.forall_mem_cons.mpr ⟨lw_p49, List.forall_mem_cons.mpr ⟨lw_p50, List.forall_mem_cons.mpr ⟨lw_p51, List.forall_mem_cons.mpr ⟨lw_p52, List.forall_mem_cons.mpr ⟨lw_p53, List.forall_mem_cons.mpr ⟨lw_p54, List.forall_mem_cons.mpr ⟨lw_p55, List.forall_mem_cons.mpr ⟨lw_p56, List.forall_mem_cons.mpr ⟨lw_p57, List.forall_mem_cons.mpr ⟨lw_p58, List.forall_mem_cons.mpr ⟨lw_p59, fun _ h => absurd h List.not_mem_nil⟩⟩⟩⟩⟩⟩⟩⟩⟩⟩⟩⟩
def lw_privs : List (MethodName × Nat) := lw_privs_1 ++ (lw_privs_2 ++ (lw_privs_3 ++ (lw_privs_4)))
def lw_tbl : List Cond := k2_sels lw_privs ++ tables_1
theorem lw_privs_ok : ∀ q ∈ lw_privs, lw_okq q := by
  show ∀ q ∈ lw_privs_1 ++ (lw_privs_2 ++ (lw_privs_3 ++ (lw_privs_4))), lw_okq q
  exact List.forall_mem_append.mpr ⟨lw_r1, List.forall_mem_append.mpr ⟨lw_r2, List.forall_mem_append.mpr ⟨lw_r3, lw_r4⟩⟩⟩
/-- the streams that the claim lets the run draw from -/
abbrev lw_cs : List Choice := [Jvm.Choice.named "NaN.bits"]
theorem lw_bits : nanBits ∈ lw_cs := by first | decide | exact List.mem_cons_self | simp [lw_cs, nanBits]
-- ===== end of PART A; then your names; then what follows =====
/-! ===== BEGIN words of one list among another's, by their places ===== -/
theorem goodIn_r {big : List Cond} (ws : List Cond) (ps : List Nat) (hp : ws = ps.filterMap (fun i => big[i]?)) (h : ws.all goodWord = true) : GoodIn big ws := by
  intro w hw
  have h1 := List.all_eq_true.mp h w hw
  rw [hp] at hw
  obtain ⟨i, -, hi⟩ := List.mem_filterMap.mp hw
  have hm : w ∈ big := by first | exact List.mem_of_getElem? hi | exact List.getElem?_mem hi
  exact ⟨hm, good_of_word h1⟩
theorem goodIn_app {big a b : List Cond} (ha : GoodIn big a) (hb : GoodIn big b) : GoodIn big (a ++ b) := fun w h => (List.mem_append.mp h).elim (ha w) (hb w)
theorem goodIn_ca {big a b : List Cond} {c : Cond} (ha : GoodIn big (c :: a)) (hb : GoodIn big b) : GoodIn big (c :: (a ++ b)) := fun w h => (List.mem_cons.mp h).elim (fun e => ha w (List.mem_cons.mpr (Or.inl e))) (fun h => (List.mem_append.mp h).elim (fun h => ha w (List.mem_cons.mpr (Or.inr h))) (hb w))
theorem goodIn_sub {big ws : List Cond} (hm : ∀ w ∈ ws, w ∈ big) (h : ws.all goodWord = true) : GoodIn big ws := fun w hw => ⟨hm w hw, good_of_word (List.all_eq_true.mp h w hw)⟩
/-! ===== END ===== -/
/-! ===== BEGIN exceptions that leave a method, and their catching by the caller (launches without stack traces) ===== -/
section VXA
/-! The laws vx_back, vx_callV, vx_callS, vx_callSW, vx_throw0, vx_throwS follow proofs of the library, with one case more: JvmDerived/Free/Laws.lean (Back.of_free), Shelf42/LK1.lean (callV, callS), Shelf/KitTraced.lean (throwNew0V, throwNewS). -/
/-- where a method has thrown q: the class by its name, the cell, what was written, the world -/
def vx_T (XC : String → State → State → Prop) (st : State) (q : Addr) (t : State) (mc ms : Nat) (free : Addr → Prop) : Prop :=
  ∃ (E : String) (ce : Cell) (L : List Loc), XC E st t ∧ t.heap[q]? = some ce ∧ ce.vm = .none ∧ st.vm.findClass E = some ce.cls ∧ st.WarmedH t.vm ∧ st.sameButNew ({ t with vm := st.vm } : State) L mc ms ∧ ∀ z ∈ L, free z.base
def vx_Q (Qc : Array Value → State → Outcome → State → Prop) (XC : String → State → State → Prop) (mc ms : Nat) (free : Addr → Prop) : Array Value → State → Outcome → State → Prop := fun a st o t =>
  (Qc a st o t ∧ ∃ L, FrameEnd st o t L mc ms ∧ ∀ q ∈ L, free q.base) ∨ ∃ q, o = .threw q ∧ vx_T XC st q t mc ms free
/-- a callee that returns or throws -/
def vx_Met (l : Launch) (y : MethodName) (ws : List Cond) (rm : Room) (Pc : Array Value → State → Prop) (Qc : Array Value → State → Outcome → State → Prop) (XC : String → State → State → Prop) (mc ms : Nat) (free : Addr → Prop) : Prop :=
  MetFree l y (headSpec ws rm) Pc (fun _ _ _ _ _ => True) (vx_Q Qc XC mc ms free)
def vx_Post (XC : String → State → State → Prop) (mc ms : Nat) (free : Addr → Prop) : Pt → Array Value → Addr → Pt → Prop := fun A a q B =>
  ∃ (g : JFrame) (mk : MethodId) (t : State) (L : List Loc) (E : String) (ce : Cell), B.U.heap = t.heap ∧ B.U.vm = t.vm ∧ XC E (A.U.calling g mk a) t ∧ t.heap[q]? = some ce ∧ ce.vm = .none ∧ A.U.vm.findClass E = some ce.cls ∧ B.locs = A.locs ++ L ∧ (∀ z ∈ L, free z.base) ∧ B.cells = A.cells + mc ∧ B.slots = A.slots + ms
def vx_Back (l : Launch) (R : Room) (p : Program) (e : Env) (below : List Frame) (s : State) (sargs : Array Value) (y : MethodName) (len W9 : Nat)
    (Pre : Pt → Array Value → Prop) (Post : Pt → Array Value → Option Value → Pt → Prop) (PostX : Pt → Array Value → Addr → Pt → Prop) : Prop :=
  ∀ (m : MethodId) (meth : Method) (c : Code) (A : Pt) (g : JFrame) (ig : Instr) (mk : MethodId) (a : Array Value),
    Stand p l e R s m sargs below meth c A.U A.locs A.cells A.slots → g.method = m → g.locals.size = c.maxLocals → decode c.code g.pc = .ok (ig, len) →
    2 * g.monitorRoom + (g.stack.map fun v => v.category).sum ≤ W9 → A.U.methodNamed? y = some mk → Pre A a →
    (∃ (v : Option Value) (B : Pt), Stand p l e R s m sargs below meth c B.U B.locs B.cells B.slots ∧ Post A a v B ∧
      Steps p.tables e below (doInvoke e (A.U.setTop g) [] mk a).1 (B.U.setTop { g with pc := g.pc + len, stack := v.toList ++ g.stack })) ∨
    (∃ (q : Addr) (B : Pt), Stand p l e R s m sargs below meth c B.U B.locs B.cells B.slots ∧ PostX A a q B ∧
      Steps p.tables e below (doInvoke e (A.U.setTop g) [] mk a).1 ((B.U.setTop g).pushFrame (.throwing q)))
section Payer
variable {l : Launch} {R : Room} {p : Program} {e : Env} {below : List Frame} {s : State} {sargs : Array Value} {y : MethodName} {len W9 : Nat}
theorem vx_back {ws : List Cond} {rm : Room} {Pc : Array Value → State → Prop} {Qc : Array Value → State → Outcome → State → Prop} {XC : String → State → State → Prop} {mc ms : Nat} {free : Addr → Prop} {bytes : ByteArray} {maxL : Nat} {ret : Option FieldType}
    (hM : vx_Met l y ws rm Pc Qc XC mc ms free) (hblind : FrameBlind Pc) (hrc : rm.cells = mc) (hrs : rm.slots = ms)
    (hframes : rm.frames + 1 ≤ R.frames) (hlocals : W9 + (maxL + 11) + rm.locals ≤ R.locals)
    (hws : ∀ w ∈ ws, ∀ a' U, s.WarmedH U.vm → w.before a' U = true) (hcode : Cond.code y bytes maxL ret ∈ ws) (hinit : ∀ a' U, s.WarmedH U.vm → (Cond.initialized y.cls).before a' U = true) :
    vx_Back l R p e below s sargs y len W9 (PreOf R mc ms Pc) (PostOf Qc mc ms free) (vx_Post XC mc ms free) := by
  intro m meth c A g ig mk a X hg hsize hdg hW hn hp
  have h1 : (headSpec ws rm).pre.before a A.U = true := atoms_intro fun w hw => hws w hw _ _ X.warmed
  have h2 : (Cond.code y bytes maxL ret).before a A.U = true := hws _ hcode _ _ X.warmed
  have h3 : (Cond.initialized y.cls).before a A.U = true := hinit _ _ X.warmed
  have h4 : A.cells + (headSpec ws rm).room.cells ≤ R.cells := by rw [show (headSpec ws rm).room.cells = mc from hrc]; exact hp.1
  have h5 : A.slots + (headSpec ws rm).room.slots ≤ R.slots := by rw [show (headSpec ws rm).room.slots = ms from hrs]; exact hp.2.1
  have hPc : Pc a (A.U.calling g mk a) := hblind _ _ _ _ hp.2.2
  obtain ⟨U, Ls, c0, s0⟩ := A
  dsimp only [Pt.U, Pt.locs, Pt.cells, Pt.slots] at h1 h2 h3 h4 h5 X hn hPc ⊢
  obtain ⟨methY, cY, hmY, hcY, -, hlY, -, -, -, -⟩ := Cond.code_spec hn h2
  obtain ⟨kY, hkY, -⟩ := className_of_methodNamed hn
  have hinitY : kY.init = .initialized := Cond.initialized_spec (findClass_of_methodNamed hn) hkY h3
  have h : At U g.method c below := by rw [hg]; exact X.here
  have hlocals9 : W9 + (maxL + 11) + (headSpec ws rm).room.locals ≤ R.locals := hlocals
  have happ : (headSpec ws rm).appliesLoose y e.platform (U.calling g mk a) = true :=
    Spec.appliesLoose_calling (g := g) h hdg hn hkY hinitY
      (X.room_calling (g := g) (R' := (headSpec ws rm).room) hsize hmY hcY hframes (by rw [hlY]; omega) h4 h5) h1
  obtain ⟨mid, hmid⟩ := h.above
  have hfr : (U.setTop g).frames = (.java g :: mid) ++ below := by rw [State.frames_setTop' g h.top, hmid]; rfl
  obtain ⟨o, s₂, hsteps, -, hend, hq⟩ := Steps.callFree hM p X.admits X.cas X.clock (acts := []) hfr happ hPc trivial
  have hq' : vx_Q Qc XC mc ms free a (U.calling g mk a) o s₂ := hq
  rw [State.frames_setTop' g h.top] at hend
  obtain ⟨g₀, hg0⟩ := Option.isSome_iff_exists.mp h.top
  obtain ⟨r, hr⟩ := State.topJava?_eq_some.mp hg0
  have hr' : (({ U with heap := s₂.heap, slotsUsed := s₂.slotsUsed } : State).setVm s₂.vm).frames = .java g₀ :: r := hr
  rcases hq' with ⟨hqc, L, hfe, hL⟩ | ⟨q, rfl, E, ce, L, hx, hce, hcv, hcl, hW₂, hsm, hL⟩
  · obtain ⟨⟨v, rfl⟩, hW₂, e2, q2, q3, q4, q5, q6⟩ := id hfe
    have e3 : s₂ = ({ (U.calling g mk a).setFrames s₂.frames with heap := s₂.heap, slotsUsed := s₂.slotsUsed } : State).setVm s₂.vm := by
      have : s₂ = ({ s₂ with vm := (U.calling g mk a).vm } : State).setVm s₂.vm := rfl
      rw [e2] at this
      exact this
    obtain ⟨c₂, i₂, len₂, hc₂, hd₂, hf₂⟩ := hend
    have hW' : U.WarmedH s₂.vm := hW₂
    have hcc : c₂ = c := by
      have h1 : s₂.code? g.method = U.code? g.method := by
        rw [State.code?_eq, State.code?_eq, hW'.alike.method?]
      exact Option.some.inj (hc₂.symm.trans (h1.trans h.code))
    subst hcc
    have hlen : len₂ = len := by rw [hdg] at hd₂; cases hd₂; rfl
    subst hlen
    have hs₂ : s₂ = (({ U with heap := s₂.heap, slotsUsed := s₂.slotsUsed } : State).setVm s₂.vm).setTop { g with pc := g.pc + len₂, stack := v.toList ++ g.stack } := by
      refine e3.trans ?_
      rw [hf₂, State.calling_eq h.top, State.setFrames_setFrames, State.setTop_of_frames _ hr', hr]
      rfl
    have hsame : U.sameButNew ({ U with heap := s₂.heap, slotsUsed := s₂.slotsUsed } : State) L mc ms := by
      refine ⟨?_, q2, q3, q4, q5, q6⟩
      obtain ⟨t, ht, -⟩ := State.frames_cons hr
      show ({ U with heap := s₂.heap, slotsUsed := s₂.slotsUsed } : State) = { U.setFrames U.frames with heap := s₂.heap, slotsUsed := s₂.slotsUsed }
      rw [State.setFrames_self ht]
    subst hg
    refine Or.inl ⟨v, ⟨(({ U with heap := s₂.heap, slotsUsed := s₂.slotsUsed } : State).setVm s₂.vm), Ls ++ L, c0 + mc, s0 + ms⟩,
      ⟨X.admits, X.cas, X.clock, X.frames, X.room, X.hears, X.method, X.code, (X.here.setHeapUsed s₂.heap s₂.slotsUsed).setVm hW'.alike, X.tail, State.WarmedH.trans X.warmed hW', X.limits, X.bytes, X.same.trans (hsame.setVm s.vm)⟩,
      ⟨g, mk, s₂, L, rfl, rfl, hqc, rfl, hL, rfl, rfl⟩, ?_⟩
    show Steps p.tables e below _ ((({ U with heap := s₂.heap, slotsUsed := s₂.slotsUsed } : State).setVm s₂.vm).setTop { g with pc := g.pc + len₂, stack := v.toList ++ g.stack })
    rw [← hs₂]
    exact hsteps
  · obtain ⟨e2, q2, q3, q4, q5, q6⟩ := id hsm
    have e3 : s₂ = ({ (U.calling g mk a).setFrames s₂.frames with heap := s₂.heap, slotsUsed := s₂.slotsUsed } : State).setVm s₂.vm := by
      have : s₂ = ({ s₂ with vm := (U.calling g mk a).vm } : State).setVm s₂.vm := rfl
      rw [e2] at this
      exact this
    have hf₂ : s₂.frames = .throwing q :: .java g :: U.frames.tail := hend
    have hW' : U.WarmedH s₂.vm := hW₂
    have hs₂ : s₂ = ((({ U with heap := s₂.heap, slotsUsed := s₂.slotsUsed } : State).setVm s₂.vm).setTop g).pushFrame (.throwing q) := by
      refine e3.trans ?_
      rw [hf₂, State.calling_eq h.top, State.setFrames_setFrames, State.pushFrame, State.frames_setTop _ hr', State.setTop_of_frames _ hr', State.setFrames_setFrames, hr]
      rfl
    have hsame : U.sameButNew ({ U with heap := s₂.heap, slotsUsed := s₂.slotsUsed } : State) L mc ms := by
      refine ⟨?_, q2, q3, q4, q5, q6⟩
      obtain ⟨t, ht, -⟩ := State.frames_cons hr
      show ({ U with heap := s₂.heap, slotsUsed := s₂.slotsUsed } : State) = { U.setFrames U.frames with heap := s₂.heap, slotsUsed := s₂.slotsUsed }
      rw [State.setFrames_self ht]
    subst hg
    refine Or.inr ⟨q, ⟨(({ U with heap := s₂.heap, slotsUsed := s₂.slotsUsed } : State).setVm s₂.vm), Ls ++ L, c0 + mc, s0 + ms⟩,
      ⟨X.admits, X.cas, X.clock, X.frames, X.room, X.hears, X.method, X.code, (X.here.setHeapUsed s₂.heap s₂.slotsUsed).setVm hW'.alike, X.tail, State.WarmedH.trans X.warmed hW', X.limits, X.bytes, X.same.trans (hsame.setVm s.vm)⟩,
      ⟨g, mk, s₂, L, E, ce, rfl, rfl, hx, hce, hcv, hcl, rfl, hL, rfl, rfl⟩, ?_⟩
    show Steps p.tables e below _ (((({ U with heap := s₂.heap, slotsUsed := s₂.slotsUsed } : State).setVm s₂.vm).setTop g).pushFrame (.throwing q))
    rw [← hs₂]
    exact hsteps
end Payer
section Calls
variable {p : Program} {l : Launch} {e : Env} {R : Room} {s : State} {m : MethodId} {args : Array Value} {below : List Frame} {meth : Method} {c : Code} {T : State} {locs : List Loc} {cells slots : Nat}
theorem vx_callV (X : Stand p l e R s m args below meth c T locs cells slots) (hexec : p.tables.exec = Jvm.exec) {own C : String} {index : Nat} {y : MethodName} {bytes : ByteArray} {maxL : Nat} {ret : Option FieldType}
    (hown : s.vm.findClass own = some m.cls) (hlink : (Cond.methodLink own index y).before args s = true) (hinst : (Cond.instanceMethod y).before args s = true) (hsel : (Cond.selects C y y).before args s = true)
    (hcode : (Cond.code y bytes maxL ret).before args s = true) (hy : y.cls ≠ "java/lang/invoke/MethodHandle" ∧ y.cls ≠ "java/lang/invoke/VarHandle")
    {W9 : Nat} {Pre : Pt → Array Value → Prop} {Post : Pt → Array Value → Option Value → Pt → Prop} {PostX : Pt → Array Value → Addr → Pt → Prop} (hK : vx_Back l R p e below s args y 3 W9 Pre Post PostX)
    {b : Addr} {cellB : Cell} (hcell : T.heap[b]? = some cellB) (hobj : cellB.vm.isStatics = false) (hcls : s.vm.findClass C = some cellB.cls)
    {g : JFrame} (hg : g.method = m) (hsize : g.locals.size = c.maxLocals) {argsL rest : List Value} (hlen : ∀ sig, parseMethodDescriptor y.desc = some sig → argsL.length = sig.parameters.length)
    (hstack : g.stack = argsL.reverse ++ .ref b :: rest) (hW : 2 * g.monitorRoom + (rest.map fun v => v.category).sum ≤ W9) (hdg : decode c.code g.pc = .ok (.invokevirtual index, 3))
    (hpre : ∀ vm₁, s.WarmedH vm₁ → Pre ⟨T.setVm vm₁, locs, cells, slots⟩ (Value.ref b :: argsL).toArray) :
    (∃ (v : Option Value) (vm₁ : Vm) (B : Pt), s.WarmedH vm₁ ∧ Stand p l e R s m args below meth c B.U B.locs B.cells B.slots ∧ Post ⟨T.setVm vm₁, locs, cells, slots⟩ (Value.ref b :: argsL).toArray v B ∧
      ∀ target, Steps p.tables e below (B.U.setTop { g with pc := g.pc + 3, stack := v.toList ++ rest }) target → Steps p.tables e below (T.setTop g) target) ∨
    (∃ (q : Addr) (vm₁ : Vm) (B : Pt), s.WarmedH vm₁ ∧ Stand p l e R s m args below meth c B.U B.locs B.cells B.slots ∧ PostX ⟨T.setVm vm₁, locs, cells, slots⟩ (Value.ref b :: argsL).toArray q B ∧
      Steps p.tables e below (T.setTop g) ((B.U.setTop { g with stack := rest }).pushFrame (.throwing q))) := by
  obtain ⟨mk, methM, hnamed, hmethM, hstM, habM⟩ := Cond.instanceMethod_spec hinst
  obtain ⟨methM', cM, hmethM', -, -, -, -, -, -, hsigM⟩ := Cond.code_spec hnamed hcode
  cases hmethM.symm.trans hmethM'
  obtain ⟨c2, r2, m2, q1, q2, q3, q4, kP, hkP, hkPi⟩ := Cond.selects_spec hsel
  cases hcls.symm.trans q1
  cases (State.methodFound?_of_named hnamed hy).symm.trans q2
  cases hnamed.symm.trans q3
  have hselP : selectMethod e.platform s.vm cellB.cls mk = .method mk := by rw [Launch.admits_selectMethod X.admits]; exact q4
  obtain ⟨vm₁, X₁, hstep₁⟩ := X.invokevirtual hexec hown hlink hnamed hmethM hstM hkP hkPi hy (a := b) (cell := cellB) hcell
    (fun z h => by rw [h] at hobj; cases hobj) hselP hmethM habM hkP hkPi (g := g) hg (argsL := argsL) (rest := rest) (hlen _ hsigM) hstack hdg
  rcases hK m meth c ⟨T.setVm vm₁, locs, cells, slots⟩ { g with stack := rest } (.invokevirtual index) mk (Value.ref b :: argsL).toArray X₁ hg hsize hdg hW (X₁.named hnamed) (hpre vm₁ X₁.warmed) with ⟨v, B, X', hpost, hsteps⟩ | ⟨q, B, X', hpost, hsteps⟩
  · exact Or.inl ⟨v, vm₁, B, X₁.warmed, X', hpost, fun target h => hstep₁ _ fun acts => by rw [doInvoke_state]; exact hsteps.trans h⟩
  · exact Or.inr ⟨q, vm₁, B, X₁.warmed, X', hpost, hstep₁ _ fun acts => by rw [doInvoke_state]; exact hsteps⟩
theorem vx_callS (X : Stand p l e R s m args below meth c T locs cells slots) (hexec : p.tables.exec = Jvm.exec) {own : String} {index : Nat} {y : MethodName} {bytes : ByteArray} {maxL : Nat} {ret : Option FieldType}
    (hown : s.vm.findClass own = some m.cls) (hlink : (Cond.methodLink own index y).before args s = true) (hstat : (Cond.static y).before args s = true) (hinit : (Cond.initialized y.cls).before args s = true)
    (hcode : (Cond.code y bytes maxL ret).before args s = true) (hy : y.cls ≠ "java/lang/invoke/MethodHandle" ∧ y.cls ≠ "java/lang/invoke/VarHandle")
    {W9 : Nat} {Pre : Pt → Array Value → Prop} {Post : Pt → Array Value → Option Value → Pt → Prop} {PostX : Pt → Array Value → Addr → Pt → Prop} (hK : vx_Back l R p e below s args y 3 W9 Pre Post PostX)
    {g : JFrame} (hg : g.method = m) (hsize : g.locals.size = c.maxLocals) {argsL rest : List Value} (hlen : ∀ sig, parseMethodDescriptor y.desc = some sig → argsL.length = sig.parameters.length)
    (hstack : g.stack = argsL.reverse ++ rest) (hW : 2 * g.monitorRoom + (rest.map fun v => v.category).sum ≤ W9) (hdg : decode c.code g.pc = .ok (.invokestatic index, 3))
    (hpre : ∀ vm₁, s.WarmedH vm₁ → Pre ⟨T.setVm vm₁, locs, cells, slots⟩ argsL.toArray) :
    (∃ (v : Option Value) (vm₁ : Vm) (B : Pt), s.WarmedH vm₁ ∧ Stand p l e R s m args below meth c B.U B.locs B.cells B.slots ∧ Post ⟨T.setVm vm₁, locs, cells, slots⟩ argsL.toArray v B ∧
      ∀ target, Steps p.tables e below (B.U.setTop { g with pc := g.pc + 3, stack := v.toList ++ rest }) target → Steps p.tables e below (T.setTop g) target) ∨
    (∃ (q : Addr) (vm₁ : Vm) (B : Pt), s.WarmedH vm₁ ∧ Stand p l e R s m args below meth c B.U B.locs B.cells B.slots ∧ PostX ⟨T.setVm vm₁, locs, cells, slots⟩ argsL.toArray q B ∧
      Steps p.tables e below (T.setTop g) ((B.U.setTop { g with stack := rest }).pushFrame (.throwing q))) := by
  obtain ⟨mk, hnamed⟩ := Cond.code_named hcode
  obtain ⟨methM, cM, hmethM, -, -, -, -, -, -, hsigM⟩ := Cond.code_spec hnamed hcode
  have hstatic : methM.isStatic = true := Cond.static_spec hnamed hmethM hstat
  obtain ⟨kP, hkP, -⟩ := className_of_methodNamed hnamed
  have hinitP : kP.init = .initialized := Cond.initialized_spec (findClass_of_methodNamed hnamed) hkP hinit
  obtain ⟨vm₁, X₁, hstep₁⟩ := X.invokestatic hexec hown hlink hnamed hmethM hstatic hkP hinitP hy (g := g) hg (argsL := argsL) (rest := rest) (hlen _ hsigM) hstack hdg
  rcases hK m meth c ⟨T.setVm vm₁, locs, cells, slots⟩ { g with stack := rest } (.invokestatic index) mk argsL.toArray X₁ hg hsize hdg hW (X₁.named hnamed) (hpre vm₁ X₁.warmed) with ⟨v, B, X', hpost, hsteps⟩ | ⟨q, B, X', hpost, hsteps⟩
  · exact Or.inl ⟨v, vm₁, B, X₁.warmed, X', hpost, fun target h => hstep₁ _ fun acts => by rw [doInvoke_state]; exact hsteps.trans h⟩
  · exact Or.inr ⟨q, vm₁, B, X₁.warmed, X', hpost, hstep₁ _ fun acts => by rw [doInvoke_state]; exact hsteps⟩
end Calls
theorem vx_cls {s : State} {T : State} {vm₁ : Vm} {E : String} {k : ClassId} (hW : s.WarmedH vm₁) (h : (T.setVm vm₁).vm.findClass E = some k) : s.vm.findClass E = some k := by
  have h1 : vm₁.findClass E = some k := h
  rw [hW.alike.findClass] at h1
  exact h1
/-- the method's frame g, with q thrown over it -/
def vx_W (p : Program) (l : Launch) (e : Env) (R : Room) (s : State) (m : MethodId) (args : Array Value) (below : List Frame) (meth : Method) (c : Code) (H : Heap) (locs : List Loc) (cells slots : Nat) (Q : State → Prop) (g : JFrame) (q : Addr) : Prop :=
  ∀ T : State, T.heap = H → Stand p l e R s m args below meth c T locs cells slots → ∃ t, Steps p.tables e below ((T.setTop g).pushFrame (.throwing q)) t ∧ Q t
def vx_Run (p : Program) (l : Launch) (e : Env) (R : Room) (s : State) (m : MethodId) (args : Array Value) (below : List Frame) (meth : Method) (c : Code) (H : Heap) (locs : List Loc) (cells slots mc ms : Nat) (g : JFrame) (rest : List Value) (Qa : State → Outcome → State → Prop) (XC : String → State → State → Prop) (free : Addr → Prop) : Prop :=
  ∀ T : State, T.heap = H → Stand p l e R s m args below meth c T locs cells slots →
    (∃ (v : Option Value) (st₀ t T' : State) (L : List Loc), st₀.heap = H ∧ Stand p l e R s m args below meth c T' (locs ++ L) (cells + mc) (slots + ms) ∧ (∀ q ∈ L, free q.base) ∧ T'.heap = t.heap ∧ T'.vm = t.vm ∧ Qa st₀ (.returned v) t ∧
      Goes p e below T g T' { g with pc := g.pc + 3, stack := v.toList ++ rest }) ∨
    (∃ (q : Addr) (st₀ t T' : State) (L : List Loc) (E : String) (ce : Cell), st₀.heap = H ∧ Stand p l e R s m args below meth c T' (locs ++ L) (cells + mc) (slots + ms) ∧ (∀ z ∈ L, free z.base) ∧ T'.heap = t.heap ∧ T'.vm = t.vm ∧ XC E st₀ t ∧ t.heap[q]? = some ce ∧ ce.vm = .none ∧ s.vm.findClass E = some ce.cls ∧
      Steps p.tables e below (T.setTop g) ((T'.setTop { g with stack := rest }).pushFrame (.throwing q)))
def vx_X {S : Type} (px : S → Prop) (B : String → S → State → Prop) (A : Nat → Prop) : String → State → State → Prop := fun E st t => ∃ u : S, px u ∧ B E u t ∧ va_F A st t
section Runs
variable {p : Program} {l : Launch} {e : Env} {R : Room} {s : State} {m : MethodId} {args : Array Value} {below : List Frame} {meth : Method} {c : Code} {H : Heap} {locs : List Loc} {cells slots : Nat}
variable {y : MethodName} {bytes cc : ByteArray} {maxL nL mc ms n index : Nat} {ret : Option FieldType} {ws : List Cond} {rm : Room} {Pc : Array Value → State → Prop} {Qc : Array Value → State → Outcome → State → Prop} {XC : String → State → State → Prop} {free : Addr → Prop} {Ts : List Cond} {own C : String} {b : Addr} {As rest : List Value} {g : JFrame}
theorem vx_callBack (cb : CallB R s args own index y bytes maxL ret ws rm mc ms n) (hM : vx_Met l y ws rm Pc Qc XC mc ms free) (hbl : FrameBlind Pc) : vx_Back l R p e below s args y 3 8 (PreOf R mc ms Pc) (PostOf Qc mc ms free) (vx_Post XC mc ms free) := by
  obtain ⟨hrc, hrs, hfr, hlo, hws, hcw, -, hini, -⟩ := cb
  exact vx_back (bytes := bytes) (maxL := maxL) (ret := ret) hM hbl hrc hrs hfr hlo hws hcw (fun a' U hW => word_at hW (Or.inl (by first | rfl | simp [Cond.onTables, Cond.keeps, Cond.steady])) hini)
theorem vx_runV (S : CallFix p m c cc nL s args Ts own) (hM : vx_Met l y ws rm Pc Qc XC mc ms free) (cw : CallW R s args own C index y bytes maxL ret ws rm mc ms n) (hp : PreV s H C b Pc As)
    (hg : g.method = m) (hn : As.length = n) (hsize : g.locals.size = nL) (hstack : g.stack = As.reverse ++ .ref b :: rest) (hW : 2 * g.monitorRoom + (rest.map fun v => v.category).sum ≤ 8) (hdg : decode cc g.pc = .ok (.invokevirtual index, 3)) (hf : cells + mc ≤ R.cells ∧ slots + ms ≤ R.slots) :
    vx_Run p l e R s m args below meth c H locs cells slots mc ms g rest (Qc (Value.ref b :: As).toArray) XC free := by
  have hK : vx_Back l R p e below s args y 3 8 (PreOf R mc ms Pc) (PostOf Qc mc ms free) (vx_Post XC mc ms free) := vx_callBack cw.1 hM hp.1
  obtain ⟨⟨-, -, -, -, -, -, hcode, -, hy, hlen, hl⟩, hin, hse⟩ := cw
  obtain ⟨hx, hb, hml, ho, -⟩ := S
  obtain ⟨-, ⟨cellB, hcB, hoB, hclB⟩, hPc⟩ := hp
  intro T hT X
  rcases vx_callV X hx (C := C) (bytes := bytes) (maxL := maxL) (ret := ret) ho hl hin hse hcode hy hK (by rw [hT]; exact hcB) hoB hclB hg (hsize.trans hml.symm) (argsL := As) (rest := rest) (fun sig h => hn.trans (hlen sig h)) hstack hW (by rw [hb]; exact hdg)
    (fun vm₁ hW₁ => ⟨hf.1, hf.2, hPc (T.setVm vm₁) hT hW₁⟩) with ⟨v, vm₁, ⟨U', l2, c2, s2⟩, hW₁, X', ⟨g', mk, t, L, e1, e2, hq, h1, hL, h2, h3⟩, st⟩ | ⟨q, vm₁, ⟨U', l2, c2, s2⟩, hW₁, X', ⟨g', mk, t, L, E, ce, e1, e2, hq, hce, hcv, hcl, h1, hL, h2, h3⟩, st⟩
  · dsimp only [Pt.U, Pt.locs, Pt.cells, Pt.slots] at X' e1 e2 h1 h2 h3 st
    subst h1; subst h2; subst h3
    exact Or.inl ⟨v, (T.setVm vm₁).calling g' mk (Value.ref b :: As).toArray, t, U', L, hT, X', hL, e1, e2, hq, st⟩
  · dsimp only [Pt.U, Pt.locs, Pt.cells, Pt.slots] at X' e1 e2 h1 h2 h3 st hcl
    subst h1; subst h2; subst h3
    exact Or.inr ⟨q, (T.setVm vm₁).calling g' mk (Value.ref b :: As).toArray, t, U', L, E, ce, hT, X', hL, e1, e2, hq, hce, hcv, vx_cls hW₁ hcl, st⟩
theorem vx_runS (S : CallFix p m c cc nL s args Ts own) (hM : vx_Met l y ws rm Pc Qc XC mc ms free) (cw : CallB R s args own index y bytes maxL ret ws rm mc ms n ∧ (Cond.static y).before args s = true) (hp : PreS s H Pc As)
    (hg : g.method = m) (hn : As.length = n) (hsize : g.locals.size = nL) (hstack : g.stack = As.reverse ++ rest) (hW : 2 * g.monitorRoom + (rest.map fun v => v.category).sum ≤ 8) (hdg : decode cc g.pc = .ok (.invokestatic index, 3)) (hf : cells + mc ≤ R.cells ∧ slots + ms ≤ R.slots) :
    vx_Run p l e R s m args below meth c H locs cells slots mc ms g rest (Qc As.toArray) XC free := by
  have hK : vx_Back l R p e below s args y 3 8 (PreOf R mc ms Pc) (PostOf Qc mc ms free) (vx_Post XC mc ms free) := vx_callBack cw.1 hM hp.1
  obtain ⟨⟨-, -, -, -, -, -, hcode, hini, hy, hlen, hl⟩, hstt⟩ := cw
  obtain ⟨hx, hb, hml, ho, -⟩ := S
  intro T hT X
  rcases vx_callS X hx (bytes := bytes) (maxL := maxL) (ret := ret) ho hl hstt hini hcode hy hK hg (hsize.trans hml.symm) (argsL := As) (rest := rest) (fun sig h => hn.trans (hlen sig h)) hstack hW (by rw [hb]; exact hdg)
    (fun vm₁ hW₁ => ⟨hf.1, hf.2, hp.2 (T.setVm vm₁) hT hW₁⟩) with ⟨v, vm₁, ⟨U', l2, c2, s2⟩, hW₁, X', ⟨g', mk, t, L, e1, e2, hq, h1, hL, h2, h3⟩, st⟩ | ⟨q, vm₁, ⟨U', l2, c2, s2⟩, hW₁, X', ⟨g', mk, t, L, E, ce, e1, e2, hq, hce, hcv, hcl, h1, hL, h2, h3⟩, st⟩
  · dsimp only [Pt.U, Pt.locs, Pt.cells, Pt.slots] at X' e1 e2 h1 h2 h3 st
    subst h1; subst h2; subst h3
    exact Or.inl ⟨v, (T.setVm vm₁).calling g' mk As.toArray, t, U', L, hT, X', hL, e1, e2, hq, st⟩
  · dsimp only [Pt.U, Pt.locs, Pt.cells, Pt.slots] at X' e1 e2 h1 h2 h3 st hcl
    subst h1; subst h2; subst h3
    exact Or.inr ⟨q, (T.setVm vm₁).calling g' mk As.toArray, t, U', L, E, ce, hT, X', hL, e1, e2, hq, hce, hcv, vx_cls hW₁ hcl, st⟩
end Runs
section Rows
variable {p : Program} {l : Launch} {e : Env} {R : Room} {s : State} {m : MethodId} {args : Array Value} {below : List Frame} {meth : Method} {c : Code} {H : Heap} {locs : List Loc} {cells slots : Nat} {Q : State → Prop}
variable {mc ms : Nat} {free : Addr → Prop} {A0 A1 : Nat → Prop} {H0 : Heap} {a : Array Value} {pc : Nat} {ls : Array Slot} {st0 rest : List Value}
theorem vx_keep {st₀ t T' : State} {L : List Loc} (h0 : st₀.heap = H) (e1 : T'.heap = t.heap) (hS : va_S A0 H0 H locs) (hA : ∀ q, q < H.size → A1 q → A0 q) (hf : ∀ q, free q → A0 q) (hL : ∀ q ∈ L, free q.base) (hF : va_F A1 st₀ t) :
    H.size ≤ T'.heap.size ∧ (∀ q : Nat, q < H.size → ¬ A1 q → T'.heap[q]? = H[q]?) ∧ va_S A0 H0 T'.heap (locs ++ L) := by
  obtain ⟨hz, hk⟩ := hF
  rw [h0] at hz hk
  exact ⟨by rw [e1]; exact hz, fun q h1 h2 => by rw [e1]; exact hk q h1 h2,
    ⟨Nat.le_trans hS.1 (by rw [e1]; exact hz), fun q h1 h2 => by rw [e1, hk q (Nat.lt_of_lt_of_le h1 hS.1) (fun z => h2 (hA q (Nat.lt_of_lt_of_le h1 hS.1) z))]; exact hS.2.1 q h1 h2, fun q hq => by
      rcases List.mem_append.mp hq with h | h
      · exact hS.2.2 q h
      · exact hf _ (hL q h)⟩⟩
theorem vx_calli {S SX : Type} {post : Int32 → S → Prop} {px : SX → Prop} {B : S → State → Prop} {BX : String → SX → State → Prop} {AX : Nat → Prop} (hr : vx_Run p l e R s m args below meth c H locs cells slots mc ms (F0 m pc ls st0) rest (va_Qi post B A1 a) (vx_X px BX AX) free) (hS : va_S A0 H0 H locs) (hA : ∀ q, q < H.size → A1 q → A0 q) (hf : ∀ q, free q → A0 q) (hAX : ∀ q, q < H.size → AX q → A0 q)
    (kx : ∀ (E : String) (ce : Cell) (q9 : Addr) (u : SX) (t : State) (H1 : Heap) (locs1 : List Loc), t.heap = H1 → s.vm.Alike t.vm → px u → BX E u t → H.size ≤ H1.size → (∀ q : Nat, q < H.size → ¬ AX q → H1[q]? = H[q]?) → va_S A0 H0 H1 locs1 → H1[q9]? = some ce → ce.vm = .none → s.vm.findClass E = some ce.cls → vx_W p l e R s m args below meth c H1 locs1 (cells + mc) (slots + ms) Q (F0 m pc ls rest) q9)
    (kk : ∀ (r : Int32) (u : S) (t : State) (H1 : Heap) (locs1 : List Loc), t.heap = H1 → s.vm.Alike t.vm → post r u → B u t → H.size ≤ H1.size → (∀ q : Nat, q < H.size → ¬ A1 q → H1[q]? = H[q]?) → va_S A0 H0 H1 locs1 → W p l e R s m args below meth c H1 locs1 (cells + mc) (slots + ms) Q (F0 m (pc + 3) ls (.int r :: rest))) : W p l e R s m args below meth c H locs cells slots Q (F0 m pc ls st0) := by
  intro T hT X
  rcases hr T hT X with ⟨v, st₀, t, T', L, h0, X', hL, e1, e2, ⟨⟨r, u, hv, hp, hb⟩, hF⟩, st⟩ | ⟨q, st₀, t, T', L, E, ce, h0, X', hL, e1, e2, ⟨u, hp, hb, hF⟩, hce, hcv, hcl, st⟩
  · cases hv
    obtain ⟨k1, k2, k3⟩ := vx_keep h0 e1 hS hA hf hL hF
    obtain ⟨t2, a1, b1⟩ := kk r u t T'.heap (locs ++ L) e1.symm (by rw [← e2]; exact X'.warmed.alike) hp hb k1 k2 k3 T' rfl X'
    exact ⟨t2, st t2 a1, b1⟩
  · obtain ⟨k1, k2, k3⟩ := vx_keep h0 e1 hS hAX hf hL hF
    obtain ⟨t2, a1, b1⟩ := kx E ce q u t T'.heap (locs ++ L) e1.symm (by rw [← e2]; exact X'.warmed.alike) hp hb k1 k2 k3 (by rw [e1]; exact hce) hcv hcl T' rfl X'
    exact ⟨t2, st.trans a1, b1⟩
theorem vx_calll {S SX : Type} {post : Int64 → S → Prop} {px : SX → Prop} {B : S → State → Prop} {BX : String → SX → State → Prop} {AX : Nat → Prop} (hr : vx_Run p l e R s m args below meth c H locs cells slots mc ms (F0 m pc ls st0) rest (va_Ql post B A1 a) (vx_X px BX AX) free) (hS : va_S A0 H0 H locs) (hA : ∀ q, q < H.size → A1 q → A0 q) (hf : ∀ q, free q → A0 q) (hAX : ∀ q, q < H.size → AX q → A0 q)
    (kx : ∀ (E : String) (ce : Cell) (q9 : Addr) (u : SX) (t : State) (H1 : Heap) (locs1 : List Loc), t.heap = H1 → s.vm.Alike t.vm → px u → BX E u t → H.size ≤ H1.size → (∀ q : Nat, q < H.size → ¬ AX q → H1[q]? = H[q]?) → va_S A0 H0 H1 locs1 → H1[q9]? = some ce → ce.vm = .none → s.vm.findClass E = some ce.cls → vx_W p l e R s m args below meth c H1 locs1 (cells + mc) (slots + ms) Q (F0 m pc ls rest) q9)
    (kk : ∀ (r : Int64) (u : S) (t : State) (H1 : Heap) (locs1 : List Loc), t.heap = H1 → s.vm.Alike t.vm → post r u → B u t → H.size ≤ H1.size → (∀ q : Nat, q < H.size → ¬ A1 q → H1[q]? = H[q]?) → va_S A0 H0 H1 locs1 → W p l e R s m args below meth c H1 locs1 (cells + mc) (slots + ms) Q (F0 m (pc + 3) ls (.long r :: rest))) : W p l e R s m args below meth c H locs cells slots Q (F0 m pc ls st0) := by
  intro T hT X
  rcases hr T hT X with ⟨v, st₀, t, T', L, h0, X', hL, e1, e2, ⟨⟨r, u, hv, hp, hb⟩, hF⟩, st⟩ | ⟨q, st₀, t, T', L, E, ce, h0, X', hL, e1, e2, ⟨u, hp, hb, hF⟩, hce, hcv, hcl, st⟩
  · cases hv
    obtain ⟨k1, k2, k3⟩ := vx_keep h0 e1 hS hA hf hL hF
    obtain ⟨t2, a1, b1⟩ := kk r u t T'.heap (locs ++ L) e1.symm (by rw [← e2]; exact X'.warmed.alike) hp hb k1 k2 k3 T' rfl X'
    exact ⟨t2, st t2 a1, b1⟩
  · obtain ⟨k1, k2, k3⟩ := vx_keep h0 e1 hS hAX hf hL hF
    obtain ⟨t2, a1, b1⟩ := kx E ce q u t T'.heap (locs ++ L) e1.symm (by rw [← e2]; exact X'.warmed.alike) hp hb k1 k2 k3 (by rw [e1]; exact hce) hcv hcl T' rfl X'
    exact ⟨t2, st.trans a1, b1⟩
theorem vx_callf {S SX : Type} {post : UInt32 → S → Prop} {px : SX → Prop} {B : S → State → Prop} {BX : String → SX → State → Prop} {AX : Nat → Prop} (hr : vx_Run p l e R s m args below meth c H locs cells slots mc ms (F0 m pc ls st0) rest (va_Qf post B A1 a) (vx_X px BX AX) free) (hS : va_S A0 H0 H locs) (hA : ∀ q, q < H.size → A1 q → A0 q) (hf : ∀ q, free q → A0 q) (hAX : ∀ q, q < H.size → AX q → A0 q)
    (kx : ∀ (E : String) (ce : Cell) (q9 : Addr) (u : SX) (t : State) (H1 : Heap) (locs1 : List Loc), t.heap = H1 → s.vm.Alike t.vm → px u → BX E u t → H.size ≤ H1.size → (∀ q : Nat, q < H.size → ¬ AX q → H1[q]? = H[q]?) → va_S A0 H0 H1 locs1 → H1[q9]? = some ce → ce.vm = .none → s.vm.findClass E = some ce.cls → vx_W p l e R s m args below meth c H1 locs1 (cells + mc) (slots + ms) Q (F0 m pc ls rest) q9)
    (kk : ∀ (r : UInt32) (u : S) (t : State) (H1 : Heap) (locs1 : List Loc), t.heap = H1 → s.vm.Alike t.vm → post r u → B u t → H.size ≤ H1.size → (∀ q : Nat, q < H.size → ¬ A1 q → H1[q]? = H[q]?) → va_S A0 H0 H1 locs1 → W p l e R s m args below meth c H1 locs1 (cells + mc) (slots + ms) Q (F0 m (pc + 3) ls (.float r :: rest))) : W p l e R s m args below meth c H locs cells slots Q (F0 m pc ls st0) := by
  intro T hT X
  rcases hr T hT X with ⟨v, st₀, t, T', L, h0, X', hL, e1, e2, ⟨⟨r, u, hv, hp, hb⟩, hF⟩, st⟩ | ⟨q, st₀, t, T', L, E, ce, h0, X', hL, e1, e2, ⟨u, hp, hb, hF⟩, hce, hcv, hcl, st⟩
  · cases hv
    obtain ⟨k1, k2, k3⟩ := vx_keep h0 e1 hS hA hf hL hF
    obtain ⟨t2, a1, b1⟩ := kk r u t T'.heap (locs ++ L) e1.symm (by rw [← e2]; exact X'.warmed.alike) hp hb k1 k2 k3 T' rfl X'
    exact ⟨t2, st t2 a1, b1⟩
  · obtain ⟨k1, k2, k3⟩ := vx_keep h0 e1 hS hAX hf hL hF
    obtain ⟨t2, a1, b1⟩ := kx E ce q u t T'.heap (locs ++ L) e1.symm (by rw [← e2]; exact X'.warmed.alike) hp hb k1 k2 k3 (by rw [e1]; exact hce) hcv hcl T' rfl X'
    exact ⟨t2, st.trans a1, b1⟩
theorem vx_calld {S SX : Type} {post : UInt64 → S → Prop} {px : SX → Prop} {B : S → State → Prop} {BX : String → SX → State → Prop} {AX : Nat → Prop} (hr : vx_Run p l e R s m args below meth c H locs cells slots mc ms (F0 m pc ls st0) rest (va_Qd post B A1 a) (vx_X px BX AX) free) (hS : va_S A0 H0 H locs) (hA : ∀ q, q < H.size → A1 q → A0 q) (hf : ∀ q, free q → A0 q) (hAX : ∀ q, q < H.size → AX q → A0 q)
    (kx : ∀ (E : String) (ce : Cell) (q9 : Addr) (u : SX) (t : State) (H1 : Heap) (locs1 : List Loc), t.heap = H1 → s.vm.Alike t.vm → px u → BX E u t → H.size ≤ H1.size → (∀ q : Nat, q < H.size → ¬ AX q → H1[q]? = H[q]?) → va_S A0 H0 H1 locs1 → H1[q9]? = some ce → ce.vm = .none → s.vm.findClass E = some ce.cls → vx_W p l e R s m args below meth c H1 locs1 (cells + mc) (slots + ms) Q (F0 m pc ls rest) q9)
    (kk : ∀ (r : UInt64) (u : S) (t : State) (H1 : Heap) (locs1 : List Loc), t.heap = H1 → s.vm.Alike t.vm → post r u → B u t → H.size ≤ H1.size → (∀ q : Nat, q < H.size → ¬ A1 q → H1[q]? = H[q]?) → va_S A0 H0 H1 locs1 → W p l e R s m args below meth c H1 locs1 (cells + mc) (slots + ms) Q (F0 m (pc + 3) ls (.double r :: rest))) : W p l e R s m args below meth c H locs cells slots Q (F0 m pc ls st0) := by
  intro T hT X
  rcases hr T hT X with ⟨v, st₀, t, T', L, h0, X', hL, e1, e2, ⟨⟨r, u, hv, hp, hb⟩, hF⟩, st⟩ | ⟨q, st₀, t, T', L, E, ce, h0, X', hL, e1, e2, ⟨u, hp, hb, hF⟩, hce, hcv, hcl, st⟩
  · cases hv
    obtain ⟨k1, k2, k3⟩ := vx_keep h0 e1 hS hA hf hL hF
    obtain ⟨t2, a1, b1⟩ := kk r u t T'.heap (locs ++ L) e1.symm (by rw [← e2]; exact X'.warmed.alike) hp hb k1 k2 k3 T' rfl X'
    exact ⟨t2, st t2 a1, b1⟩
  · obtain ⟨k1, k2, k3⟩ := vx_keep h0 e1 hS hAX hf hL hF
    obtain ⟨t2, a1, b1⟩ := kx E ce q u t T'.heap (locs ++ L) e1.symm (by rw [← e2]; exact X'.warmed.alike) hp hb k1 k2 k3 (by rw [e1]; exact hce) hcv hcl T' rfl X'
    exact ⟨t2, st.trans a1, b1⟩
theorem vx_callv {S SX : Type} {post : S → Prop} {px : SX → Prop} {B : S → State → Prop} {BX : String → SX → State → Prop} {AX : Nat → Prop} (hr : vx_Run p l e R s m args below meth c H locs cells slots mc ms (F0 m pc ls st0) rest (va_Qv post B A1 a) (vx_X px BX AX) free) (hS : va_S A0 H0 H locs) (hA : ∀ q, q < H.size → A1 q → A0 q) (hf : ∀ q, free q → A0 q) (hAX : ∀ q, q < H.size → AX q → A0 q)
    (kx : ∀ (E : String) (ce : Cell) (q9 : Addr) (u : SX) (t : State) (H1 : Heap) (locs1 : List Loc), t.heap = H1 → s.vm.Alike t.vm → px u → BX E u t → H.size ≤ H1.size → (∀ q : Nat, q < H.size → ¬ AX q → H1[q]? = H[q]?) → va_S A0 H0 H1 locs1 → H1[q9]? = some ce → ce.vm = .none → s.vm.findClass E = some ce.cls → vx_W p l e R s m args below meth c H1 locs1 (cells + mc) (slots + ms) Q (F0 m pc ls rest) q9)
    (kk : ∀ (u : S) (t : State) (H1 : Heap) (locs1 : List Loc), t.heap = H1 → s.vm.Alike t.vm → post u → B u t → H.size ≤ H1.size → (∀ q : Nat, q < H.size → ¬ A1 q → H1[q]? = H[q]?) → va_S A0 H0 H1 locs1 → W p l e R s m args below meth c H1 locs1 (cells + mc) (slots + ms) Q (F0 m (pc + 3) ls (rest))) : W p l e R s m args below meth c H locs cells slots Q (F0 m pc ls st0) := by
  intro T hT X
  rcases hr T hT X with ⟨v, st₀, t, T', L, h0, X', hL, e1, e2, ⟨⟨u, hv, hp, hb⟩, hF⟩, st⟩ | ⟨q, st₀, t, T', L, E, ce, h0, X', hL, e1, e2, ⟨u, hp, hb, hF⟩, hce, hcv, hcl, st⟩
  · cases hv
    obtain ⟨k1, k2, k3⟩ := vx_keep h0 e1 hS hA hf hL hF
    obtain ⟨t2, a1, b1⟩ := kk u t T'.heap (locs ++ L) e1.symm (by rw [← e2]; exact X'.warmed.alike) hp hb k1 k2 k3 T' rfl X'
    exact ⟨t2, st t2 a1, b1⟩
  · obtain ⟨k1, k2, k3⟩ := vx_keep h0 e1 hS hAX hf hL hF
    obtain ⟨t2, a1, b1⟩ := kx E ce q u t T'.heap (locs ++ L) e1.symm (by rw [← e2]; exact X'.warmed.alike) hp hb k1 k2 k3 (by rw [e1]; exact hce) hcv hcl T' rfl X'
    exact ⟨t2, st.trans a1, b1⟩
/-- caught by the row x of this method's table; the rows ahead don't take it -/
theorem vx_catch {own name : String} {E : String} {ce : Cell} {q : Addr} (hown : s.vm.findClass own = some m.cls) (pre : List ExceptionTableEntry) (x : ExceptionTableEntry) (suf : List ExceptionTableEntry) (hsplit : c.exceptionTable.toList = pre ++ x :: suf)
    (hpass : ∀ z ∈ pre, covers z pc = false ∨ (z.catchType ≠ 0 ∧ ∃ nm : String, (Cond.classLink own z.catchType nm).before args s = true ∧ va_Nc E nm s)) (hx : covers x pc = true) (h0 : x.catchType ≠ 0)
    (hlink : (Cond.classLink own x.catchType name).before args s = true) (hcast : (Cond.castable E name).before args s = true) (hcell : H[q]? = some ce) (hv : ce.vm = .none) (hcl : s.vm.findClass E = some ce.cls)
    (kk : W p l e R s m args below meth c H locs cells slots Q (F0 m x.handlerPc ls [.ref q])) : vx_W p l e R s m args below meth c H locs cells slots Q (F0 m pc ls rest) q := by
  intro T hT X
  have hpl : e.platform.magicAccessors = ({} : Platform).magicAccessors := by rw [X.admits.platform]
  obtain ⟨c3, c4, hc3, hc4, hasg⟩ := Cond.castable_spec hcast
  cases Option.some.inj (hc3.symm.trans hcl)
  obtain ⟨c5, hc5, hcl5⟩ := Cond.classLink_spec hown hlink e.platform hpl
  cases Option.some.inj (hc4.symm.trans hc5)
  obtain ⟨vm', X', st⟩ := X.thenCaughtThrough q (g := F0 m pc ls rest) rfl (Steps.refl _) (by rw [hT]; exact hcell) (by rw [hv]; rfl) (by obtain ⟨k9, h9, -⟩ := Vm.findClass_spec hcl; exact ⟨k9, h9⟩) pre x suf hsplit
    (fun z hz => by
      rcases hpass z hz with h | ⟨hz0, nm, hl1, hn1⟩
      · exact Or.inl h
      · obtain ⟨c6, hc6, hcl6⟩ := Cond.classLink_spec hown hl1 e.platform hpl
        obtain ⟨a8, b8, h1, h2, h3⟩ := hn1
        cases Option.some.inj (h1.symm.trans hcl)
        cases Option.some.inj (h2.symm.trans hc6)
        exact Or.inr ⟨hz0, _, hcl6, h3⟩) hx (Or.inr ⟨h0, c4, hcl5, hasg⟩)
  obtain ⟨t, a1, b1⟩ := kk (T.setVm vm') hT X'
  exact ⟨t, st.trans a1, b1⟩
end Rows
section Ends
variable {p : Program} {l : Launch} {e : Env} {R : Room} {s : State} {m : MethodId} {args : Array Value} {below : List Frame} {meth : Method} {c : Code} {H : Heap} {locs : List Loc} {cells slots : Nat} {Q : State → Prop}
variable {mc ms : Nat} {free : Addr → Prop} {A0 A1 : Nat → Prop} {H0 : Heap} {a : Array Value} {ls : Array Slot} {st0 rest : List Value}
variable {Qc : Array Value → State → Outcome → State → Prop} {XC : String → State → State → Prop}
/-- what a body that may throw owes at its end -/
def vx_MQ (below : List Frame) (Qc : Array Value → State → Outcome → State → Prop) (XC : String → State → State → Prop) (a : Array Value) (s : State) (mc ms : Nat) (free : Addr → Prop) : State → Prop := fun t =>
  ∃ o, t.status = .running ∧ Ended t below o ∧ vx_Q Qc XC mc ms free a s o t
theorem vx_ret {g : JFrame} {mc ms : Nat} (k : W p l e R s m args below meth c H locs cells slots (MQ below Qc args s mc ms free) g) : W p l e R s m args below meth c H locs cells slots (vx_MQ below Qc XC args s mc ms free) g := by
  intro T hT X
  obtain ⟨t, a1, o, b1, b2, b3, b4⟩ := k T hT X
  exact ⟨t, a1, o, b1, b2, Or.inl ⟨b3, b4⟩⟩
/-- not caught here: it goes on to the caller -/
theorem vx_widen {g : JFrame} {q : Addr} {k n : Nat} (h1 : cells ≤ k) (h2 : slots ≤ n) (kk : vx_W p l e R s m args below meth c H locs k n Q g q) : vx_W p l e R s m args below meth c H locs cells slots Q g q := fun T hT X => kk T hT (stand_widen X h1 h2)
theorem vx_out {pc : Nat} {E : String} {ce : Cell} {q : Addr} {mc ms : Nat} (hout : ∀ x ∈ c.exceptionTable.toList, covers x pc = false) (hlocks : meth.locks = false) (hcell : H[q]? = some ce) (hv : ce.vm = .none) (hcl : s.vm.findClass E = some ce.cls)
    (hx : ∀ t : State, t.heap = H → s.vm.Alike t.vm → XC E s t) (hf : ∀ z ∈ locs, free z.base) (hc : cells ≤ mc) (hs : slots ≤ ms) :
    vx_W p l e R s m args below meth c H locs cells slots (vx_MQ below Qc XC args s mc ms free) (F0 m pc ls rest) q := by
  intro T hT X
  obtain ⟨st1, hrun, hend, hW, hsm⟩ := X.leaveThrown q (g := F0 m pc ls rest) rfl rfl rfl hout hlocks
  have hcell9 : (T.setFrames (.throwing q :: below)).heap[q]? = some ce := by
    show T.heap[q]? = some ce
    rw [hT]; exact hcell
  exact ⟨_, st1, .threw q, hrun, hend, Or.inr ⟨q, rfl, E, ce, locs, hx _ hT hW.alike, hcell9, hv, hcl, hW, hsm.mono hc hs, hf⟩⟩
theorem vx_frame {U : State} {k n : Nat} (h : s.sameButNew ({ U with vm := s.vm } : State) locs k n) : s.heap.size ≤ U.heap.size ∧ ∀ q : Nat, q < s.heap.size → (∀ z ∈ locs, z.base ≠ q) → U.heap[q]? = s.heap[q]? := by
  obtain ⟨-, h2, -, -, -, h6⟩ := h
  refine ⟨h2, fun q hq hz => ?_⟩
  obtain ⟨c9, e1, e2, e3, e4⟩ := h6 q _ (Array.getElem?_eq_getElem hq)
  have hs : c9.slots = (s.heap[q]).slots := Array.ext_getElem? fun i => e4 i fun hm => hz _ hm rfl
  have h9 : c9 = s.heap[q] := by
    rw [hs] at e2
    exact e2
  have e5 : U.heap[q]? = some c9 := e1
  rw [e5, h9, Array.getElem?_eq_getElem hq]
/-- the words of a throw but the four that speak of the heap -/
def vx_no (w : Cond) : Bool := decide (w ≠ .isRef (.static Bundle.tN "UNASSIGNED_STACK" Bundle.steD)) && decide (w ≠ .isRef (.static Bundle.tN "SUPPRESSED_SENTINEL" Bundle.listD)) && decide (w ≠ .laysStatic Bundle.tN "UNASSIGNED_STACK" Bundle.steD) && decide (w ≠ .laysStatic Bundle.tN "SUPPRESSED_SENTINEL" Bundle.listD)
def vx_at0 (own : String) (ic : Nat) (X : String) (names : List String) : List Cond := (Bundle.ownAtoms0 own ic X names).filter vx_no
def vx_atS (own : String) (ic : Nat) (X : String) (names : List String) : List Cond := (Bundle.ownAtoms own ic X names).filter vx_no
/-- a word that the tables alone decide, or a good one -/
def vx_ot (w : Cond) : Bool := w.onTables || goodWord w
theorem vx_ot_at {args a' : Array Value} {s U : State} {w : Cond} (hW : s.WarmedH U.vm) (hvm : s.vm = U.vm) (hg : vx_ot w = true) (h : w.before args s = true) : w.before a' U = true := by
  simp only [vx_ot, Bool.or_eq_true] at hg
  rcases hg with hg | hg
  · exact va_tabs hg hvm h
  · exact word_at hW (good_of_word hg) h
/-- a list's words: the good ones out of the method's own list, the others by premises of their own -/
theorem vx_hat {args : Array Value} {s : State} {L B : List Cond} (h1 : ∀ w ∈ L.filter goodWord, w.before args s = true) (h2 : ∀ w ∈ L.filter (fun w => !goodWord w), w ∈ B) (h3 : ∀ w ∈ B, w.before args s = true) : ∀ w ∈ L, w.before args s = true := by
  intro w hw
  by_cases g : goodWord w = true
  · exact h1 w (List.mem_filter.mpr ⟨hw, g⟩)
  · refine h3 w (h2 w (List.mem_filter.mpr ⟨hw, ?_⟩))
    show (!goodWord w) = true
    cases hgw : goodWord w
    · rfl
    · exact absurd hgw g
theorem vx_c {args : Array Value} {s : State} {w : Cond} {B : List Cond} (h : w.before args s = true) (t : ∀ w ∈ B, w.before args s = true) : ∀ w' ∈ w :: B, w'.before args s = true := fun w' h' => (List.mem_cons.mp h').elim (fun e => by rw [e]; exact h) (t w')
theorem vx_n {args : Array Value} {s : State} : ∀ w ∈ ([] : List Cond), w.before args s = true := fun _ h => nomatch h
theorem vx_own {args : Array Value} {s : State} {L : List Cond} (h1 : ∀ w ∈ L.filter vx_no, w.before args s = true)
    (hU : (Cond.isRef (.static Bundle.tN "UNASSIGNED_STACK" Bundle.steD)).before args s = true) (hN : (Cond.isRef (.static Bundle.tN "SUPPRESSED_SENTINEL" Bundle.listD)).before args s = true)
    (lU : (Cond.laysStatic Bundle.tN "UNASSIGNED_STACK" Bundle.steD).before args s = true) (lN : (Cond.laysStatic Bundle.tN "SUPPRESSED_SENTINEL" Bundle.listD).before args s = true) : ∀ w ∈ L, w.before args s = true := by
  intro w hw
  by_cases e1 : w = .isRef (.static Bundle.tN "UNASSIGNED_STACK" Bundle.steD)
  · rw [e1]; exact hU
  · by_cases e2 : w = .isRef (.static Bundle.tN "SUPPRESSED_SENTINEL" Bundle.listD)
    · rw [e2]; exact hN
    · by_cases e3 : w = .laysStatic Bundle.tN "UNASSIGNED_STACK" Bundle.steD
      · rw [e3]; exact lU
      · by_cases e4 : w = .laysStatic Bundle.tN "SUPPRESSED_SENTINEL" Bundle.listD
        · rw [e4]; exact lN
        · exact h1 w (List.mem_filter.mpr ⟨hw, by unfold vx_no; rw [decide_eq_true e1, decide_eq_true e2, decide_eq_true e3, decide_eq_true e4]; rfl⟩)
/-- where a static field lies, its class's statics cell in H -/
def vx_L (C n d : String) (A : Nat → Prop) (U : State) (H : Heap) : Prop := ∃ (c : ClassId) (k : Class) (i : Nat) (f : Field) (a : Nat) (cell : Cell), U.vm.findClass C = some c ∧ U.fieldFound? C n d = some (c, k, i, f) ∧ f.isStatic = true ∧ k.statics = some a ∧ H[a]? = some cell ∧ cell.vm.isStatics = true ∧ cell.cls = c ∧ f.slot < cell.slots.size ∧ k.staticTypes[f.slot]? = some f.type ∧ ¬ A a
theorem vx_L.moved {C n d : String} {A : Nat → Prop} {u U : State} {H : Heap} (hvm : u.vm.Alike U.vm) (h : vx_L C n d A u H) : vx_L C n d A U H := by
  obtain ⟨c, k, i, f, a, cell, h1, h2, h3, h4, h5, h6, h7, h8, h9, h10⟩ := h
  obtain ⟨k', hi', he⟩ := State.fieldFound?_setVm hvm h2
  exact ⟨c, k', i, f, a, cell, by rw [hvm.findClass]; exact h1, hi', h3, by rw [he]; exact h4, h5, h6, h7, h8, by rw [he]; exact h9, h10⟩
theorem vx_L.kept {C n d : String} {A : Nat → Prop} {U : State} {H H1 : Heap} (h : vx_L C n d A U H) (hq : ∀ a : Nat, a < H.size → ¬ A a → H1[a]? = H[a]?) : vx_L C n d A U H1 := by
  obtain ⟨c, k, i, f, a, cell, h1, h2, h3, h4, h5, h6, h7, h8, h9, h10⟩ := h
  exact ⟨c, k, i, f, a, cell, h1, h2, h3, h4, by rw [hq a (Array.getElem?_eq_some_iff.mp h5).1 h10]; exact h5, h6, h7, h8, h9, h10⟩
theorem vx_L.narrow {C n d : String} {A B : Nat → Prop} {U : State} {H : Heap} (h : vx_L C n d A U H) (hAB : ∀ q, B q → A q) : vx_L C n d B U H := by
  obtain ⟨c, k, i, f, a, cell, h1, h2, h3, h4, h5, h6, h7, h8, h9, h10⟩ := h
  exact ⟨c, k, i, f, a, cell, h1, h2, h3, h4, h5, h6, h7, h8, h9, fun z => h10 (hAB _ z)⟩
theorem vx_L.word {C n d : String} {A : Nat → Prop} {s : State} {args : Array Value} (h : vx_L C n d A s s.heap) : (Cond.laysStatic C n d).before args s = true := by
  obtain ⟨c, k, i, f, a, cell, h1, h2, h3, h4, h5, h6, h7, h8, h9, -⟩ := h
  show (Cond.laysStatic C n d).holds args s none s [] = true
  exact Cond.laysStatic_of h1 h2 h3 h4 h5 h6 h7 h8 h9
/-- .. and what it holds: null or some reference -/
def vx_Zq (C n d : String) (A : Nat → Prop) (U : State) (H : Heap) : Prop := va_Zq C n d A U H ∧ vx_L C n d A U H
theorem vx_Zq.moved {C n d : String} {A : Nat → Prop} {u U : State} {H : Heap} (hvm : u.vm.Alike U.vm) (h : vx_Zq C n d A u H) : vx_Zq C n d A U H := ⟨va_Zq.moved hvm h.1, vx_L.moved hvm h.2⟩
theorem vx_Zq.kept {C n d : String} {A : Nat → Prop} {U : State} {H H1 : Heap} (h : vx_Zq C n d A U H) (hq : ∀ a : Nat, a < H.size → ¬ A a → H1[a]? = H[a]?) : vx_Zq C n d A U H1 := ⟨va_Zq.kept h.1 hq, vx_L.kept h.2 hq⟩
theorem vx_Zq.narrow {C n d : String} {A B : Nat → Prop} {U : State} {H : Heap} (h : vx_Zq C n d A U H) (hAB : ∀ q, B q → A q) : vx_Zq C n d B U H := ⟨va_Zq.narrow h.1 hAB, vx_L.narrow h.2 hAB⟩
theorem vx_Zqof {args : Array Value} {s : State} {C n d : String} {A : Nat → Prop} (hl : (Cond.laysStatic C n d).before args s = true) (hini : (Cond.initialized C).before args s = true) (h : (Cond.isRef (.static C n d)).before args s = true) (hA : ∀ a : Nat, a < s.heap.size → ¬ A a) : vx_Zq C n d A s s.heap := by
  refine ⟨va_Zqof hl hini h hA, ?_⟩
  obtain ⟨c, k, i, f, a, cell, h1, h2, h3, h4, h5, h6, h7, h8, h9⟩ := Cond.laysStatic_spec hl
  exact ⟨c, k, i, f, a, cell, h1, h2, h3, h4, h5, h6, h7, h8, h9, hA a (Array.getElem?_eq_some_iff.mp h5).1⟩
theorem vx_isRef {C n d : String} {v : Value} {A : Nat → Prop} {s : State} {args : Array Value} (h : va_Z C n d v A s s.heap) (hv : v.isRef = true) : (Cond.isRef (.static C n d)).before args s = true := by
  obtain ⟨cf, kf, fi, f, a, cell, h1, h2, h3, h4, h5, h6, h7, -⟩ := h
  have he : (Term.static C n d).eval args s none [] s = some v := by
    simp [Term.eval, State.fieldNamed?, h1, h2, h4, h5, h6, h7]
  simp only [Cond.before, Cond.holds, Cond.value, he]
  cases v <;> simp_all [Value.isRef]
theorem vx_isRefq {C n d : String} {A : Nat → Prop} {s : State} {args : Array Value} (h : va_Zq C n d A s s.heap) : (Cond.isRef (.static C n d)).before args s = true := by
  rcases h with h | ⟨t, h⟩
  · exact vx_isRef h rfl
  · exact vx_isRef h rfl
/-- the same frame, seen from here: as if the method were called anew in this heap -/
theorem vx_rebase {T : State} (X : Stand p l e R s m args below meth c T locs cells slots) {R' : Room} (hf : R'.frames ≤ R.frames) (hl : R'.locals ≤ R.locals) (hc : cells + R'.cells ≤ R.cells) (hs : slots + R'.slots ≤ R.slots) :
    Stand p l e R' ((T.setVm s.vm).setFrames (.invoking m args :: below)) m args below meth c T [] 0 0 := by
  have htop : (T.setVm s.vm).topJava?.isSome := X.here.top
  have hF : ((T.setVm s.vm).setFrames (.invoking m args :: below)).frames = .invoking m args :: below := State.frames_setFrames _ (State.cur_lt_of_top htop)
  obtain ⟨g₀, hg0⟩ := Option.isSome_iff_exists.mp htop
  obtain ⟨r, hr⟩ := State.topJava?_eq_some.mp hg0
  have hl9 : e.platform.stackLimits (T.setVm s.vm).me = e.platform.stackLimits s.me := X.limits
  have hb9 : (T.setVm s.vm).me.stackBytes = s.me.stackBytes := X.bytes
  refine ⟨X.admits, X.cas, X.clock, hF, ?_, X.hears, X.method, X.code, X.here, X.tail, X.warmed, ?_, ?_, ?_⟩
  · have h := X.room
    have hU : ((T.setVm s.vm).setFrames (.invoking m args :: below)).localsInUse = s.localsInUse := by
      rw [State.localsInUse_invoking hF (meth := meth) (c := c) X.method X.code, State.localsInUse_invoking X.frames X.method X.code]
    simp only [State.hasRoom, Bool.and_eq_true, decide_eq_true_eq] at h ⊢
    obtain ⟨⟨⟨⟨h1, h2, h3, h4, h5, h6⟩, h7⟩, h8⟩, h9⟩ := h
    rw [X.frames, List.length_cons] at h2 h3
    have q1 := X.heapSize
    have q2 := X.used
    simp only [hF, hU, List.length_cons, State.stackLimits_setFrames, State.stackBytes_setFrames, hl9, hb9]
    refine ⟨⟨⟨⟨by omega, by omega, by omega, by omega, by omega, h6⟩, ?_⟩, ?_⟩, X.book⟩
    · show T.heap.size + R'.cells ≤ e.platform.maxCells
      omega
    · show T.slotsUsed + R'.slots ≤ e.platform.maxSlots
      omega
  · rw [State.stackLimits_setFrames]; rfl
  · rw [State.stackBytes_setFrames]; rfl
  · refine ⟨?_, Nat.le_refl _, Nat.le_refl _, ?_, ?_, fun a c9 h9 => ⟨c9, h9, rfl, rfl, fun _ _ => rfl⟩⟩
    · obtain ⟨t, ht, -⟩ := State.frames_cons hr
      show T.setVm s.vm = { ((T.setVm s.vm).setFrames (.invoking m args :: below)).setFrames (T.setVm s.vm).frames with heap := T.heap, slotsUsed := T.slotsUsed }
      rw [State.setFrames_setFrames, State.setFrames_self ht]
      rfl
    · show T.slotsUsed = T.slotsUsed + ((T.heap.toList.drop T.heap.size).map (·.slots.size)).sum
      rw [List.drop_eq_nil_of_le (Nat.le_of_eq Array.length_toList)]
      rfl
    · show ((T.heap.toList.drop T.heap.size).map (·.slots.size)).sum ≤ 0
      rw [List.drop_eq_nil_of_le (Nat.le_of_eq Array.length_toList)]
      exact Nat.le_refl _
/-- 'throw new E()': new; dup; invokespecial; athrow -/
theorem vx_throw0 {cc : ByteArray} {pc : Nat} (hexec : p.tables.exec = Jvm.exec) (hb : c.code = cc) (hl : l.stackTraces = false) {own cls : String} {names : List String} {ik ic mc ms : Nat} {A : Nat → Prop}
    (hown : s.vm.findClass own = some m.cls) (hcls : Bundle.fit cls = true) (hnames : ∀ n ∈ names, Bundle.fit n = true)
    (hk : (Cond.classLink own ik cls).before args s = true) (hini : (Cond.initialized cls).before args s = true) (hat : ∀ w ∈ vx_at0 own ic cls names, w.before args s = true)
    (hgood : ∀ w ∈ Cond.classLink own ik cls :: Cond.initialized cls :: vx_at0 own ic cls names, vx_ot w = true)
    (hU : vx_Zq Bundle.tN "UNASSIGNED_STACK" Bundle.steD A s s.heap) (hN : vx_Zq Bundle.tN "SUPPRESSED_SENTINEL" Bundle.listD A s s.heap) (hS : va_S A s.heap H locs) (hsize : ls.size = c.maxLocals)
    (d0 : decode cc pc = .ok (.new ik, 3)) (d3 : decode cc (pc + 3) = .ok (.dup, 1)) (d4 : decode cc (pc + 4) = .ok (.invokespecial ic, 3)) (d7 : decode cc (pc + 7) = .ok (.athrow, 1))
    (hout : ∀ x ∈ c.exceptionTable.toList, covers x (pc + 7) = false)
    (hRframes : names.length + 3 < R.frames) (hRlocals : (rest.map fun v => v.category).sum + (13 * (names.length + 1) + 42) ≤ R.locals) (hRcells : cells + 1 ≤ R.cells) (hRslots : slots + 6 ≤ R.slots) (hlocks : meth.locks = false)
    (hx : ∀ t : State, s.vm.Alike t.vm → H.size ≤ t.heap.size → (∀ q : Nat, q < H.size → t.heap[q]? = H[q]?) → XC cls s t)
    (hf : ∀ z ∈ locs, free z.base) (hc : cells + 1 ≤ mc) (hs : slots + 6 ≤ ms) :
    W p l e R s m args below meth c H locs cells slots (vx_MQ below Qc XC args s mc ms free) (F0 m pc ls rest) := by
  intro T hT X
  have htr : e.platform.stackTraces = false := (show e.platform.stackTraces = l.stackTraces by rw [X.admits.platform]).trans hl
  have Y := vx_rebase X (R' := { frames := R.frames, locals := R.locals, cells := 1, slots := 6 }) (Nat.le_refl _) (Nat.le_refl _) hRcells hRslots
  obtain ⟨s', hA⟩ : ∃ z, z = (T.setVm s.vm).setFrames (.invoking m args :: below) := ⟨_, rfl⟩
  rw [← hA] at Y
  have hvm : s'.vm = s.vm := by rw [hA]; rfl
  have hhp : s'.heap = H := by rw [hA]; exact hT
  have hW0 : s.WarmedH s'.vm := by rw [hvm]; exact State.WarmedH.refl s
  have hat' : ∀ w ∈ vx_at0 own ic cls names, w.before args s' = true := fun w hw => vx_ot_at hW0 hvm.symm (hgood w (List.mem_cons_of_mem _ (List.mem_cons_of_mem _ hw))) (hat w hw)
  have hk' : (Cond.classLink own ik cls).before args s' = true := vx_ot_at hW0 hvm.symm (hgood _ List.mem_cons_self) hk
  have hini' : (Cond.initialized cls).before args s' = true := vx_ot_at hW0 hvm.symm (hgood _ (List.mem_cons_of_mem _ List.mem_cons_self)) hini
  have hU' : vx_Zq Bundle.tN "UNASSIGNED_STACK" Bundle.steD A s' s'.heap := by rw [hhp]; exact vx_Zq.moved hW0.alike (hU.kept hS.2.1)
  have hN' : vx_Zq Bundle.tN "SUPPRESSED_SENTINEL" Bundle.listD A s' s'.heap := by rw [hhp]; exact vx_Zq.moved hW0.alike (hN.kept hS.2.1)
  have h : ∀ w ∈ Bundle.ownAtoms0 own ic cls names, w.before args s' = true := vx_own hat' (vx_isRefq hU'.1) (vx_isRefq hN'.1) hU'.2.word hN'.2.word
  have hown' : s'.vm.findClass own = some m.cls := by rw [hvm]; exact hown
  have hins : (Cond.instantiable cls 6).before args s' = true := h _ (by simp [Bundle.ownAtoms0])
  obtain ⟨vm₁, cX, kX, hfX, hkX, -, -, X₁, st1⟩ := Y.newCold hexec (own := own) (C := cls) (index := ik) (n := 6) hown' hk' hins hini'
    (g := F0 m pc ls rest) rfl (by rw [hb]; exact d0) (Nat.le_refl _) (Nat.le_refl _)
  generalize hT1 : (T.setVm vm₁).pushCell { cls := cX, slots := kX.instanceTypes.map defaultValue, vm := .none } = T1 at X₁ st1
  have hcat : (Value.ref T.heap.size).category = 1 := rfl
  have hcellA : T1.heap[T.heap.size]? = some (freshCell cX kX) := by rw [← hT1]; exact State.heap_pushCell_size _ _
  have d3' : decode c.code (pc + 3) = .ok (.dup, 1) := by rw [hb]; exact d3
  obtain ⟨U, hsteps, hrun, hend, hW, hsame, ce, hce, hO⟩ := X₁.ctorThrow0 hexec htr (own := own) (cls := cls) (names := names) (ic := ic) hown' hcls hnames h (fun x hx => nomatch hx) hfX hkX hcellA (by rw [hhp, hT]; exact Nat.le_refl _)
    (g := { method := m, pc := pc + 4, locals := ls, stack := .ref T.heap.size :: .ref T.heap.size :: rest, locked := none }) rfl hsize rfl rfl (rest := rest) rfl
    (by rw [hb]; exact d4) (by rw [hb]; exact d7) hout hRframes (by simp only [List.map_cons, List.sum_cons, hcat]; omega) hlocks
  obtain ⟨f1, f2⟩ := vx_frame hsame
  rw [hhp] at f1 f2
  have hWs : s.WarmedH U.vm := State.WarmedH.trans hW0 hW
  have hcl : s.vm.findClass cls = some ce.cls := by
    have h9 := hO.cls
    rw [hvm] at h9
    exact h9
  have hall : s.sameButNew ({ U with vm := s.vm } : State) locs mc ms := by
    subst hA
    obtain ⟨e1, e2⟩ := hsame
    rw [State.setFrames_setFrames] at e1
    have h2 : (T.setVm s.vm).sameButNew ({ U with vm := s.vm } : State) [] (0 + 1) (0 + 6) := ⟨e1, e2⟩
    have h3 := X.same.trans h2
    rw [List.append_nil] at h3
    exact h3.mono hc hs
  refine ⟨U, ?_, .threw T.heap.size, hrun, hend, Or.inr ⟨T.heap.size, rfl, cls, ce, locs, hx U hWs.alike f1 (fun q hq => f2 q hq (fun z hz => nomatch hz)), hce, hO.vm, hcl, hWs, hall, hf⟩⟩
  refine st1 _ ?_
  show Steps p.tables e below (T1.setTop { method := m, pc := pc + 3, locals := ls, stack := .ref T.heap.size :: rest, locked := none }) _
  jvm_step X₁.here [X₁.here.top, hexec, d3', Value.category]
  exact hsteps
/-- 'throw new E("text")': new; dup; ldc; invokespecial; athrow -/
theorem vx_throwS {cc : ByteArray} {pc : Nat} (hexec : p.tables.exec = Jvm.exec) (hb : c.code = cc) (hl : l.stackTraces = false) {own cls text : String} {names : List String} {ik is ic mc ms sa : Nat} {A : Nat → Prop}
    (hown : s.vm.findClass own = some m.cls) (hcls : Bundle.fit cls = true) (hnames : ∀ n ∈ names, Bundle.fit n = true)
    (hk : (Cond.classLink own ik cls).before args s = true) (hini : (Cond.initialized cls).before args s = true) (hstr : vk_R own is text sa s) (hat : ∀ w ∈ vx_atS own ic cls names, w.before args s = true)
    (hgood : ∀ w ∈ Cond.classLink own ik cls :: Cond.initialized cls :: vx_atS own ic cls names, vx_ot w = true)
    (hU : vx_Zq Bundle.tN "UNASSIGNED_STACK" Bundle.steD A s s.heap) (hN : vx_Zq Bundle.tN "SUPPRESSED_SENTINEL" Bundle.listD A s s.heap) (hS : va_S A s.heap H locs) (hsize : ls.size = c.maxLocals)
    (d0 : decode cc pc = .ok (.new ik, 3)) (d3 : decode cc (pc + 3) = .ok (.dup, 1)) (d4 : decode cc (pc + 4) = .ok (.ldc is, 2)) (d6 : decode cc (pc + 6) = .ok (.invokespecial ic, 3)) (d9 : decode cc (pc + 9) = .ok (.athrow, 1))
    (hout : ∀ x ∈ c.exceptionTable.toList, covers x (pc + 9) = false)
    (hRframes : names.length + 3 < R.frames) (hRlocals : (rest.map fun v => v.category).sum + (13 * (names.length + 1) + 43) ≤ R.locals) (hRcells : cells + 1 ≤ R.cells) (hRslots : slots + 6 ≤ R.slots) (hlocks : meth.locks = false)
    (hx : ∀ t : State, s.vm.Alike t.vm → H.size ≤ t.heap.size → (∀ q : Nat, q < H.size → t.heap[q]? = H[q]?) → XC cls s t)
    (hf : ∀ z ∈ locs, free z.base) (hc : cells + 1 ≤ mc) (hs : slots + 6 ≤ ms) :
    W p l e R s m args below meth c H locs cells slots (vx_MQ below Qc XC args s mc ms free) (F0 m pc ls rest) := by
  intro T hT X
  have htr : e.platform.stackTraces = false := (show e.platform.stackTraces = l.stackTraces by rw [X.admits.platform]).trans hl
  have Y := vx_rebase X (R' := { frames := R.frames, locals := R.locals, cells := 1, slots := 6 }) (Nat.le_refl _) (Nat.le_refl _) hRcells hRslots
  obtain ⟨s', hA⟩ : ∃ z, z = (T.setVm s.vm).setFrames (.invoking m args :: below) := ⟨_, rfl⟩
  rw [← hA] at Y
  have hvm : s'.vm = s.vm := by rw [hA]; rfl
  have hhp : s'.heap = H := by rw [hA]; exact hT
  have hW0 : s.WarmedH s'.vm := by rw [hvm]; exact State.WarmedH.refl s
  have hat' : ∀ w ∈ vx_atS own ic cls names, w.before args s' = true := fun w hw => vx_ot_at hW0 hvm.symm (hgood w (List.mem_cons_of_mem _ (List.mem_cons_of_mem _ hw))) (hat w hw)
  have hk' : (Cond.classLink own ik cls).before args s' = true := vx_ot_at hW0 hvm.symm (hgood _ List.mem_cons_self) hk
  have hini' : (Cond.initialized cls).before args s' = true := vx_ot_at hW0 hvm.symm (hgood _ (List.mem_cons_of_mem _ List.mem_cons_self)) hini
  have hU' : vx_Zq Bundle.tN "UNASSIGNED_STACK" Bundle.steD A s' s'.heap := by rw [hhp]; exact vx_Zq.moved hW0.alike (hU.kept hS.2.1)
  have hN' : vx_Zq Bundle.tN "SUPPRESSED_SENTINEL" Bundle.listD A s' s'.heap := by rw [hhp]; exact vx_Zq.moved hW0.alike (hN.kept hS.2.1)
  have h : ∀ w ∈ Bundle.ownAtoms own ic cls names, w.before args s' = true := vx_own hat' (vx_isRefq hU'.1) (vx_isRefq hN'.1) hU'.2.word hN'.2.word
  have hown' : s'.vm.findClass own = some m.cls := by rw [hvm]; exact hown
  have hins : (Cond.instantiable cls 6).before args s' = true := h _ (by simp [Bundle.ownAtoms])
  obtain ⟨vm₁, cX, kX, hfX, hkX, -, -, X₁, st1⟩ := Y.newCold hexec (own := own) (C := cls) (index := ik) (n := 6) hown' hk' hins hini'
    (g := F0 m pc ls rest) rfl (by rw [hb]; exact d0) (Nat.le_refl _) (Nat.le_refl _)
  generalize hT1 : (T.setVm vm₁).pushCell { cls := cX, slots := kX.instanceTypes.map defaultValue, vm := .none } = T1 at X₁ st1
  have hcat : (Value.ref T.heap.size).category = 1 := rfl
  have hcellA : T1.heap[T.heap.size]? = some (freshCell cX kX) := by rw [← hT1]; exact State.heap_pushCell_size _ _
  have d3' : decode c.code (pc + 3) = .ok (.dup, 1) := by rw [hb]; exact d3
  have d4' : decode c.code (pc + 4) = .ok (.ldc is, 2) := by rw [hb]; exact d4
  have hstr' : vk_R own is text sa s' := vk_R.warm hW0 hstr
  obtain ⟨U, hsteps, hrun, hend, hW, hsame, ce, hce, hO⟩ := X₁.ctorThrowS hexec htr (own := own) (cls := cls) (names := names) (ic := ic) hown' hcls hnames h (fun x hx => nomatch hx) hfX hkX hcellA (by rw [hhp, hT]; exact Nat.le_refl _) (msg := .ref sa) rfl
    (g := { method := m, pc := pc + 6, locals := ls, stack := .ref sa :: .ref T.heap.size :: .ref T.heap.size :: rest, locked := none }) rfl hsize rfl rfl (rest := rest) rfl
    (by rw [hb]; exact d6) (by rw [hb]; exact d9) hout hRframes (by simp only [List.map_cons, List.sum_cons, hcat]; omega) hlocks
  obtain ⟨f1, f2⟩ := vx_frame hsame
  rw [hhp] at f1 f2
  have hWs : s.WarmedH U.vm := State.WarmedH.trans hW0 hW
  have hcl : s.vm.findClass cls = some ce.cls := by
    have h9 := hO.cls
    rw [hvm] at h9
    exact h9
  have hall : s.sameButNew ({ U with vm := s.vm } : State) locs mc ms := by
    subst hA
    obtain ⟨e1, e2⟩ := hsame
    rw [State.setFrames_setFrames] at e1
    have h2 : (T.setVm s.vm).sameButNew ({ U with vm := s.vm } : State) [] (0 + 1) (0 + 6) := ⟨e1, e2⟩
    have h3 := X.same.trans h2
    rw [List.append_nil] at h3
    exact h3.mono hc hs
  refine ⟨U, ?_, .threw T.heap.size, hrun, hend, Or.inr ⟨T.heap.size, rfl, cls, ce, locs, hx U hWs.alike f1 (fun q hq => f2 q hq (fun z hz => nomatch hz)), hce, hO.vm, hcl, hWs, hall, hf⟩⟩
  refine st1 _ ?_
  show Steps p.tables e below (T1.setTop { method := m, pc := pc + 3, locals := ls, stack := .ref T.heap.size :: rest, locked := none }) _
  jvm_step X₁.here [X₁.here.top, hexec, d3', Value.category]
  exact X₁.ldcString hexec (own := own) (text := text) (index := is) (a := sa) hown' hstr'.1 hstr'.2
    (g := { method := m, pc := pc + 4, locals := ls, stack := .ref T.heap.size :: .ref T.heap.size :: rest, locked := none }) rfl d4' _ hsteps
/-- 'throw new E("text")', the text by a wide index -/
theorem vx_throwSW {cc : ByteArray} {pc : Nat} (hexec : p.tables.exec = Jvm.exec) (hb : c.code = cc) (hl : l.stackTraces = false) {own cls text : String} {names : List String} {ik is ic mc ms sa : Nat} {A : Nat → Prop}
    (hown : s.vm.findClass own = some m.cls) (hcls : Bundle.fit cls = true) (hnames : ∀ n ∈ names, Bundle.fit n = true)
    (hk : (Cond.classLink own ik cls).before args s = true) (hini : (Cond.initialized cls).before args s = true) (hstr : vk_R own is text sa s) (hat : ∀ w ∈ vx_atS own ic cls names, w.before args s = true)
    (hgood : ∀ w ∈ Cond.classLink own ik cls :: Cond.initialized cls :: vx_atS own ic cls names, vx_ot w = true)
    (hU : vx_Zq Bundle.tN "UNASSIGNED_STACK" Bundle.steD A s s.heap) (hN : vx_Zq Bundle.tN "SUPPRESSED_SENTINEL" Bundle.listD A s s.heap) (hS : va_S A s.heap H locs) (hsize : ls.size = c.maxLocals)
    (d0 : decode cc pc = .ok (.new ik, 3)) (d3 : decode cc (pc + 3) = .ok (.dup, 1)) (d4 : decode cc (pc + 4) = .ok (.ldc_w is, 3)) (d7 : decode cc (pc + 7) = .ok (.invokespecial ic, 3)) (d10 : decode cc (pc + 10) = .ok (.athrow, 1))
    (hout : ∀ x ∈ c.exceptionTable.toList, covers x (pc + 10) = false)
    (hRframes : names.length + 3 < R.frames) (hRlocals : (rest.map fun v => v.category).sum + (13 * (names.length + 1) + 43) ≤ R.locals) (hRcells : cells + 1 ≤ R.cells) (hRslots : slots + 6 ≤ R.slots) (hlocks : meth.locks = false)
    (hx : ∀ t : State, s.vm.Alike t.vm → H.size ≤ t.heap.size → (∀ q : Nat, q < H.size → t.heap[q]? = H[q]?) → XC cls s t)
    (hf : ∀ z ∈ locs, free z.base) (hc : cells + 1 ≤ mc) (hs : slots + 6 ≤ ms) :
    W p l e R s m args below meth c H locs cells slots (vx_MQ below Qc XC args s mc ms free) (F0 m pc ls rest) := by
  intro T hT X
  have htr : e.platform.stackTraces = false := (show e.platform.stackTraces = l.stackTraces by rw [X.admits.platform]).trans hl
  have Y := vx_rebase X (R' := { frames := R.frames, locals := R.locals, cells := 1, slots := 6 }) (Nat.le_refl _) (Nat.le_refl _) hRcells hRslots
  obtain ⟨s', hA⟩ : ∃ z, z = (T.setVm s.vm).setFrames (.invoking m args :: below) := ⟨_, rfl⟩
  rw [← hA] at Y
  have hvm : s'.vm = s.vm := by rw [hA]; rfl
  have hhp : s'.heap = H := by rw [hA]; exact hT
  have hW0 : s.WarmedH s'.vm := by rw [hvm]; exact State.WarmedH.refl s
  have hat' : ∀ w ∈ vx_atS own ic cls names, w.before args s' = true := fun w hw => vx_ot_at hW0 hvm.symm (hgood w (List.mem_cons_of_mem _ (List.mem_cons_of_mem _ hw))) (hat w hw)
  have hk' : (Cond.classLink own ik cls).before args s' = true := vx_ot_at hW0 hvm.symm (hgood _ List.mem_cons_self) hk
  have hini' : (Cond.initialized cls).before args s' = true := vx_ot_at hW0 hvm.symm (hgood _ (List.mem_cons_of_mem _ List.mem_cons_self)) hini
  have hU' : vx_Zq Bundle.tN "UNASSIGNED_STACK" Bundle.steD A s' s'.heap := by rw [hhp]; exact vx_Zq.moved hW0.alike (hU.kept hS.2.1)
  have hN' : vx_Zq Bundle.tN "SUPPRESSED_SENTINEL" Bundle.listD A s' s'.heap := by rw [hhp]; exact vx_Zq.moved hW0.alike (hN.kept hS.2.1)
  have h : ∀ w ∈ Bundle.ownAtoms own ic cls names, w.before args s' = true := vx_own hat' (vx_isRefq hU'.1) (vx_isRefq hN'.1) hU'.2.word hN'.2.word
  have hown' : s'.vm.findClass own = some m.cls := by rw [hvm]; exact hown
  have hins : (Cond.instantiable cls 6).before args s' = true := h _ (by simp [Bundle.ownAtoms])
  obtain ⟨vm₁, cX, kX, hfX, hkX, -, -, X₁, st1⟩ := Y.newCold hexec (own := own) (C := cls) (index := ik) (n := 6) hown' hk' hins hini'
    (g := F0 m pc ls rest) rfl (by rw [hb]; exact d0) (Nat.le_refl _) (Nat.le_refl _)
  generalize hT1 : (T.setVm vm₁).pushCell { cls := cX, slots := kX.instanceTypes.map defaultValue, vm := .none } = T1 at X₁ st1
  have hcat : (Value.ref T.heap.size).category = 1 := rfl
  have hcellA : T1.heap[T.heap.size]? = some (freshCell cX kX) := by rw [← hT1]; exact State.heap_pushCell_size _ _
  have d3' : decode c.code (pc + 3) = .ok (.dup, 1) := by rw [hb]; exact d3
  have d4' : decode c.code (pc + 4) = .ok (.ldc_w is, 3) := by rw [hb]; exact d4
  have hstr' : vk_R own is text sa s' := vk_R.warm hW0 hstr
  obtain ⟨U, hsteps, hrun, hend, hW, hsame, ce, hce, hO⟩ := X₁.ctorThrowS hexec htr (own := own) (cls := cls) (names := names) (ic := ic) hown' hcls hnames h (fun x hx => nomatch hx) hfX hkX hcellA (by rw [hhp, hT]; exact Nat.le_refl _) (msg := .ref sa) rfl
    (g := { method := m, pc := pc + 7, locals := ls, stack := .ref sa :: .ref T.heap.size :: .ref T.heap.size :: rest, locked := none }) rfl hsize rfl rfl (rest := rest) rfl
    (by rw [hb]; exact d7) (by rw [hb]; exact d10) hout hRframes (by simp only [List.map_cons, List.sum_cons, hcat]; omega) hlocks
  obtain ⟨f1, f2⟩ := vx_frame hsame
  rw [hhp] at f1 f2
  have hWs : s.WarmedH U.vm := State.WarmedH.trans hW0 hW
  have hcl : s.vm.findClass cls = some ce.cls := by
    have h9 := hO.cls
    rw [hvm] at h9
    exact h9
  have hall : s.sameButNew ({ U with vm := s.vm } : State) locs mc ms := by
    subst hA
    obtain ⟨e1, e2⟩ := hsame
    rw [State.setFrames_setFrames] at e1
    have h2 : (T.setVm s.vm).sameButNew ({ U with vm := s.vm } : State) [] (0 + 1) (0 + 6) := ⟨e1, e2⟩
    have h3 := X.same.trans h2
    rw [List.append_nil] at h3
    exact h3.mono hc hs
  refine ⟨U, ?_, .threw T.heap.size, hrun, hend, Or.inr ⟨T.heap.size, rfl, cls, ce, locs, hx U hWs.alike f1 (fun q hq => f2 q hq (fun z hz => nomatch hz)), hce, hO.vm, hcl, hWs, hall, hf⟩⟩
  refine st1 _ ?_
  show Steps p.tables e below (T1.setTop { method := m, pc := pc + 3, locals := ls, stack := .ref T.heap.size :: rest, locked := none }) _
  jvm_step X₁.here [X₁.here.top, hexec, d3', Value.category]
  exact X₁.ldcStringW hexec (own := own) (text := text) (index := is) (a := sa) hown' hstr'.1 hstr'.2
    (g := { method := m, pc := pc + 4, locals := ls, stack := .ref T.heap.size :: .ref T.heap.size :: rest, locked := none }) rfl d4' _ hsteps
end Ends
section Bodies
variable {l : Launch}
theorem vx_ofW {y : MethodName} {ws ws' : List Cond} {rm : Room} {Pc : Array Value → State → Prop} {Qc : Array Value → State → Outcome → State → Prop} {XC : String → State → State → Prop} {mc ms : Nat} {free : Addr → Prop} {cc : ByteArray} {maxL : Nat} {ret : Option FieldType}
    (hy : plainName y.cls = true) (hw : ws = Cond.code y cc maxL ret :: ws')
    (body : ∀ p e s m args below meth c s₁, BodyLoose p l y (headSpec ws rm) cc maxL ret e s m args below meth c s₁ → c.maxLocals = maxL → (∀ x ∈ c.exceptionTable.toList, False) → Pc args s →
      W p l e (headSpec ws rm).room s m args below meth c s.heap [] 0 0 (vx_MQ below Qc XC args s mc ms free) (entryFrame m args maxL)) : vx_Met l y ws rm Pc Qc XC mc ms free := by
  refine MetFree.of_bodyS (code := cc) (maxLocals := maxL) (ret := ret) hy ?_ ?_
  · intro args s m h hn
    obtain ⟨meth, c, h1, h2, h3, h4, h5, h6, -, -⟩ := Cond.code_spec hn (atoms_spec (ws := ws) h _ (by rw [hw]; exact List.mem_cons_self))
    exact ⟨meth, c, h1, h2, h3, h4, h5, h6⟩
  · intro p e s m args below meth c s₁ B hml hP _
    have hh0 : s₁.heap = s.heap := by rw [B.state]; rfl
    have ht : ∀ x ∈ c.exceptionTable.toList, False := by
      obtain ⟨meth9, c9, h1, h2, -, -, -, -, h7, -⟩ := Cond.code_spec B.named (atoms_spec (ws := ws) B.pre _ (by rw [hw]; exact List.mem_cons_self))
      cases Option.some.inj (h1.symm.trans B.method)
      cases Option.some.inj (h2.symm.trans (Stand.of_body B).code)
      intro x hx
      rw [Array.isEmpty_iff.mp h7] at hx
      cases hx
    obtain ⟨t, a1, o, b1, b2, b3⟩ := body p e s m args below meth c s₁ B hml ht hP s₁ hh0 (Stand.of_body B)
    exact ⟨t, o, a1, b1, b2, b3⟩
/-- the table of a body with handlers -/
theorem vx_table {p : Program} {x y : MethodName} {S : Spec} {cc bytes : ByteArray} {maxL maxL' : Nat} {ret ret' : Option FieldType} {e : Env} {s s₁ : State} {m : MethodId} {args : Array Value} {below : List Frame} {meth : Method} {c : Code} {hh : List (Nat × Nat × Nat × Nat)}
    (B : BodyLoose p l y S cc maxL ret e s m args below meth c s₁) (h : (Cond.codeWith y bytes maxL' ret' hh).before args s = true) : c.exceptionTable.toList = tableOf hh := by
  obtain ⟨m9, meth9, c9, hn9, h1, h2, -, -, h6, -⟩ := Cond.codeWith_spec h
  cases Option.some.inj (hn9.symm.trans B.named)
  cases Option.some.inj (h1.symm.trans B.method)
  cases Option.some.inj (h2.symm.trans (Stand.of_body B).code)
  rw [← h6, table_eq]
end Bodies
end VXA
/-! ===== END ===== -/
/-! ===== BEGIN a static call of a method with an exception table ===== -/
section VXS
variable {p : Program} {l : Launch} {e : Env} {R : Room} {s : State} {m : MethodId} {args : Array Value} {below : List Frame} {meth : Method} {c : Code} {T : State} {H : Heap} {locs : List Loc} {cells slots : Nat}
abbrev vx_CSW (R : Room) (s : State) (args : Array Value) (own : String) (index : Nat) (y : MethodName) (bytes : ByteArray) (maxL : Nat) (ret : Option FieldType) (hh : List (Nat × Nat × Nat × Nat)) (ws : List Cond) (rm : Room) (mc ms n : Nat) : Prop :=
  (rm.cells = mc ∧ rm.slots = ms ∧ rm.frames + 1 ≤ R.frames ∧ 8 + (maxL + 11) + rm.locals ≤ R.locals ∧ (∀ w ∈ ws, ∀ (a' : Array Value) (U : State), s.WarmedH U.vm → w.before a' U = true) ∧ Cond.codeWith y bytes maxL ret hh ∈ ws) ∧
  (Cond.codeWith y bytes maxL ret hh).before args s = true ∧ (Cond.initialized y.cls).before args s = true ∧ (y.cls ≠ "java/lang/invoke/MethodHandle" ∧ y.cls ≠ "java/lang/invoke/VarHandle") ∧
  (∀ sig, parseMethodDescriptor y.desc = some sig → n = sig.parameters.length) ∧ (Cond.methodLink own index y).before args s = true ∧ (Cond.static y).before args s = true
theorem vx_cwSW {own : String} {index maxL mc ms : Nat} {y : MethodName} {bytes : ByteArray} {ret : Option FieldType} {hh : List (Nat × Nat × Nat × Nat)} {Ts ws ws' : List Cond} {rm : Room} (n : Nat) (ht : ∀ w ∈ Ts, w.before args s = true) (hT : GoodIn Ts (va_wsS own index y ws)) (hw : ws = Cond.codeWith y bytes maxL ret hh :: ws') (hrc : rm.cells = mc) (hrs : rm.slots = ms)
    (hd : y.cls ≠ "java/lang/invoke/MethodHandle" ∧ y.cls ≠ "java/lang/invoke/VarHandle" ∧ (parseMethodDescriptor y.desc).map (fun d => d.parameters.length) = some n) (hR : rm.frames + 1 ≤ R.frames ∧ 8 + (maxL + 11) + rm.locals ≤ R.locals) :
    vx_CSW R s args own index y bytes maxL ret hh ws rm mc ms n := by
  have ok : ∀ w ∈ va_wsS own index y ws, w.before args s = true := fun w h => ht w (hT w h).1
  have hG : GoodIn Ts ws := fun w h => hT w (by unfold va_wsS; exact List.mem_append_right _ h)
  have hc : Cond.codeWith y bytes maxL ret hh ∈ ws := by rw [hw]; exact List.mem_cons_self
  refine ⟨⟨hrc, hrs, hR.1, hR.2, pay_in ht hG, hc⟩, ht _ (hG _ hc).1, ok _ (by simp [va_wsS]), ⟨hd.1, hd.2.1⟩, fun sig h => ?_, ok _ (by simp [va_wsS]), ok _ (by simp [va_wsS])⟩
  have h2 := hd.2.2
  rw [h] at h2
  exact (Option.some.inj h2).symm
theorem vx_callSW (X : Stand p l e R s m args below meth c T locs cells slots) (hexec : p.tables.exec = Jvm.exec) {own : String} {index : Nat} {y : MethodName} {bytes : ByteArray} {maxL : Nat} {ret : Option FieldType} {hh : List (Nat × Nat × Nat × Nat)}
    (hown : s.vm.findClass own = some m.cls) (hlink : (Cond.methodLink own index y).before args s = true) (hstat : (Cond.static y).before args s = true) (hinit : (Cond.initialized y.cls).before args s = true)
    (hcode : (Cond.codeWith y bytes maxL ret hh).before args s = true) (hy : y.cls ≠ "java/lang/invoke/MethodHandle" ∧ y.cls ≠ "java/lang/invoke/VarHandle")
    {W9 : Nat} {Pre : Pt → Array Value → Prop} {Post : Pt → Array Value → Option Value → Pt → Prop} (hK : Back l R p e below s args y 3 W9 Pre Post)
    {g : JFrame} (hg : g.method = m) (hsize : g.locals.size = c.maxLocals) {argsL rest : List Value} (hlen : ∀ sig, parseMethodDescriptor y.desc = some sig → argsL.length = sig.parameters.length)
    (hstack : g.stack = argsL.reverse ++ rest) (hW : 2 * g.monitorRoom + (rest.map fun v => v.category).sum ≤ W9) (hdg : decode c.code g.pc = .ok (.invokestatic index, 3))
    (hpre : ∀ vm₁, s.WarmedH vm₁ → Pre ⟨T.setVm vm₁, locs, cells, slots⟩ argsL.toArray) :
    ∃ (v : Option Value) (vm₁ : Vm) (B : Pt), s.WarmedH vm₁ ∧ Stand p l e R s m args below meth c B.U B.locs B.cells B.slots ∧ Post ⟨T.setVm vm₁, locs, cells, slots⟩ argsL.toArray v B ∧
      ∀ target, Steps p.tables e below (B.U.setTop { g with pc := g.pc + 3, stack := v.toList ++ rest }) target → Steps p.tables e below (T.setTop g) target := by
  obtain ⟨mk, methM, cM, hnamed, hmethM, -, -, -, -, -, -, hsigM⟩ := Cond.codeWith_spec hcode
  have hstatic : methM.isStatic = true := Cond.static_spec hnamed hmethM hstat
  obtain ⟨kP, hkP, -⟩ := className_of_methodNamed hnamed
  have hinitP : kP.init = .initialized := Cond.initialized_spec (findClass_of_methodNamed hnamed) hkP hinit
  obtain ⟨vm₁, X₁, hstep₁⟩ := X.invokestatic hexec hown hlink hnamed hmethM hstatic hkP hinitP hy (g := g) hg (argsL := argsL) (rest := rest) (hlen _ hsigM) hstack hdg
  obtain ⟨v, B, X', hpost, hsteps⟩ := hK m meth c ⟨T.setVm vm₁, locs, cells, slots⟩ { g with stack := rest } (.invokestatic index) mk argsL.toArray X₁ hg hsize hdg hW (X₁.named hnamed) (hpre vm₁ X₁.warmed)
  exact ⟨v, vm₁, B, X₁.warmed, X', hpost, fun target h => hstep₁ _ fun acts => by rw [doInvoke_state]; exact hsteps.trans h⟩
theorem vx_runSW {y : MethodName} {bytes cc : ByteArray} {maxL nL mc ms n index : Nat} {ret : Option FieldType} {hh : List (Nat × Nat × Nat × Nat)} {ws : List Cond} {rm : Room} {Pc : Array Value → State → Prop} {Qc : Array Value → State → Outcome → State → Prop} {free : Addr → Prop} {Ts : List Cond} {own : String} {As rest : List Value} {g : JFrame}
    (S : CallFix p m c cc nL s args Ts own) (hM : Met l y ws rm Pc Qc mc ms free) (cw : vx_CSW R s args own index y bytes maxL ret hh ws rm mc ms n) (hp : PreS s H Pc As)
    (hg : g.method = m) (hn : As.length = n) (hsize : g.locals.size = nL) (hstack : g.stack = As.reverse ++ rest) (hW : 2 * g.monitorRoom + (rest.map fun v => v.category).sum ≤ 8) (hdg : decode cc g.pc = .ok (.invokestatic index, 3)) (hf : cells + mc ≤ R.cells ∧ slots + ms ≤ R.slots) :
    va_Run p l e R s m args below meth c H locs cells slots mc ms g rest (Qc As.toArray) (free) := by
  obtain ⟨⟨hrc, hrs, hfr, hlo, hws, hcw⟩, hcode, hini, hy, hlen, hl, hstt⟩ := cw
  have hK : Back l R p e below s args y 3 8 (PreOf R mc ms Pc) (PostOf Qc mc ms free) := va_backW (hh := hh) (bytes := bytes) (maxL := maxL) (ret := ret) hM hp.1 hrc hrs hfr hlo hws hcw (fun a' U hW => word_at hW (Or.inl (by first | rfl | simp [Cond.onTables, Cond.keeps, Cond.steady])) hini)
  obtain ⟨hx, hb, hml, ho, -⟩ := S
  intro T hT X
  obtain ⟨v, vm₁, ⟨U', l2, c2, s2⟩, hW₁, X', ⟨g', mk, t, L, e1, e2, hq, h1, hL, h2, h3⟩, st⟩ := vx_callSW X hx (hh := hh) (bytes := bytes) (maxL := maxL) (ret := ret) ho hl hstt hini hcode hy hK hg (hsize.trans hml.symm) (argsL := As) (rest := rest) (fun sig h => hn.trans (hlen sig h)) hstack hW (by rw [hb]; exact hdg)
    (fun vm₁ hW₁ => ⟨hf.1, hf.2, hp.2 (T.setVm vm₁) hT hW₁⟩)
  dsimp only [Pt.U, Pt.locs, Pt.cells, Pt.slots] at X' e1 e2 h1 h2 h3 st
  subst h1; subst h2; subst h3
  exact ⟨v, (T.setVm vm₁).calling g' mk As.toArray, t, U', L, hT, X', hL, e1, e2, hq, st⟩
/-- not caught here, past rows that name other classes: it goes on to the caller -/
theorem vx_outP {p : Program} {l : Launch} {e : Env} {R : Room} {s : State} {m : MethodId} {args : Array Value} {below : List Frame} {meth : Method} {c : Code} {H : Heap} {locs : List Loc} {cells slots : Nat} {free : Addr → Prop} {ls : Array Slot} {rest : List Value} {Qc : Array Value → State → Outcome → State → Prop} {XC : String → State → State → Prop}
    {pc : Nat} {own E : String} {ce : Cell} {q : Addr} {mc ms : Nat} (hown : s.vm.findClass own = some m.cls) (hlocks : meth.locks = false)
    (hpass : ∀ z ∈ c.exceptionTable.toList, covers z pc = false ∨ (z.catchType ≠ 0 ∧ ∃ nm : String, (Cond.classLink own z.catchType nm).before args s = true ∧ va_Nc E nm s)) (hcell : H[q]? = some ce) (hv : ce.vm = .none) (hcl : s.vm.findClass E = some ce.cls)
    (hx : ∀ t : State, t.heap = H → s.vm.Alike t.vm → XC E s t) (hf : ∀ z ∈ locs, free z.base) (hc : cells ≤ mc) (hs : slots ≤ ms) :
    vx_W p l e R s m args below meth c H locs cells slots (vx_MQ below Qc XC args s mc ms free) (F0 m pc ls rest) q := by
  intro T hT X
  have hpl : e.platform.magicAccessors = ({} : Platform).magicAccessors := by rw [X.admits.platform]
  obtain ⟨vm', hW', X', st⟩ := X.outThrough hlocks q (g := F0 m pc ls rest) rfl rfl rfl (cell := ce) (by rw [hT]; exact hcell) (by rw [hv]; rfl)
    (by obtain ⟨k9, h9, -⟩ := Vm.findClass_spec hcl; exact ⟨k9, h9⟩) (fun z hz => by
      rcases hpass z hz with h | ⟨hz0, nm, hl1, hn1⟩
      · exact Or.inl h
      · obtain ⟨c6, hc6, hcl6⟩ := Cond.classLink_spec hown hl1 e.platform hpl
        obtain ⟨a8, b8, h1, h2, h3⟩ := hn1
        cases Option.some.inj (h1.symm.trans hcl)
        cases Option.some.inj (h2.symm.trans hc6)
        exact Or.inr ⟨hz0, _, hcl6, h3⟩)
  obtain ⟨g₀, hfr⟩ := X'.frames_eq
  have hcell9 : ((T.setVm vm').setFrames (.throwing q :: below)).heap[q]? = some ce := by
    show T.heap[q]? = some ce
    rw [hT]; exact hcell
  have hend : Ended ((T.setVm vm').setFrames (.throwing q :: below)) below (.threw q) := State.frames_setFrames _ (State.cur_lt_of_frames hfr)
  refine ⟨(T.setVm vm').setFrames (.throwing q :: below), ?_, .threw q, X'.here.running, hend, Or.inr ⟨q, rfl, E, ce, locs, hx _ hT (X'.ends _).1.alike, hcell9, hv, hcl, (X'.ends _).1, (X'.ends _).2.mono hc hs, hf⟩⟩
  rw [X.pushThrowing_eq]
  exact st
/-- a thing of a world lies in the heap -/
theorem vx_lt {D : va_G} {cl : List vw_C} {ws : va_W} {H1 : Heap} (h : va_P D cl ws H1) {k : Nat} {q : Nat × va_E} (hk : ws[k]? = some q) : q.1 < H1.size := (h k q hk).lt
end VXS
/-! ===== END ===== -/
/-! ===== BEGIN methods with a table of their own: called by a name, returning or throwing ===== -/
section VXH
/-! vx_backW, vx_callVX, vx_callSX, vx_callVW, vx_runVW, vx_runVX, vx_runSX, vx_ofWH follow the same proofs as their sisters above (Free/Laws.lean, Shelf42/LK1.lean); vx_outP calls Shelf42/NT130.lean (outThrough). -/
section
variable {l : Launch} {R : Room} {p : Program} {e : Env} {below : List Frame} {s : State} {sargs : Array Value} {y : MethodName} {len W9 : Nat}
theorem vx_backW {ws : List Cond} {rm : Room} {Pc : Array Value → State → Prop} {Qc : Array Value → State → Outcome → State → Prop} {XC : String → State → State → Prop} {mc ms : Nat} {free : Addr → Prop} {bytes : ByteArray} {maxL : Nat} {ret : Option FieldType} {hh : List (Nat × Nat × Nat × Nat)}
    (hM : vx_Met l y ws rm Pc Qc XC mc ms free) (hblind : FrameBlind Pc) (hrc : rm.cells = mc) (hrs : rm.slots = ms)
    (hframes : rm.frames + 1 ≤ R.frames) (hlocals : W9 + (maxL + 11) + rm.locals ≤ R.locals)
    (hws : ∀ w ∈ ws, ∀ a' U, s.WarmedH U.vm → w.before a' U = true) (hcode : Cond.codeWith y bytes maxL ret hh ∈ ws) (hinit : ∀ a' U, s.WarmedH U.vm → (Cond.initialized y.cls).before a' U = true) :
    vx_Back l R p e below s sargs y len W9 (PreOf R mc ms Pc) (PostOf Qc mc ms free) (vx_Post XC mc ms free) := by
  intro m meth c A g ig mk a X hg hsize hdg hW hn hp
  have h1 : (headSpec ws rm).pre.before a A.U = true := atoms_intro fun w hw => hws w hw _ _ X.warmed
  have h2 : (Cond.codeWith y bytes maxL ret hh).before a A.U = true := hws _ hcode _ _ X.warmed
  have h3 : (Cond.initialized y.cls).before a A.U = true := hinit _ _ X.warmed
  have h4 : A.cells + (headSpec ws rm).room.cells ≤ R.cells := by rw [show (headSpec ws rm).room.cells = mc from hrc]; exact hp.1
  have h5 : A.slots + (headSpec ws rm).room.slots ≤ R.slots := by rw [show (headSpec ws rm).room.slots = ms from hrs]; exact hp.2.1
  have hPc : Pc a (A.U.calling g mk a) := hblind _ _ _ _ hp.2.2
  obtain ⟨U, Ls, c0, s0⟩ := A
  dsimp only [Pt.U, Pt.locs, Pt.cells, Pt.slots] at h1 h2 h3 h4 h5 X hn hPc ⊢
  obtain ⟨m9, methY, cY, hn9, hmY, hcY, -, hlY, -⟩ := Cond.codeWith_spec h2
  cases Option.some.inj (hn9.symm.trans hn)
  obtain ⟨kY, hkY, -⟩ := className_of_methodNamed hn
  have hinitY : kY.init = .initialized := Cond.initialized_spec (findClass_of_methodNamed hn) hkY h3
  have h : At U g.method c below := by rw [hg]; exact X.here
  have hlocals9 : W9 + (maxL + 11) + (headSpec ws rm).room.locals ≤ R.locals := hlocals
  have happ : (headSpec ws rm).appliesLoose y e.platform (U.calling g mk a) = true :=
    Spec.appliesLoose_calling (g := g) h hdg hn hkY hinitY
      (X.room_calling (g := g) (R' := (headSpec ws rm).room) hsize hmY hcY hframes (by rw [hlY]; omega) h4 h5) h1
  obtain ⟨mid, hmid⟩ := h.above
  have hfr : (U.setTop g).frames = (.java g :: mid) ++ below := by rw [State.frames_setTop' g h.top, hmid]; rfl
  obtain ⟨o, s₂, hsteps, -, hend, hq⟩ := Steps.callFree hM p X.admits X.cas X.clock (acts := []) hfr happ hPc trivial
  have hq' : vx_Q Qc XC mc ms free a (U.calling g mk a) o s₂ := hq
  rw [State.frames_setTop' g h.top] at hend
  obtain ⟨g₀, hg0⟩ := Option.isSome_iff_exists.mp h.top
  obtain ⟨r, hr⟩ := State.topJava?_eq_some.mp hg0
  have hr' : (({ U with heap := s₂.heap, slotsUsed := s₂.slotsUsed } : State).setVm s₂.vm).frames = .java g₀ :: r := hr
  rcases hq' with ⟨hqc, L, hfe, hL⟩ | ⟨q, rfl, E, ce, L, hx, hce, hcv, hcl, hW₂, hsm, hL⟩
  · obtain ⟨⟨v, rfl⟩, hW₂, e2, q2, q3, q4, q5, q6⟩ := id hfe
    have e3 : s₂ = ({ (U.calling g mk a).setFrames s₂.frames with heap := s₂.heap, slotsUsed := s₂.slotsUsed } : State).setVm s₂.vm := by
      have : s₂ = ({ s₂ with vm := (U.calling g mk a).vm } : State).setVm s₂.vm := rfl
      rw [e2] at this
      exact this
    obtain ⟨c₂, i₂, len₂, hc₂, hd₂, hf₂⟩ := hend
    have hW' : U.WarmedH s₂.vm := hW₂
    have hcc : c₂ = c := by
      have h1 : s₂.code? g.method = U.code? g.method := by
        rw [State.code?_eq, State.code?_eq, hW'.alike.method?]
      exact Option.some.inj (hc₂.symm.trans (h1.trans h.code))
    subst hcc
    have hlen : len₂ = len := by rw [hdg] at hd₂; cases hd₂; rfl
    subst hlen
    have hs₂ : s₂ = (({ U with heap := s₂.heap, slotsUsed := s₂.slotsUsed } : State).setVm s₂.vm).setTop { g with pc := g.pc + len₂, stack := v.toList ++ g.stack } := by
      refine e3.trans ?_
      rw [hf₂, State.calling_eq h.top, State.setFrames_setFrames, State.setTop_of_frames _ hr', hr]
      rfl
    have hsame : U.sameButNew ({ U with heap := s₂.heap, slotsUsed := s₂.slotsUsed } : State) L mc ms := by
      refine ⟨?_, q2, q3, q4, q5, q6⟩
      obtain ⟨t, ht, -⟩ := State.frames_cons hr
      show ({ U with heap := s₂.heap, slotsUsed := s₂.slotsUsed } : State) = { U.setFrames U.frames with heap := s₂.heap, slotsUsed := s₂.slotsUsed }
      rw [State.setFrames_self ht]
    subst hg
    refine Or.inl ⟨v, ⟨(({ U with heap := s₂.heap, slotsUsed := s₂.slotsUsed } : State).setVm s₂.vm), Ls ++ L, c0 + mc, s0 + ms⟩,
      ⟨X.admits, X.cas, X.clock, X.frames, X.room, X.hears, X.method, X.code, (X.here.setHeapUsed s₂.heap s₂.slotsUsed).setVm hW'.alike, X.tail, State.WarmedH.trans X.warmed hW', X.limits, X.bytes, X.same.trans (hsame.setVm s.vm)⟩,
      ⟨g, mk, s₂, L, rfl, rfl, hqc, rfl, hL, rfl, rfl⟩, ?_⟩
    show Steps p.tables e below _ ((({ U with heap := s₂.heap, slotsUsed := s₂.slotsUsed } : State).setVm s₂.vm).setTop { g with pc := g.pc + len₂, stack := v.toList ++ g.stack })
    rw [← hs₂]
    exact hsteps
  · obtain ⟨e2, q2, q3, q4, q5, q6⟩ := id hsm
    have e3 : s₂ = ({ (U.calling g mk a).setFrames s₂.frames with heap := s₂.heap, slotsUsed := s₂.slotsUsed } : State).setVm s₂.vm := by
      have : s₂ = ({ s₂ with vm := (U.calling g mk a).vm } : State).setVm s₂.vm := rfl
      rw [e2] at this
      exact this
    have hf₂ : s₂.frames = .throwing q :: .java g :: U.frames.tail := hend
    have hW' : U.WarmedH s₂.vm := hW₂
    have hs₂ : s₂ = ((({ U with heap := s₂.heap, slotsUsed := s₂.slotsUsed } : State).setVm s₂.vm).setTop g).pushFrame (.throwing q) := by
      refine e3.trans ?_
      rw [hf₂, State.calling_eq h.top, State.setFrames_setFrames, State.pushFrame, State.frames_setTop _ hr', State.setTop_of_frames _ hr', State.setFrames_setFrames, hr]
      rfl
    have hsame : U.sameButNew ({ U with heap := s₂.heap, slotsUsed := s₂.slotsUsed } : State) L mc ms := by
      refine ⟨?_, q2, q3, q4, q5, q6⟩
      obtain ⟨t, ht, -⟩ := State.frames_cons hr
      show ({ U with heap := s₂.heap, slotsUsed := s₂.slotsUsed } : State) = { U.setFrames U.frames with heap := s₂.heap, slotsUsed := s₂.slotsUsed }
      rw [State.setFrames_self ht]
    subst hg
    refine Or.inr ⟨q, ⟨(({ U with heap := s₂.heap, slotsUsed := s₂.slotsUsed } : State).setVm s₂.vm), Ls ++ L, c0 + mc, s0 + ms⟩,
      ⟨X.admits, X.cas, X.clock, X.frames, X.room, X.hears, X.method, X.code, (X.here.setHeapUsed s₂.heap s₂.slotsUsed).setVm hW'.alike, X.tail, State.WarmedH.trans X.warmed hW', X.limits, X.bytes, X.same.trans (hsame.setVm s.vm)⟩,
      ⟨g, mk, s₂, L, E, ce, rfl, rfl, hx, hce, hcv, hcl, rfl, hL, rfl, rfl⟩, ?_⟩
    show Steps p.tables e below _ (((({ U with heap := s₂.heap, slotsUsed := s₂.slotsUsed } : State).setVm s₂.vm).setTop g).pushFrame (.throwing q))
    rw [← hs₂]
    exact hsteps
end
variable {p : Program} {l : Launch} {e : Env} {R : Room} {s : State} {m : MethodId} {args : Array Value} {below : List Frame} {meth : Method} {c : Code} {T : State} {H : Heap} {locs : List Loc} {cells slots : Nat}
theorem vx_callVX (X : Stand p l e R s m args below meth c T locs cells slots) (hexec : p.tables.exec = Jvm.exec) {own C : String} {index : Nat} {y : MethodName} {bytes : ByteArray} {maxL : Nat} {ret : Option FieldType} {hh : List (Nat × Nat × Nat × Nat)}
    (hown : s.vm.findClass own = some m.cls) (hlink : (Cond.methodLink own index y).before args s = true) (hinst : (Cond.instanceMethod y).before args s = true) (hsel : (Cond.selects C y y).before args s = true)
    (hcode : (Cond.codeWith y bytes maxL ret hh).before args s = true) (hy : y.cls ≠ "java/lang/invoke/MethodHandle" ∧ y.cls ≠ "java/lang/invoke/VarHandle")
    {W9 : Nat} {Pre : Pt → Array Value → Prop} {Post : Pt → Array Value → Option Value → Pt → Prop} {PostX : Pt → Array Value → Addr → Pt → Prop} (hK : vx_Back l R p e below s args y 3 W9 Pre Post PostX)
    {b : Addr} {cellB : Cell} (hcell : T.heap[b]? = some cellB) (hobj : cellB.vm.isStatics = false) (hcls : s.vm.findClass C = some cellB.cls)
    {g : JFrame} (hg : g.method = m) (hsize : g.locals.size = c.maxLocals) {argsL rest : List Value} (hlen : ∀ sig, parseMethodDescriptor y.desc = some sig → argsL.length = sig.parameters.length)
    (hstack : g.stack = argsL.reverse ++ .ref b :: rest) (hW : 2 * g.monitorRoom + (rest.map fun v => v.category).sum ≤ W9) (hdg : decode c.code g.pc = .ok (.invokevirtual index, 3))
    (hpre : ∀ vm₁, s.WarmedH vm₁ → Pre ⟨T.setVm vm₁, locs, cells, slots⟩ (Value.ref b :: argsL).toArray) :
    (∃ (v : Option Value) (vm₁ : Vm) (B : Pt), s.WarmedH vm₁ ∧ Stand p l e R s m args below meth c B.U B.locs B.cells B.slots ∧ Post ⟨T.setVm vm₁, locs, cells, slots⟩ (Value.ref b :: argsL).toArray v B ∧
      ∀ target, Steps p.tables e below (B.U.setTop { g with pc := g.pc + 3, stack := v.toList ++ rest }) target → Steps p.tables e below (T.setTop g) target) ∨
    (∃ (q : Addr) (vm₁ : Vm) (B : Pt), s.WarmedH vm₁ ∧ Stand p l e R s m args below meth c B.U B.locs B.cells B.slots ∧ PostX ⟨T.setVm vm₁, locs, cells, slots⟩ (Value.ref b :: argsL).toArray q B ∧
      Steps p.tables e below (T.setTop g) ((B.U.setTop { g with stack := rest }).pushFrame (.throwing q))) := by
  obtain ⟨mk, methM, hnamed, hmethM, hstM, habM⟩ := Cond.instanceMethod_spec hinst
  obtain ⟨m8, methM', cM, hn8, hmethM', -, -, -, -, -, -, hsigM⟩ := Cond.codeWith_spec hcode
  cases Option.some.inj (hn8.symm.trans hnamed)
  cases hmethM.symm.trans hmethM'
  obtain ⟨c2, r2, m2, q1, q2, q3, q4, kP, hkP, hkPi⟩ := Cond.selects_spec hsel
  cases hcls.symm.trans q1
  cases (State.methodFound?_of_named hnamed hy).symm.trans q2
  cases hnamed.symm.trans q3
  have hselP : selectMethod e.platform s.vm cellB.cls mk = .method mk := by rw [Launch.admits_selectMethod X.admits]; exact q4
  obtain ⟨vm₁, X₁, hstep₁⟩ := X.invokevirtual hexec hown hlink hnamed hmethM hstM hkP hkPi hy (a := b) (cell := cellB) hcell
    (fun z h => by rw [h] at hobj; cases hobj) hselP hmethM habM hkP hkPi (g := g) hg (argsL := argsL) (rest := rest) (hlen _ hsigM) hstack hdg
  rcases hK m meth c ⟨T.setVm vm₁, locs, cells, slots⟩ { g with stack := rest } (.invokevirtual index) mk (Value.ref b :: argsL).toArray X₁ hg hsize hdg hW (X₁.named hnamed) (hpre vm₁ X₁.warmed) with ⟨v, B, X', hpost, hsteps⟩ | ⟨q, B, X', hpost, hsteps⟩
  · exact Or.inl ⟨v, vm₁, B, X₁.warmed, X', hpost, fun target h => hstep₁ _ fun acts => by rw [doInvoke_state]; exact hsteps.trans h⟩
  · exact Or.inr ⟨q, vm₁, B, X₁.warmed, X', hpost, hstep₁ _ fun acts => by rw [doInvoke_state]; exact hsteps⟩
theorem vx_callSX (X : Stand p l e R s m args below meth c T locs cells slots) (hexec : p.tables.exec = Jvm.exec) {own : String} {index : Nat} {y : MethodName} {bytes : ByteArray} {maxL : Nat} {ret : Option FieldType} {hh : List (Nat × Nat × Nat × Nat)}
    (hown : s.vm.findClass own = some m.cls) (hlink : (Cond.methodLink own index y).before args s = true) (hstat : (Cond.static y).before args s = true) (hinit : (Cond.initialized y.cls).before args s = true)
    (hcode : (Cond.codeWith y bytes maxL ret hh).before args s = true) (hy : y.cls ≠ "java/lang/invoke/MethodHandle" ∧ y.cls ≠ "java/lang/invoke/VarHandle")
    {W9 : Nat} {Pre : Pt → Array Value → Prop} {Post : Pt → Array Value → Option Value → Pt → Prop} {PostX : Pt → Array Value → Addr → Pt → Prop} (hK : vx_Back l R p e below s args y 3 W9 Pre Post PostX)
    {g : JFrame} (hg : g.method = m) (hsize : g.locals.size = c.maxLocals) {argsL rest : List Value} (hlen : ∀ sig, parseMethodDescriptor y.desc = some sig → argsL.length = sig.parameters.length)
    (hstack : g.stack = argsL.reverse ++ rest) (hW : 2 * g.monitorRoom + (rest.map fun v => v.category).sum ≤ W9) (hdg : decode c.code g.pc = .ok (.invokestatic index, 3))
    (hpre : ∀ vm₁, s.WarmedH vm₁ → Pre ⟨T.setVm vm₁, locs, cells, slots⟩ argsL.toArray) :
    (∃ (v : Option Value) (vm₁ : Vm) (B : Pt), s.WarmedH vm₁ ∧ Stand p l e R s m args below meth c B.U B.locs B.cells B.slots ∧ Post ⟨T.setVm vm₁, locs, cells, slots⟩ argsL.toArray v B ∧
      ∀ target, Steps p.tables e below (B.U.setTop { g with pc := g.pc + 3, stack := v.toList ++ rest }) target → Steps p.tables e below (T.setTop g) target) ∨
    (∃ (q : Addr) (vm₁ : Vm) (B : Pt), s.WarmedH vm₁ ∧ Stand p l e R s m args below meth c B.U B.locs B.cells B.slots ∧ PostX ⟨T.setVm vm₁, locs, cells, slots⟩ argsL.toArray q B ∧
      Steps p.tables e below (T.setTop g) ((B.U.setTop { g with stack := rest }).pushFrame (.throwing q))) := by
  obtain ⟨mk, methM, cM, hnamed, hmethM, -, -, -, -, -, -, hsigM⟩ := Cond.codeWith_spec hcode
  have hstatic : methM.isStatic = true := Cond.static_spec hnamed hmethM hstat
  obtain ⟨kP, hkP, -⟩ := className_of_methodNamed hnamed
  have hinitP : kP.init = .initialized := Cond.initialized_spec (findClass_of_methodNamed hnamed) hkP hinit
  obtain ⟨vm₁, X₁, hstep₁⟩ := X.invokestatic hexec hown hlink hnamed hmethM hstatic hkP hinitP hy (g := g) hg (argsL := argsL) (rest := rest) (hlen _ hsigM) hstack hdg
  rcases hK m meth c ⟨T.setVm vm₁, locs, cells, slots⟩ { g with stack := rest } (.invokestatic index) mk argsL.toArray X₁ hg hsize hdg hW (X₁.named hnamed) (hpre vm₁ X₁.warmed) with ⟨v, B, X', hpost, hsteps⟩ | ⟨q, B, X', hpost, hsteps⟩
  · exact Or.inl ⟨v, vm₁, B, X₁.warmed, X', hpost, fun target h => hstep₁ _ fun acts => by rw [doInvoke_state]; exact hsteps.trans h⟩
  · exact Or.inr ⟨q, vm₁, B, X₁.warmed, X', hpost, hstep₁ _ fun acts => by rw [doInvoke_state]; exact hsteps⟩
theorem vx_callVW (X : Stand p l e R s m args below meth c T locs cells slots) (hexec : p.tables.exec = Jvm.exec) {own C : String} {index : Nat} {y : MethodName} {bytes : ByteArray} {maxL : Nat} {ret : Option FieldType} {hh : List (Nat × Nat × Nat × Nat)}
    (hown : s.vm.findClass own = some m.cls) (hlink : (Cond.methodLink own index y).before args s = true) (hinst : (Cond.instanceMethod y).before args s = true) (hsel : (Cond.selects C y y).before args s = true)
    (hcode : (Cond.codeWith y bytes maxL ret hh).before args s = true) (hy : y.cls ≠ "java/lang/invoke/MethodHandle" ∧ y.cls ≠ "java/lang/invoke/VarHandle")
    {W9 : Nat} {Pre : Pt → Array Value → Prop} {Post : Pt → Array Value → Option Value → Pt → Prop} (hK : Back l R p e below s args y 3 W9 Pre Post)
    {b : Addr} {cellB : Cell} (hcell : T.heap[b]? = some cellB) (hobj : cellB.vm.isStatics = false) (hcls : s.vm.findClass C = some cellB.cls)
    {g : JFrame} (hg : g.method = m) (hsize : g.locals.size = c.maxLocals) {argsL rest : List Value} (hlen : ∀ sig, parseMethodDescriptor y.desc = some sig → argsL.length = sig.parameters.length)
    (hstack : g.stack = argsL.reverse ++ .ref b :: rest) (hW : 2 * g.monitorRoom + (rest.map fun v => v.category).sum ≤ W9) (hdg : decode c.code g.pc = .ok (.invokevirtual index, 3))
    (hpre : ∀ vm₁, s.WarmedH vm₁ → Pre ⟨T.setVm vm₁, locs, cells, slots⟩ (Value.ref b :: argsL).toArray) :
    ∃ (v : Option Value) (vm₁ : Vm) (B : Pt), s.WarmedH vm₁ ∧ Stand p l e R s m args below meth c B.U B.locs B.cells B.slots ∧ Post ⟨T.setVm vm₁, locs, cells, slots⟩ (Value.ref b :: argsL).toArray v B ∧
      ∀ target, Steps p.tables e below (B.U.setTop { g with pc := g.pc + 3, stack := v.toList ++ rest }) target → Steps p.tables e below (T.setTop g) target := by
  obtain ⟨mk, methM, hnamed, hmethM, hstM, habM⟩ := Cond.instanceMethod_spec hinst
  obtain ⟨m8, methM', cM, hn8, hmethM', -, -, -, -, -, -, hsigM⟩ := Cond.codeWith_spec hcode
  cases Option.some.inj (hn8.symm.trans hnamed)
  cases hmethM.symm.trans hmethM'
  obtain ⟨c2, r2, m2, q1, q2, q3, q4, kP, hkP, hkPi⟩ := Cond.selects_spec hsel
  cases hcls.symm.trans q1
  cases (State.methodFound?_of_named hnamed hy).symm.trans q2
  cases hnamed.symm.trans q3
  have hselP : selectMethod e.platform s.vm cellB.cls mk = .method mk := by rw [Launch.admits_selectMethod X.admits]; exact q4
  obtain ⟨vm₁, X₁, hstep₁⟩ := X.invokevirtual hexec hown hlink hnamed hmethM hstM hkP hkPi hy (a := b) (cell := cellB) hcell
    (fun z h => by rw [h] at hobj; cases hobj) hselP hmethM habM hkP hkPi (g := g) hg (argsL := argsL) (rest := rest) (hlen _ hsigM) hstack hdg
  obtain ⟨v, B, X', hpost, hsteps⟩ := hK m meth c ⟨T.setVm vm₁, locs, cells, slots⟩ { g with stack := rest } (.invokevirtual index) mk (Value.ref b :: argsL).toArray X₁ hg hsize hdg hW (X₁.named hnamed) (hpre vm₁ X₁.warmed)
  exact ⟨v, vm₁, B, X₁.warmed, X', hpost, fun target h => hstep₁ _ fun acts => by rw [doInvoke_state]; exact hsteps.trans h⟩
abbrev vx_CVW (R : Room) (s : State) (args : Array Value) (own C : String) (index : Nat) (y : MethodName) (bytes : ByteArray) (maxL : Nat) (ret : Option FieldType) (hh : List (Nat × Nat × Nat × Nat)) (ws : List Cond) (rm : Room) (mc ms n : Nat) : Prop :=
  (rm.cells = mc ∧ rm.slots = ms ∧ rm.frames + 1 ≤ R.frames ∧ 8 + (maxL + 11) + rm.locals ≤ R.locals ∧ (∀ w ∈ ws, ∀ (a' : Array Value) (U : State), s.WarmedH U.vm → w.before a' U = true) ∧ Cond.codeWith y bytes maxL ret hh ∈ ws) ∧
  (Cond.codeWith y bytes maxL ret hh).before args s = true ∧ (Cond.initialized y.cls).before args s = true ∧ (y.cls ≠ "java/lang/invoke/MethodHandle" ∧ y.cls ≠ "java/lang/invoke/VarHandle") ∧
  (∀ sig, parseMethodDescriptor y.desc = some sig → n = sig.parameters.length) ∧ (Cond.methodLink own index y).before args s = true ∧ (Cond.instanceMethod y).before args s = true ∧ (Cond.selects C y y).before args s = true
theorem vx_cwVW {own C : String} {index maxL mc ms : Nat} {y : MethodName} {bytes : ByteArray} {ret : Option FieldType} {hh : List (Nat × Nat × Nat × Nat)} {Ts ws ws' : List Cond} {rm : Room} (n : Nat) (ht : ∀ w ∈ Ts, w.before args s = true) (hT : GoodIn Ts (wsV own index C y ws)) (hw : ws = Cond.codeWith y bytes maxL ret hh :: ws') (hrc : rm.cells = mc) (hrs : rm.slots = ms)
    (hd : y.cls = C ∧ y.cls ≠ "java/lang/invoke/MethodHandle" ∧ y.cls ≠ "java/lang/invoke/VarHandle" ∧ (parseMethodDescriptor y.desc).map (fun d => d.parameters.length) = some n) (hR : rm.frames + 1 ≤ R.frames ∧ 8 + (maxL + 11) + rm.locals ≤ R.locals) :
    vx_CVW R s args own C index y bytes maxL ret hh ws rm mc ms n := by
  obtain ⟨hC, hd⟩ := hd
  subst hC
  have ok : ∀ w ∈ wsV own index y.cls y ws, w.before args s = true := fun w h => ht w (hT w h).1
  have hG : GoodIn Ts ws := fun w h => hT w (by unfold wsV; exact List.mem_append_right _ h)
  have hc : Cond.codeWith y bytes maxL ret hh ∈ ws := by rw [hw]; exact List.mem_cons_self
  refine ⟨⟨hrc, hrs, hR.1, hR.2, pay_in ht hG, hc⟩, ht _ (hG _ hc).1, ok _ (by simp [wsV]), ⟨hd.1, hd.2.1⟩, fun sig h => ?_, ok _ (by simp [wsV]), ok _ (by simp [wsV]), ok _ (by simp [wsV])⟩
  have h2 := hd.2.2
  rw [h] at h2
  exact (Option.some.inj h2).symm
theorem vx_runVW {y : MethodName} {bytes cc : ByteArray} {maxL nL mc ms n index : Nat} {ret : Option FieldType} {hh : List (Nat × Nat × Nat × Nat)} {ws : List Cond} {rm : Room} {Pc : Array Value → State → Prop} {Qc : Array Value → State → Outcome → State → Prop} {free : Addr → Prop} {Ts : List Cond} {own C : String} {b : Addr} {As rest : List Value} {g : JFrame}
    (S : CallFix p m c cc nL s args Ts own) (hM : Met l y ws rm Pc Qc mc ms free) (cw : vx_CVW R s args own C index y bytes maxL ret hh ws rm mc ms n) (hp : PreV s H C b Pc As)
    (hg : g.method = m) (hn : As.length = n) (hsize : g.locals.size = nL) (hstack : g.stack = As.reverse ++ .ref b :: rest) (hW : 2 * g.monitorRoom + (rest.map fun v => v.category).sum ≤ 8) (hdg : decode cc g.pc = .ok (.invokevirtual index, 3)) (hf : cells + mc ≤ R.cells ∧ slots + ms ≤ R.slots) :
    va_Run p l e R s m args below meth c H locs cells slots mc ms g rest (Qc (Value.ref b :: As).toArray) free := by
  obtain ⟨⟨hrc, hrs, hfr, hlo, hws, hcw⟩, hcode, hini, hy, hlen, hl, hin, hse⟩ := cw
  have hK : Back l R p e below s args y 3 8 (PreOf R mc ms Pc) (PostOf Qc mc ms free) := va_backW (hh := hh) (bytes := bytes) (maxL := maxL) (ret := ret) hM hp.1 hrc hrs hfr hlo hws hcw (fun a' U hW => word_at hW (Or.inl (by first | rfl | simp [Cond.onTables, Cond.keeps, Cond.steady])) hini)
  obtain ⟨hx, hb, hml, ho, -⟩ := S
  obtain ⟨-, ⟨cellB, hcB, hoB, hclB⟩, hPc⟩ := hp
  intro T hT X
  obtain ⟨v, vm₁, ⟨U', l2, c2, s2⟩, hW₁, X', ⟨g', mk, t, L, e1, e2, hq, h1, hL, h2, h3⟩, st⟩ := vx_callVW X hx (C := C) (hh := hh) (bytes := bytes) (maxL := maxL) (ret := ret) ho hl hin hse hcode hy hK (by rw [hT]; exact hcB) hoB hclB hg (hsize.trans hml.symm) (argsL := As) (rest := rest) (fun sig h => hn.trans (hlen sig h)) hstack hW (by rw [hb]; exact hdg)
    (fun vm₁ hW₁ => ⟨hf.1, hf.2, hPc (T.setVm vm₁) hT hW₁⟩)
  dsimp only [Pt.U, Pt.locs, Pt.cells, Pt.slots] at X' e1 e2 h1 h2 h3 st
  subst h1; subst h2; subst h3
  exact ⟨v, (T.setVm vm₁).calling g' mk (Value.ref b :: As).toArray, t, U', L, hT, X', hL, e1, e2, hq, st⟩
section
variable {y : MethodName} {bytes cc : ByteArray} {maxL nL mc ms n index : Nat} {ret : Option FieldType} {ws : List Cond} {rm : Room} {Pc : Array Value → State → Prop} {Qc : Array Value → State → Outcome → State → Prop} {XC : String → State → State → Prop} {free : Addr → Prop} {Ts : List Cond} {own C : String} {b : Addr} {As rest : List Value} {g : JFrame}
theorem vx_runVX {hh : List (Nat × Nat × Nat × Nat)} (S : CallFix p m c cc nL s args Ts own) (hM : vx_Met l y ws rm Pc Qc XC mc ms free) (cw : vx_CVW R s args own C index y bytes maxL ret hh ws rm mc ms n) (hp : PreV s H C b Pc As)
    (hg : g.method = m) (hn : As.length = n) (hsize : g.locals.size = nL) (hstack : g.stack = As.reverse ++ .ref b :: rest) (hW : 2 * g.monitorRoom + (rest.map fun v => v.category).sum ≤ 8) (hdg : decode cc g.pc = .ok (.invokevirtual index, 3)) (hf : cells + mc ≤ R.cells ∧ slots + ms ≤ R.slots) :
    vx_Run p l e R s m args below meth c H locs cells slots mc ms g rest (Qc (Value.ref b :: As).toArray) XC free := by
  obtain ⟨⟨hrc, hrs, hfr, hlo, hws, hcw⟩, hcode, hini, hy, hlen, hl, hin, hse⟩ := cw
  have hK : vx_Back l R p e below s args y 3 8 (PreOf R mc ms Pc) (PostOf Qc mc ms free) (vx_Post XC mc ms free) := vx_backW (hh := hh) (bytes := bytes) (maxL := maxL) (ret := ret) hM hp.1 hrc hrs hfr hlo hws hcw (fun a' U hW => word_at hW (Or.inl (by first | rfl | simp [Cond.onTables, Cond.keeps, Cond.steady])) hini)
  obtain ⟨hx, hb, hml, ho, -⟩ := S
  obtain ⟨-, ⟨cellB, hcB, hoB, hclB⟩, hPc⟩ := hp
  intro T hT X
  rcases vx_callVX X hx (C := C) (hh := hh) (bytes := bytes) (maxL := maxL) (ret := ret) ho hl hin hse hcode hy hK (by rw [hT]; exact hcB) hoB hclB hg (hsize.trans hml.symm) (argsL := As) (rest := rest) (fun sig h => hn.trans (hlen sig h)) hstack hW (by rw [hb]; exact hdg)
    (fun vm₁ hW₁ => ⟨hf.1, hf.2, hPc (T.setVm vm₁) hT hW₁⟩) with ⟨v, vm₁, ⟨U', l2, c2, s2⟩, hW₁, X', ⟨g', mk, t, L, e1, e2, hq, h1, hL, h2, h3⟩, st⟩ | ⟨q, vm₁, ⟨U', l2, c2, s2⟩, hW₁, X', ⟨g', mk, t, L, E, ce, e1, e2, hq, hce, hcv, hcl, h1, hL, h2, h3⟩, st⟩
  · dsimp only [Pt.U, Pt.locs, Pt.cells, Pt.slots] at X' e1 e2 h1 h2 h3 st
    subst h1; subst h2; subst h3
    exact Or.inl ⟨v, (T.setVm vm₁).calling g' mk (Value.ref b :: As).toArray, t, U', L, hT, X', hL, e1, e2, hq, st⟩
  · dsimp only [Pt.U, Pt.locs, Pt.cells, Pt.slots] at X' e1 e2 h1 h2 h3 st hcl
    subst h1; subst h2; subst h3
    exact Or.inr ⟨q, (T.setVm vm₁).calling g' mk (Value.ref b :: As).toArray, t, U', L, E, ce, hT, X', hL, e1, e2, hq, hce, hcv, vx_cls hW₁ hcl, st⟩
theorem vx_runSX {hh : List (Nat × Nat × Nat × Nat)} (S : CallFix p m c cc nL s args Ts own) (hM : vx_Met l y ws rm Pc Qc XC mc ms free) (cw : vx_CSW R s args own index y bytes maxL ret hh ws rm mc ms n) (hp : PreS s H Pc As)
    (hg : g.method = m) (hn : As.length = n) (hsize : g.locals.size = nL) (hstack : g.stack = As.reverse ++ rest) (hW : 2 * g.monitorRoom + (rest.map fun v => v.category).sum ≤ 8) (hdg : decode cc g.pc = .ok (.invokestatic index, 3)) (hf : cells + mc ≤ R.cells ∧ slots + ms ≤ R.slots) :
    vx_Run p l e R s m args below meth c H locs cells slots mc ms g rest (Qc As.toArray) XC free := by
  obtain ⟨⟨hrc, hrs, hfr, hlo, hws, hcw⟩, hcode, hini, hy, hlen, hl, hstt⟩ := cw
  have hK : vx_Back l R p e below s args y 3 8 (PreOf R mc ms Pc) (PostOf Qc mc ms free) (vx_Post XC mc ms free) := vx_backW (hh := hh) (bytes := bytes) (maxL := maxL) (ret := ret) hM hp.1 hrc hrs hfr hlo hws hcw (fun a' U hW => word_at hW (Or.inl (by first | rfl | simp [Cond.onTables, Cond.keeps, Cond.steady])) hini)
  obtain ⟨hx, hb, hml, ho, -⟩ := S
  intro T hT X
  rcases vx_callSX X hx (hh := hh) (bytes := bytes) (maxL := maxL) (ret := ret) ho hl hstt hini hcode hy hK hg (hsize.trans hml.symm) (argsL := As) (rest := rest) (fun sig h => hn.trans (hlen sig h)) hstack hW (by rw [hb]; exact hdg)
    (fun vm₁ hW₁ => ⟨hf.1, hf.2, hp.2 (T.setVm vm₁) hT hW₁⟩) with ⟨v, vm₁, ⟨U', l2, c2, s2⟩, hW₁, X', ⟨g', mk, t, L, e1, e2, hq, h1, hL, h2, h3⟩, st⟩ | ⟨q, vm₁, ⟨U', l2, c2, s2⟩, hW₁, X', ⟨g', mk, t, L, E, ce, e1, e2, hq, hce, hcv, hcl, h1, hL, h2, h3⟩, st⟩
  · dsimp only [Pt.U, Pt.locs, Pt.cells, Pt.slots] at X' e1 e2 h1 h2 h3 st
    subst h1; subst h2; subst h3
    exact Or.inl ⟨v, (T.setVm vm₁).calling g' mk As.toArray, t, U', L, hT, X', hL, e1, e2, hq, st⟩
  · dsimp only [Pt.U, Pt.locs, Pt.cells, Pt.slots] at X' e1 e2 h1 h2 h3 st hcl
    subst h1; subst h2; subst h3
    exact Or.inr ⟨q, (T.setVm vm₁).calling g' mk As.toArray, t, U', L, E, ce, hT, X', hL, e1, e2, hq, hce, hcv, vx_cls hW₁ hcl, st⟩
end
end VXH
theorem vx_ofWH {l : Launch} {y : MethodName} {ws ws' : List Cond} {rm : Room} {Pc : Array Value → State → Prop} {Qc : Array Value → State → Outcome → State → Prop} {XC : String → State → State → Prop} {mc ms : Nat} {free : Addr → Prop} {cc : ByteArray} {maxL : Nat} {ret : Option FieldType} {hh : List (Nat × Nat × Nat × Nat)}
    (hy : plainName y.cls = true) (hw : ws = Cond.codeWith y cc maxL ret hh :: ws')
    (body : ∀ p e s m args below meth c s₁, BodyLoose p l y (headSpec ws rm) cc maxL ret e s m args below meth c s₁ → c.maxLocals = maxL → Pc args s →
      W p l e (headSpec ws rm).room s m args below meth c s.heap [] 0 0 (vx_MQ below Qc XC args s mc ms free) (entryFrame m args maxL)) : vx_Met l y ws rm Pc Qc XC mc ms free := by
  refine MetFree.of_bodyS (code := cc) (maxLocals := maxL) (ret := ret) hy ?_ ?_
  · intro args s m h hn
    obtain ⟨m9, meth, c, hn9, h1, h2, h3, h4, -, h5, h6, -⟩ := Cond.codeWith_spec (atoms_spec (ws := ws) h _ (by rw [hw]; exact List.mem_cons_self))
    cases hn.symm.trans hn9
    exact ⟨meth, c, h1, h2, h3, h4, h5, h6⟩
  · intro p e s m args below meth c s₁ B hml hP _
    have hh0 : s₁.heap = s.heap := by rw [B.state]; rfl
    obtain ⟨t, a1, o, b1, b2, b3⟩ := body p e s m args below meth c s₁ B hml hP s₁ hh0 (Stand.of_body B)
    exact ⟨t, o, a1, b1, b2, b3⟩
/-! ===== END ===== -/
/-! ===== BEGIN what the machine throws by itself, no traces kept ===== -/
section VXM
set_option maxHeartbeats 1000000 in
/-- the machine throws cls with the message text, no traces kept: from its note over the frame g to 'throwing' over the same frame (follows the proofs of Stand.vmThrowsMessage, Shelf/KitTracedVmS.lean, and Stand.throwsMessageColdBareV, StandMessageColdV.lean, without the step out of the frame) -/
theorem vx_vmAt {p : Program} {l : Launch} {e : Env} {R : Room} {s : State} {m₀ : MethodId} {args : Array Value} {below : List Frame} {meth : Method} {c : Code} {W : State} {locs : List Loc} {cells slots : Nat}
    (X : Stand p l e R s m₀ args below meth c W locs cells slots) (hexec : p.tables.exec = Jvm.exec) (htr : e.platform.stackTraces = false) {cls : String} {names : List String} {text : String}
    (hcls : Bundle.fit cls = true) (hnames : ∀ n ∈ names, Bundle.fit n = true) (hsoe : (cls == "java/lang/StackOverflowError") = false) (hoom : (cls == "java/lang/OutOfMemoryError") = false)
    (h : ∀ a ∈ Bundle.messageArmAtoms cls names, a.before args s = true)
    (hlocs : ∀ x ∈ locs, ∀ cell, s.heap[x.base]? = some cell → cell.vm.isStatics = false)
    (htext : (text == notModelled) = false) (hlimit : ¬ (stringBytes (stringToUtf16 text)).size > e.platform.arrayLengthLimit) (hheap : ¬ (stringBytes (stringToUtf16 text)).size * componentBytes .byte > e.platform.maxHeapBytes)
    {g : JFrame} (hg : g.method = m₀) (hsize : g.locals.size = c.maxLocals)
    (hRframes : names.length + 4 < R.frames) (hRlocals : 2 * g.monitorRoom + (g.stack.map fun v => v.category).sum + 10240 ≤ R.locals) (hshort : 13 * names.length + 55 ≤ 10240)
    (hRcells : cells + 3 ≤ R.cells) (hRslots : slots + ((stringBytes (stringToUtf16 text)).size + 4 + 6) ≤ R.slots) (hlocks : meth.locks = false) :
    ∃ (S : State) (q : Addr) (ce : Cell), (∀ target, Steps p.tables e below ((S.setTop g).pushFrame (.throwing q)) target → Steps p.tables e below ((W.setTop g).pushFrame (.throwNew cls (some text) none)) target) ∧
      Stand p l e R s m₀ args below meth c S locs (cells + 3) (slots + ((stringBytes (stringToUtf16 text)).size + 4 + 6)) ∧ S.heap[q]? = some ce ∧ s.vm.findClass cls = some ce.cls ∧ ce.vm = .none := by
  have howns : e.platform.frameOwnsMonitors = true := by rw [X.admits.platform]
  have hfin : e.platform.finalization = false := by rw [X.admits.platform]
  have hpl : e.platform.magicAccessors = ({} : Platform).magicAccessors := by rw [X.admits.platform]
  have a : ∀ x, x ∈ Bundle.messageArmAtoms cls names → x.holds args s none s [] = true := fun x hx => h x hx
  obtain ⟨T, Z0, L, -, Y⟩ := ThrowableC.of_atoms (args := args) howns hfin hpl (fun x hx => h x (by simp [Bundle.messageArmAtoms, hx]))
  obtain ⟨Z, M, LZ, LM, hnZ⟩ := Init0T.ofS_atoms (args := args) hpl L Y (fun x hx => h x (by simp [Bundle.messageArmAtoms, hx]))
  obtain ⟨P1, Ps, hlen, L1, hL, hP1m, hlink1, hlink⟩ := Bundle.chainS (args := args) hpl hnZ names cls hcls hnames (fun x hx => h x (by simp [Bundle.messageArmAtoms, hx]))
  obtain ⟨Zs, LZs, hn4, hfitv, hfitc⟩ := StringT.of_atoms (args := args) (fun x hx => h x (by simp [Bundle.messageArmAtoms, hx]))
  have hfound : s.vm.findClass cls = some P1.m.cls := findClass_of_methodNamed hP1m
  obtain ⟨c1, kX, hc1, hk, hord, -, -, hn6⟩ := Cond.instantiable_spec (a (.instantiable cls 6) (by simp [Bundle.messageArmAtoms]))
  cases Option.some.inj (hc1.symm.trans hfound)
  have hinit := Cond.initialized_spec hfound hk (a (.initialized cls) (by simp [Bundle.messageArmAtoms]))
  have hctor : kX.findMethod "<init>" "(Ljava/lang/String;)V" = some P1.m.idx := findMethod_of_methodNamed hP1m hk
  have hsel0 : selectMethod e.platform s.vm P1.m.cls T.fill0 = .method T.fill0 := by
    obtain ⟨c2, r2, m2, q1, q2, q3, q4, -⟩ := Cond.selects_spec (a (.selects cls Bundle.tFill0 Bundle.tFill0) (by simp [Bundle.messageArmAtoms]))
    cases Option.some.inj (q1.symm.trans hfound)
    cases Option.some.inj (q2.symm.trans (State.methodFound?_of_named Y.fill0 (by decide)))
    cases Option.some.inj (q3.symm.trans Y.fill0)
    rw [Launch.admits_selectMethod X.admits]; exact q4
  have hselF : selectMethod e.platform s.vm P1.m.cls T.fill = .method T.fill := by
    obtain ⟨c2, r2, m2, q1, q2, q3, q4, -⟩ := Cond.selects_spec (a (.selects cls Bundle.tFill Bundle.tFill) (by simp [Bundle.messageArmAtoms]))
    cases Option.some.inj (q1.symm.trans hfound)
    cases Option.some.inj (q2.symm.trans (State.methodFound?_of_named Y.fill (by decide)))
    cases Option.some.inj (q3.symm.trans Y.fill)
    rw [Launch.admits_selectMethod X.admits]; exact q4
  obtain ⟨cellS0, hcS0, hiss⟩ := Y.statics
  obtain ⟨u0, hu0⟩ := Cond.staticRefV Y.unassigned L.unassignedStatic L.statics hcS0 hiss (a (.isRef (.static Bundle.tN "UNASSIGNED_STACK" Bundle.steD)) (by simp [Bundle.messageArmAtoms]))
  obtain ⟨sen, hsen⟩ := Cond.staticRefV Y.sentinel L.sentinelStatic L.statics hcS0 hiss (a (.isRef (.static Bundle.tN "SUPPRESSED_SENTINEL" Bundle.listD)) (by simp [Bundle.messageArmAtoms]))
  obtain ⟨ci198, i198, fB, hk198, hg198, ha198, hsB, -, hnB, htB, hffB⟩ := Cond.ownField (t := .object "java/lang/Object") Y.found L.cls (by decide +kernel) (a (.fieldLink Bundle.tN 198 Bundle.tN "backtrace" "Ljava/lang/Object;") (by simp [Bundle.messageArmAtoms])) (a (.lays Bundle.tN Bundle.tN "backtrace" "Ljava/lang/Object;") (by simp [Bundle.messageArmAtoms])) e.platform hpl
  obtain ⟨cellS, hcS', heS, -, hkeep⟩ := X.same.2.2.2.2.2 T.aS cellS0 hcS0
  have hcellS : W.heap[T.aS]? = some cellS := hcS'
  have hout' : ∀ i, (⟨T.aS, i⟩ : Loc) ∉ locs := fun i hmem => by
    have := hlocs _ hmem cellS0 hcS0
    rw [hiss] at this; cases this
  have hknownS : cellS.vm ≠ .unknown := by
    rw [heS]; intro hu
    rw [show cellS0.vm = .unknown from hu] at hiss
    cases hiss
  have hvU : cellS.slots[T.fUnassigned.slot]? = some u0.v := by rw [hkeep _ (hout' _)]; exact hu0
  have hvSen : cellS.slots[T.fSentinel.slot]? = some sen.v := by rw [hkeep _ (hout' _)]; exact hsen
  obtain ⟨iM, hffM⟩ := Y.msg
  obtain ⟨tyC, dC, hdC, hdnC⟩ := Cond.laysAt hfound hk Y.cause (a (.lays cls Bundle.tN "cause" "Ljava/lang/Throwable;") (by simp [Bundle.messageArmAtoms]))
  obtain ⟨tyS, dS, hdS, hdnS⟩ := Cond.laysAt hfound hk Y.stack (a (.lays cls Bundle.tN "stackTrace" Bundle.steD) (by simp [Bundle.messageArmAtoms]))
  obtain ⟨tyP, dP, hdP, hdnP⟩ := Cond.laysAt hfound hk Y.supp (a (.lays cls Bundle.tN "suppressedExceptions" Bundle.listD) (by simp [Bundle.messageArmAtoms]))
  obtain ⟨tyM, dM, hdM, hdnM⟩ := Cond.laysAt hfound hk hffM (a (.lays cls Bundle.tN "detailMessage" "Ljava/lang/String;") (by simp [Bundle.messageArmAtoms]))
  obtain ⟨tyB, dB, hdB, hdnB⟩ := Cond.laysAt hfound hk hffB (a (.lays cls Bundle.tN "backtrace" "Ljava/lang/Object;") (by simp [Bundle.messageArmAtoms]))
  have bC := Cond.laysApart hdB hdC hdnB hdnC (by rw [hnB, Y.causeName]; decide)
  have bS := Cond.laysApart hdB hdS hdnB hdnS (by rw [hnB, Y.stackName]; decide)
  have bP := Cond.laysApart hdB hdP hdnB hdnP (by rw [hnB, Y.suppName]; decide)
  have hbk : ((preparedCellV T.toThrowableT (freshCell P1.m.cls kX) (W.heap.size + 2) u0 sen).withEntry W.cur).slots[fB.slot]? = some .null := by
    have := fresh_default (c := P1.m.cls) tyB
    rw [htB] at this
    simpa [preparedCellV, Cell.setSlot, Cell.withEntry, Array.getElem?_setIfInBounds, bC, bS, bP, bC.symm, bS.symm, bP.symm, defaultValue] using this
  have tkC := Takes.of_laid (v := .ref (W.heap.size + 2)) hk hord tyC (by rw [Y.causeType]; rfl)
  have tkS := Takes.of_laid (v := u0.v) hk hord tyS (by rw [Y.stackType]; exact fits_refV_array _ u0)
  have tkP := Takes.of_laid (v := sen.v) hk hord tyP (by rw [Y.suppType]; exact fits_refV_object _ sen)
  have tkM := Takes.of_laid (v := .ref (W.heap.size + 1)) hk hord tyM (by rw [Y.msgType]; rfl)
  have hskip : SkipFacts T e.platform s (fun u => u) u0 ((preparedCellV T.toThrowableT (freshCell P1.m.cls kX) (W.heap.size + 2) u0 sen).withEntry W.cur) := ⟨{ ci198 := ci198, i198 := i198, fBack := fB }, ⟨hk198, hg198, ha198, hsB⟩, hbk, fun _ _ => rfl⟩
  have h0 : At W g.method c below := by rw [hg]; exact X.here
  obtain ⟨hbeyond, hfreeW⟩ := X.vmMayThrow hsize (.throwNew cls (some text) none) (fun f hf => by cases hf) rfl hRlocals
  have hfr' : W.frames.length + Ps.length + 4 < (e.platform.stackLimits W.me).1 := by have := X.framesAbove hRframes; omega
  have hwd' : (stackUse (.java g :: W.frames.tail)).2 + 13 * Ps.length + 55 ≤ (e.platform.stackLimits W.me).2 := by have := X.stackAbove hsize (K := 13 * Ps.length + 55) (by omega); omega
  have hslots : W.slotsUsed + (stringBytes (stringToUtf16 text)).size + Zs.kS.instanceTypes.size + kX.instanceTypes.size ≤ e.platform.maxSlots := by
    have := X.slotsAbove hRslots
    rw [hn4, hn6]
    omega
  obtain ⟨vm', hW', st⟩ := Steps.vmThrowsMessageColdByV p (s₀ := s) (S := W) (g := g) h0 hexec T L Z LZ M LM X.warmed (t := W.cur) rfl Zs LZs P1 L1 Ps hL hlink1 hlink hsoe hoom hfound hk hinit hord hctor
    (Launch.admits_hotImplicitExceptions X.admits) hbeyond hfreeW htext hlimit hheap (X.cellsAbove hRcells) hslots (hfitv _) (hfitc _)
    (Nn := fun u => u) heapOnly_id (fun _ _ => rfl) (fun _ => rfl) (fun u x y => setCell_twice _ _ _ _) (fun _ => Nat.le_refl _) (cN := ((preparedCellV T.toThrowableT (freshCell P1.m.cls kX) (W.heap.size + 2) u0 sen).withEntry W.cur))
    hsel0 hcellS hknownS hvU tkS (fun _ hu => hu) (fun _ hu => hu) rfl rfl rfl (by simp [preparedCellV, Cell.setSlot, Cell.withEntry]) hskip (fun _ _ hA hW _ hroom _ hrest => L.nativeOff p htr hA hW hroom hrest) hselF hvSen tkC tkP tkM Y.objLocals rfl hfr' hwd'
  rw [plainBareV_eq T.toThrowableT (W.heap.size + 2) u0 sen (.ref (W.heap.size + 1)) W.cur rfl rfl] at st
  obtain ⟨-, -, w3, w4, -, -, -⟩ := withThrown_facts e.platform W Zs text P1.m.cls kX
  have X3 := ((X.pushed (bytesOf Zs.cB (stringToUtf16 text))).pushed (stringAt Zs.cS Zs.kS Zs.fv Zs.fc (stringToUtf16 text) W.heap.size)).pushed (freshCell P1.m.cls kX)
  rw [← withString_eq] at X3
  have X4 := X3.noted hW'
  have ha : (W.heap.size + 2) < ((withThrown W Zs text P1.m.cls kX).setVm vm').heap.size := by show _ < (withThrown W Zs text P1.m.cls kX).heap.size; rw [w3]; omega
  have hcell : ((withThrown W Zs text P1.m.cls kX).setVm vm').heap[(W.heap.size + 2)]? = some (freshCell P1.m.cls kX) := w4
  have X5 := ((((X4.stored hcell T.fCause.slot (.ref (W.heap.size + 2))).storedAgain ha T.fStack.slot u0.v).storedAgain ha T.fSupp.slot sen.v).storedAgain ha T.fStack.slot u0.v).storedAgain ha T.fMsg.slot (.ref (W.heap.size + 1))
  obtain ⟨g₁, hfrM⟩ := X5.frames_eq
  have hU : ((((withThrown W Zs text P1.m.cls kX).setVm vm').setCell (W.heap.size + 2) (plainBareV T.toThrowableT (freshCell P1.m.cls kX) (W.heap.size + 2) u0 sen (.ref (W.heap.size + 1)))).setTop g).pushFrame (.throwing (W.heap.size + 2)) = (((withThrown W Zs text P1.m.cls kX).setVm vm').setCell (W.heap.size + 2) (plainBareV T.toThrowableT (freshCell P1.m.cls kX) (W.heap.size + 2) u0 sen (.ref (W.heap.size + 1)))).setFrames (.throwing (W.heap.size + 2) :: .java g :: below) := by
    rw [State.pushFrame, State.frames_setTop _ hfrM, State.setTop_of_frames _ hfrM, State.setFrames_setFrames]
  have b1 : (bytesOf Zs.cB (stringToUtf16 text)).slots.size = (stringBytes (stringToUtf16 text)).size := by
    rw [(Cell.writeAll_facts _ _).2.2]; simp [bytes0]
  have b2 : (stringAt Zs.cS Zs.kS Zs.fv Zs.fc (stringToUtf16 text) W.heap.size).slots.size = 4 := by simp [string0, Cell.setSlot, hn4]
  have b3 : (freshCell P1.m.cls kX).slots.size = 6 := by simp [hn6]
  rw [b1, b2, b3] at X5
  have e9 : slots + (stringBytes (stringToUtf16 text)).size + 4 + 6 = slots + ((stringBytes (stringToUtf16 text)).size + 4 + 6) := by omega
  rw [e9] at X5
  simp only [List.append_assoc, List.cons_append, List.nil_append] at X5
  refine ⟨((withThrown W Zs text P1.m.cls kX).setVm vm').setCell (W.heap.size + 2) (plainBareV T.toThrowableT (freshCell P1.m.cls kX) (W.heap.size + 2) u0 sen (.ref (W.heap.size + 1))), W.heap.size + 2, _, fun target ht => st _ (by rw [X.tail, ← hU]; exact ht),
    X5.forget (fun y hy => ?_), heapAt_setCell_self _ ha, hfound, rfl⟩
  simp only [List.mem_cons, List.not_mem_nil, or_false] at hy
  have hge : s.heap.size ≤ W.heap.size := X.same.2.1
  rcases hy with rfl | rfl | rfl | rfl | rfl <;> exact Nat.le_trans hge (Nat.le_add_right _ 2)
set_option maxHeartbeats 1000000 in
/-- the machine throws NullPointerException, no traces kept: from its note over the frame g to 'throwing' over the same frame (follows the proof of Stand.vmThrowsNpe, Shelf42/KT2.lean; throwsNpeColdBareVAt, Shelf42/NT91.lean, called) -/
theorem vx_npeAt {p : Program} {l : Launch} {e : Env} {R : Room} {s : State} {m₀ : MethodId} {args : Array Value} {below : List Frame} {meth : Method} {c : Code} {W : State} {locs : List Loc} {cells slots : Nat}
    (X : Stand p l e R s m₀ args below meth c W locs cells slots) (hexec : p.tables.exec = Jvm.exec) (htr : e.platform.stackTraces = false) {n : Nat}
    (h : ∀ a ∈ Bundle.npeArmAtoms n, a.before args s = true)
    (hlocs : ∀ x ∈ locs, ∀ cell, s.heap[x.base]? = some cell → cell.vm.isStatics = false)
    {g : JFrame} (hg : g.method = m₀) (hsize : g.locals.size = c.maxLocals)
    (hRframes : 7 < R.frames) (hRlocals : 2 * g.monitorRoom + (g.stack.map fun v => v.category).sum + 10240 ≤ R.locals)
    (hRcells : cells + 1 ≤ R.cells) (hRslots : slots + n ≤ R.slots) (hlocks : meth.locks = false) :
    ∃ (S : State) (q : Addr) (ce : Cell), (∀ target, Steps p.tables e below ((S.setTop g).pushFrame (.throwing q)) target → Steps p.tables e below ((W.setTop g).pushFrame (.throwNew "java/lang/NullPointerException" none none)) target) ∧
      Stand p l e R s m₀ args below meth c S locs (cells + 1) (slots + n) ∧ S.heap[q]? = some ce ∧ s.vm.findClass "java/lang/NullPointerException" = some ce.cls ∧ ce.vm = .none := by
  have howns : e.platform.frameOwnsMonitors = true := by rw [X.admits.platform]
  have hfin : e.platform.finalization = false := by rw [X.admits.platform]
  have hpl : e.platform.magicAccessors = ({} : Platform).magicAccessors := by rw [X.admits.platform]
  have hpl2 : e.platform.arrayCloneIsPublic = true := by rw [X.admits.platform]
  have a' : ∀ x, x ∈ Bundle.npeArmAtoms n → x.holds args s none s [] = true := fun x hx => h x hx
  obtain ⟨T, Z, L, LZ, Y⟩ := ThrowableC.of_atoms (args := args) howns hfin hpl (fun x hx => h x (by simp [Bundle.npeArmAtoms, hx]))
  obtain ⟨N, LN, hcN, hnNF, hordN, hffS⟩ := NpeC.of_atoms (args := args) hpl hpl2 L Y (fun x hx => h x (by simp [Bundle.npeArmAtoms, hx]))
  obtain ⟨P1, L1, hP1m, hP1s⟩ := PassC.of_atoms (args := args) (s := s) hpl (X := Bundle.nN) (Y := Bundle.rN) (by decide) (by decide) LibCode.NullPointerException.Init0.at_0 LibCode.NullPointerException.Init0.at_1 LibCode.NullPointerException.Init0.at_4 (fun x hx => h x (by simp [Bundle.npeArmAtoms, hx]))
  obtain ⟨PR, LR, hPRm, hPRs⟩ := PassC.of_atoms (args := args) (s := s) hpl (X := Bundle.rN) (Y := Bundle.eN) (by decide) (by decide) LibCode.RuntimeException.Init0.at_0 LibCode.RuntimeException.Init0.at_1 LibCode.RuntimeException.Init0.at_4 (fun x hx => h x (by simp [Bundle.npeArmAtoms, hx]))
  obtain ⟨PE, LEx, hPEm, hPEs⟩ := PassC.of_atoms (args := args) (s := s) hpl (X := Bundle.eN) (Y := Bundle.tN) (by decide) (by decide) LibCode.Exception.Init0.at_0 LibCode.Exception.Init0.at_1 LibCode.Exception.Init0.at_4 (fun x hx => h x (by simp [Bundle.npeArmAtoms, hx]))
  have hfound : s.vm.findClass Bundle.nN = some P1.m.cls := findClass_of_methodNamed hP1m
  have ecls : N.cN = P1.m.cls := Option.some.inj (hcN.symm.trans hfound)
  have hk : s.vm.classes[P1.m.cls]? = some N.kN := by rw [← ecls]; exact LN.cls
  have hinit := Cond.initialized_spec hfound hk (a' (.initialized Bundle.nN) (by simp [Bundle.npeArmAtoms]))
  have hctor : N.kN.findMethod "<init>" "()V" = some P1.m.idx := findMethod_of_methodNamed hP1m hk
  obtain ⟨c1, k1, hc1, hk1, -, -, -, hn⟩ := Cond.instantiable_spec (a' (.instantiable Bundle.nN n) (by simp [Bundle.npeArmAtoms]))
  cases Option.some.inj (hc1.symm.trans hfound)
  cases Option.some.inj (hk1.symm.trans hk)
  have hfsz : (freshCell P1.m.cls N.kN).slots.size = n := by simp [hn]
  have hlink1 : P1.sup = PR.m := Option.some.inj (hP1s.symm.trans hPRm)
  have hlinkR : PR.sup = PE.m := Option.some.inj (hPRs.symm.trans hPEm)
  have hlinkE : PE.sup = Z.m T.toThrowableT := Option.some.inj (hPEs.symm.trans Y.init0)
  have hLs : ∀ P, P ∈ [PR, PE] → P.Links0 e.platform s := fun P hP => by
    simp only [List.mem_cons, List.not_mem_nil, or_false] at hP
    rcases hP with rfl | rfl
    · exact LR
    · exact LEx
  have hsel0 : selectMethod e.platform s.vm P1.m.cls T.fill0 = .method T.fill0 := by
    obtain ⟨c2, r2, m2, q1, q2, q3, q4, -⟩ := Cond.selects_spec (a' (.selects Bundle.nN Bundle.tFill0 Bundle.tFill0) (by simp [Bundle.npeArmAtoms]))
    cases Option.some.inj (q1.symm.trans hfound)
    cases Option.some.inj (q2.symm.trans (State.methodFound?_of_named Y.fill0 (by decide)))
    cases Option.some.inj (q3.symm.trans Y.fill0)
    rw [Launch.admits_selectMethod X.admits]; exact q4
  have hselF : selectMethod e.platform s.vm P1.m.cls T.fill = .method N.fill := by
    obtain ⟨c2, r2, m2, q1, q2, q3, q4, -⟩ := Cond.selects_spec (a' (.selects Bundle.nN Bundle.tFill Bundle.nFill) (by simp [Bundle.npeArmAtoms]))
    cases Option.some.inj (q1.symm.trans hfound)
    cases Option.some.inj (q2.symm.trans (State.methodFound?_of_named Y.fill (by decide)))
    cases Option.some.inj (q3.symm.trans hnNF)
    rw [Launch.admits_selectMethod X.admits]; exact q4
  obtain ⟨cellS0, hcS0, hiss⟩ := Y.statics
  obtain ⟨u0, hu0⟩ := Cond.staticRefV Y.unassigned L.unassignedStatic L.statics hcS0 hiss (a' (.isRef (.static Bundle.tN "UNASSIGNED_STACK" Bundle.steD)) (by simp [Bundle.npeArmAtoms]))
  obtain ⟨sen, hsen⟩ := Cond.staticRefV Y.sentinel L.sentinelStatic L.statics hcS0 hiss (a' (.isRef (.static Bundle.tN "SUPPRESSED_SENTINEL" Bundle.listD)) (by simp [Bundle.npeArmAtoms]))
  obtain ⟨ci198, i198, fB, hk198, hg198, ha198, hsB, -, hnB, htB, hffB⟩ := Cond.ownField (t := .object "java/lang/Object") Y.found L.cls (by decide +kernel) (a' (.fieldLink Bundle.tN 198 Bundle.tN "backtrace" Bundle.objD) (by simp [Bundle.npeArmAtoms])) (a' (.lays Bundle.tN Bundle.tN "backtrace" Bundle.objD) (by simp [Bundle.npeArmAtoms])) e.platform hpl
  obtain ⟨cellS, hcS', heS, -, hkeep⟩ := X.same.2.2.2.2.2 T.aS cellS0 hcS0
  have hcellS : W.heap[T.aS]? = some cellS := hcS'
  have hout' : ∀ i, (⟨T.aS, i⟩ : Loc) ∉ locs := fun i hmem => by
    have := hlocs _ hmem cellS0 hcS0
    rw [hiss] at this; cases this
  have hknownS : cellS.vm ≠ .unknown := by
    rw [heS]; intro hu
    rw [show cellS0.vm = .unknown from hu] at hiss
    cases hiss
  have hvU : cellS.slots[T.fUnassigned.slot]? = some u0.v := by rw [hkeep _ (hout' _)]; exact hu0
  have hvSen : cellS.slots[T.fSentinel.slot]? = some sen.v := by rw [hkeep _ (hout' _)]; exact hsen
  obtain ⟨tyC, dC, hdC, hdnC⟩ := Cond.laysAt hfound hk Y.cause (a' (.lays Bundle.nN Bundle.tN "cause" "Ljava/lang/Throwable;") (by simp [Bundle.npeArmAtoms]))
  obtain ⟨tyS, dS, hdS, hdnS⟩ := Cond.laysAt hfound hk Y.stack (a' (.lays Bundle.nN Bundle.tN "stackTrace" Bundle.steD) (by simp [Bundle.npeArmAtoms]))
  obtain ⟨tyP, dP, hdP, hdnP⟩ := Cond.laysAt hfound hk Y.supp (a' (.lays Bundle.nN Bundle.tN "suppressedExceptions" Bundle.listD) (by simp [Bundle.npeArmAtoms]))
  obtain ⟨tyX, dX, hdX, hdnX⟩ := Cond.laysAt hfound hk hffS (a' (.lays Bundle.nN Bundle.nN "extendedMessageState" "I") (by simp [Bundle.npeArmAtoms, Bundle.npeAtoms]))
  obtain ⟨hnX, htX⟩ := State.fieldFound?_type hffS (t := .int) (by decide +kernel)
  have xC := Cond.laysApart hdC hdX hdnC hdnX (by rw [hnX, Y.causeName]; decide)
  have xS := Cond.laysApart hdS hdX hdnS hdnX (by rw [hnX, Y.stackName]; decide)
  have xP := Cond.laysApart hdP hdX hdnP hdnX (by rw [hnX, Y.suppName]; decide)
  have hv0 : (freshCell P1.m.cls N.kN).slots[N.fState.slot]? = some (.int 0) := by
    have := fresh_default (c := P1.m.cls) tyX
    rw [htX] at this; exact this
  obtain ⟨tyB, dB, hdB, hdnB⟩ := Cond.laysAt hfound hk hffB (a' (.lays Bundle.nN Bundle.tN "backtrace" Bundle.objD) (by simp [Bundle.npeArmAtoms]))
  have bC := Cond.laysApart hdB hdC hdnB hdnC (by rw [hnB, Y.causeName]; decide)
  have bS := Cond.laysApart hdB hdS hdnB hdnS (by rw [hnB, Y.stackName]; decide)
  have bP := Cond.laysApart hdB hdP hdnB hdnP (by rw [hnB, Y.suppName]; decide)
  have bX := Cond.laysApart hdB hdX hdnB hdnX (by rw [hnB, hnX]; decide)
  have hbk : ((npeCell N.toNpeT (preparedCellV T.toThrowableT (freshCell P1.m.cls N.kN) W.heap.size u0 sen) W.cur).withEntry W.cur).slots[fB.slot]? = some .null := by
    have := fresh_default (c := P1.m.cls) tyB
    rw [htB] at this
    simpa [npeCell, preparedCellV, Cell.setSlot, Cell.withEntry, Array.getElem?_setIfInBounds, bC, bS, bP, bX, bC.symm, bS.symm, bP.symm, bX.symm, defaultValue] using this
  have tkC := Takes.of_laid (v := .ref W.heap.size) hk hordN tyC (by rw [Y.causeType]; rfl)
  have tkS := Takes.of_laid (v := u0.v) hk hordN tyS (by rw [Y.stackType]; exact fits_refV_array _ u0)
  have tkP := Takes.of_laid (v := sen.v) hk hordN tyP (by rw [Y.suppType]; exact fits_refV_object _ sen)
  have tkX := Takes.of_laid (v := .int 1) hk hordN tyX (by rw [htX]; rfl)
  have hskip : SkipFacts T e.platform s (fun u => u) u0 ((npeCell N.toNpeT (preparedCellV T.toThrowableT (freshCell P1.m.cls N.kN) W.heap.size u0 sen) W.cur).withEntry W.cur) := ⟨{ ci198 := ci198, i198 := i198, fBack := fB }, ⟨hk198, hg198, ha198, hsB⟩, hbk, fun _ _ => rfl⟩
  obtain ⟨vm', X3, st, -⟩ := X.throwsNpeColdBareVAt hexec hg hsize T L Z LZ N LN P1 L1 [PR, PE] hLs hlink1 ⟨hlinkR, hlinkE, trivial⟩ hfound hk hinit hordN hctor hsel0 hselF hcellS hknownS hvU hvSen
    hv0 xC xS xP tkC tkS tkP tkX Y.objLocals hskip (fun _ _ hA hW _ hroom _ hrest => L.nativeOff p htr hA hW hroom hrest) (by simpa using hRframes) hRlocals (by simp) hRcells (by rw [hn]; exact hRslots)
  have hlt : W.heap.size < ((W.pushCell (freshCell P1.m.cls N.kN)).setVm vm').heap.size := by
    show W.heap.size < (W.pushCell (freshCell P1.m.cls N.kN)).heap.size
    rw [State.heap_size_pushCell]; omega
  rw [hfsz] at X3
  obtain ⟨g₁, hfrM⟩ := X3.frames_eq
  have hU : ((((W.pushCell (freshCell P1.m.cls N.kN)).setVm vm').setCell W.heap.size (npeBareV T.toThrowableT N.toNpeT (freshCell P1.m.cls N.kN) W.heap.size u0 sen)).setTop g).pushFrame (.throwing W.heap.size) = (((W.pushCell (freshCell P1.m.cls N.kN)).setVm vm').setCell W.heap.size (npeBareV T.toThrowableT N.toNpeT (freshCell P1.m.cls N.kN) W.heap.size u0 sen)).setFrames (.throwing W.heap.size :: .java g :: below) := by
    rw [State.pushFrame, State.frames_setTop _ hfrM, State.setTop_of_frames _ hfrM, State.setFrames_setFrames]
  refine ⟨_, W.heap.size, _, fun target ht => st.trans (by rw [← hU]; exact ht), X3.forget (fun y hy => ?_), heapAt_setCell_self _ hlt, hfound, rfl⟩
  simp only [List.mem_cons, List.not_mem_nil, or_false] at hy
  have hge : s.heap.size ≤ W.heap.size := X.same.2.1
  rcases hy with rfl | rfl | rfl | rfl | rfl <;> exact hge
/-- the words of a machine's NullPointerException, but the four that speak of the heap -/
def vx_atN (n : Nat) : List Cond := (Bundle.npeArmAtoms n).filter vx_no
/-- the words of a machine's throw with a message, but the four that speak of the heap -/
def vx_atM (X : String) (names : List String) : List Cond := (Bundle.messageArmAtoms X names).filter vx_no
section
variable {p : Program} {l : Launch} {e : Env} {R : Room} {s : State} {m : MethodId} {args : Array Value} {below : List Frame} {meth : Method} {c : Code} {H : Heap} {locs : List Loc} {cells slots : Nat}
/-- a frame seen from a rebased start, seen from the first start again -/
theorem vx_back9 {T S : State} {R' : Room} {k n : Nat} (X : Stand p l e R s m args below meth c T locs cells slots) (Y : Stand p l e R' ((T.setVm s.vm).setFrames (.invoking m args :: below)) m args below meth c T [] 0 0) (Z : Stand p l e R' ((T.setVm s.vm).setFrames (.invoking m args :: below)) m args below meth c S [] k n) :
    Stand p l e R s m args below meth c S locs (cells + k) (slots + n) := by
  have hW0 : s.WarmedH ((T.setVm s.vm).setFrames (.invoking m args :: below)).vm := State.WarmedH.refl s
  refine { admits := X.admits, cas := X.cas, clock := X.clock, frames := X.frames, room := X.room, hears := X.hears, method := X.method, code := X.code, here := Z.here, tail := Z.tail, warmed := State.WarmedH.trans hW0 Z.warmed, limits := Z.limits.trans (Y.limits.symm.trans X.limits), bytes := Z.bytes.trans (Y.bytes.symm.trans X.bytes), same := ?_ }
  obtain ⟨e1, e2⟩ := Z.same
  rw [State.setFrames_setFrames] at e1
  have h2 : (T.setVm s.vm).sameButNew (S.setVm s.vm) [] k n := ⟨e1, e2⟩
  have h3 := X.same.trans h2
  rw [List.append_nil] at h3
  exact h3
/-- from the machine's note that E is thrown here with this text -/
def vx_Note (p : Program) (l : Launch) (e : Env) (R : Room) (s : State) (m : MethodId) (args : Array Value) (below : List Frame) (meth : Method) (c : Code) (H : Heap) (locs : List Loc) (cells slots : Nat) (Q : State → Prop) (g : JFrame) (E text : String) : Prop :=
  ∀ T : State, T.heap = H → Stand p l e R s m args below meth c T locs cells slots → ∃ t, Steps p.tables e below ((T.setTop g).pushFrame (.throwNew E (some text) none)) t ∧ Q t
theorem vx_vm {pc : Nat} {ls : Array Slot} {rest : List Value} {Q : State → Prop} (hexec : p.tables.exec = Jvm.exec) (hl : l.stackTraces = false) {cls text : String} {names : List String} {nb : Nat} {A : Nat → Prop}
    (hcls : Bundle.fit cls = true) (hnames : ∀ n ∈ names, Bundle.fit n = true) (hsoe : (cls == "java/lang/StackOverflowError") = false) (hoom : (cls == "java/lang/OutOfMemoryError") = false)
    (hat : ∀ w ∈ vx_atM cls names, w.before args s = true) (hgood : ∀ w ∈ vx_atM cls names, vx_ot w = true)
    (hU : vx_Zq Bundle.tN "UNASSIGNED_STACK" Bundle.steD A s s.heap) (hN : vx_Zq Bundle.tN "SUPPRESSED_SENTINEL" Bundle.listD A s s.heap) (hS : va_S A s.heap H locs) (hsize : ls.size = c.maxLocals)
    (htext : (text == notModelled) = false) (hnb : (stringBytes (stringToUtf16 text)).size ≤ nb) (hnb1 : nb ≤ 1000)
    (hRframes : names.length + 4 < R.frames) (hRlocals : (rest.map fun v => v.category).sum + 10240 ≤ R.locals) (hshort : 13 * names.length + 55 ≤ 10240) (hRcells : cells + 3 ≤ R.cells) (hRslots : slots + (nb + 10) ≤ R.slots) (hlocks : meth.locks = false)
    (k : ∀ (H1 : Heap) (q9 : Addr) (ce : Cell), H.size ≤ H1.size → (∀ q : Nat, q < H.size → H1[q]? = H[q]?) → va_S A s.heap H1 locs → H1[q9]? = some ce → ce.vm = .none → s.vm.findClass cls = some ce.cls → vx_W p l e R s m args below meth c H1 locs (cells + 3) (slots + (nb + 10)) Q (F0 m pc ls rest) q9) :
    vx_Note p l e R s m args below meth c H locs cells slots Q (F0 m pc ls rest) cls text := by
  intro T hT X
  have htr : e.platform.stackTraces = false := (show e.platform.stackTraces = l.stackTraces by rw [X.admits.platform]).trans hl
  have Y := vx_rebase X (R' := { frames := R.frames, locals := R.locals, cells := 3, slots := nb + 10 }) (Nat.le_refl _) (Nat.le_refl _) hRcells hRslots
  have hhp : ((T.setVm s.vm).setFrames (.invoking m args :: below)).heap = H := hT
  have hW0 : s.WarmedH ((T.setVm s.vm).setFrames (.invoking m args :: below)).vm := State.WarmedH.refl s
  have hat' : ∀ w ∈ vx_atM cls names, w.before args ((T.setVm s.vm).setFrames (.invoking m args :: below)) = true := fun w hw => vx_ot_at hW0 rfl (hgood w hw) (hat w hw)
  have hU' : vx_Zq Bundle.tN "UNASSIGNED_STACK" Bundle.steD A ((T.setVm s.vm).setFrames (.invoking m args :: below)) ((T.setVm s.vm).setFrames (.invoking m args :: below)).heap := by rw [hhp]; exact vx_Zq.moved hW0.alike (hU.kept hS.2.1)
  have hN' : vx_Zq Bundle.tN "SUPPRESSED_SENTINEL" Bundle.listD A ((T.setVm s.vm).setFrames (.invoking m args :: below)) ((T.setVm s.vm).setFrames (.invoking m args :: below)).heap := by rw [hhp]; exact vx_Zq.moved hW0.alike (hN.kept hS.2.1)
  obtain ⟨S, q, ce, st, Z, hce, hcl', hv⟩ := vx_vmAt Y hexec htr (cls := cls) (names := names) (text := text) hcls hnames hsoe hoom (vx_own hat' (vx_isRefq hU'.1) (vx_isRefq hN'.1) hU'.2.word hN'.2.word) (fun x hx => nomatch hx) htext
    (by rw [Launch.admits_arrayLengthLimit X.admits]; omega) (by rw [Launch.admits_maxHeapBytes X.admits]; simp only [componentBytes]; omega)
    (g := F0 m pc ls rest) rfl hsize hRframes (by show 2 * 0 + (rest.map fun v => v.category).sum + 10240 ≤ R.locals; omega) hshort (by show 0 + 3 ≤ 3; omega) (by show 0 + (_ + 4 + 6) ≤ nb + 10; omega) hlocks
  obtain ⟨f1, f2⟩ := vx_frame Z.same
  have f1' : H.size ≤ S.heap.size := by rw [← hT]; exact f1
  have f2' : ∀ q : Nat, q < H.size → S.heap[q]? = H[q]? := fun q hq => by
    rw [← hT]
    exact f2 q (by rw [← hT] at hq; exact hq) (fun z hz => nomatch hz)
  have X5 := vx_back9 X Y Z
  have X6 : Stand p l e R s m args below meth c S locs (cells + 3) (slots + (nb + 10)) := { X5 with same := X5.same.mono (by omega) (by omega) }
  obtain ⟨t, a1, b1⟩ := k S.heap q ce f1' f2' ⟨Nat.le_trans hS.1 f1', fun q h1 h2 => (f2' q (Nat.lt_of_lt_of_le h1 hS.1)).trans (hS.2.1 q h1 h2), hS.2.2⟩ hce hv hcl' S rfl X6
  exact ⟨t, st t a1, b1⟩
/-- from the machine's note that NullPointerException is thrown here -/
def vx_NoteN (p : Program) (l : Launch) (e : Env) (R : Room) (s : State) (m : MethodId) (args : Array Value) (below : List Frame) (meth : Method) (c : Code) (H : Heap) (locs : List Loc) (cells slots : Nat) (Q : State → Prop) (g : JFrame) : Prop :=
  ∀ T : State, T.heap = H → Stand p l e R s m args below meth c T locs cells slots → ∃ t, Steps p.tables e below ((T.setTop g).pushFrame (.throwNew "java/lang/NullPointerException" none none)) t ∧ Q t
theorem vx_npe {pc : Nat} {ls : Array Slot} {rest : List Value} {Q : State → Prop} (hexec : p.tables.exec = Jvm.exec) (hl : l.stackTraces = false) {nb : Nat} {A : Nat → Prop}
    (hat : ∀ w ∈ vx_atN nb, w.before args s = true) (hgood : ∀ w ∈ vx_atN nb, vx_ot w = true)
    (hU : vx_Zq Bundle.tN "UNASSIGNED_STACK" Bundle.steD A s s.heap) (hN : vx_Zq Bundle.tN "SUPPRESSED_SENTINEL" Bundle.listD A s s.heap) (hS : va_S A s.heap H locs) (hsize : ls.size = c.maxLocals)
    (hRframes : 7 < R.frames) (hRlocals : (rest.map fun v => v.category).sum + 10240 ≤ R.locals) (hRcells : cells + 1 ≤ R.cells) (hRslots : slots + nb ≤ R.slots) (hlocks : meth.locks = false)
    (k : ∀ (H1 : Heap) (q9 : Addr) (ce : Cell), H.size ≤ H1.size → (∀ q : Nat, q < H.size → H1[q]? = H[q]?) → va_S A s.heap H1 locs → H1[q9]? = some ce → ce.vm = .none → s.vm.findClass "java/lang/NullPointerException" = some ce.cls → vx_W p l e R s m args below meth c H1 locs (cells + 1) (slots + nb) Q (F0 m pc ls rest) q9) :
    vx_NoteN p l e R s m args below meth c H locs cells slots Q (F0 m pc ls rest) := by
  intro T hT X
  have htr : e.platform.stackTraces = false := (show e.platform.stackTraces = l.stackTraces by rw [X.admits.platform]).trans hl
  have Y := vx_rebase X (R' := { frames := R.frames, locals := R.locals, cells := 1, slots := nb }) (Nat.le_refl _) (Nat.le_refl _) hRcells hRslots
  have hhp : ((T.setVm s.vm).setFrames (.invoking m args :: below)).heap = H := hT
  have hW0 : s.WarmedH ((T.setVm s.vm).setFrames (.invoking m args :: below)).vm := State.WarmedH.refl s
  have hat' : ∀ w ∈ vx_atN nb, w.before args ((T.setVm s.vm).setFrames (.invoking m args :: below)) = true := fun w hw => vx_ot_at hW0 rfl (hgood w hw) (hat w hw)
  have hU' : vx_Zq Bundle.tN "UNASSIGNED_STACK" Bundle.steD A ((T.setVm s.vm).setFrames (.invoking m args :: below)) ((T.setVm s.vm).setFrames (.invoking m args :: below)).heap := by rw [hhp]; exact vx_Zq.moved hW0.alike (hU.kept hS.2.1)
  have hN' : vx_Zq Bundle.tN "SUPPRESSED_SENTINEL" Bundle.listD A ((T.setVm s.vm).setFrames (.invoking m args :: below)) ((T.setVm s.vm).setFrames (.invoking m args :: below)).heap := by rw [hhp]; exact vx_Zq.moved hW0.alike (hN.kept hS.2.1)
  obtain ⟨S, q, ce, st, Z, hce, hcl', hv⟩ := vx_npeAt Y hexec htr (n := nb) (vx_own hat' (vx_isRefq hU'.1) (vx_isRefq hN'.1) hU'.2.word hN'.2.word) (fun x hx => nomatch hx)
    (g := F0 m pc ls rest) rfl hsize hRframes (by show 2 * 0 + (rest.map fun v => v.category).sum + 10240 ≤ R.locals; omega) (by show 0 + 1 ≤ 1; omega) (by show 0 + nb ≤ nb; omega) hlocks
  obtain ⟨f1, f2⟩ := vx_frame Z.same
  have f1' : H.size ≤ S.heap.size := by rw [← hT]; exact f1
  have f2' : ∀ q : Nat, q < H.size → S.heap[q]? = H[q]? := fun q hq => by
    rw [← hT]
    exact f2 q (by rw [← hT] at hq; exact hq) (fun z hz => nomatch hz)
  have X5 := vx_back9 X Y Z
  have X6 : Stand p l e R s m args below meth c S locs (cells + 1) (slots + nb) := { X5 with same := X5.same.mono (by omega) (by omega) }
  obtain ⟨t, a1, b1⟩ := k S.heap q ce f1' f2' ⟨Nat.le_trans hS.1 f1', fun q h1 h2 => (f2' q (Nat.lt_of_lt_of_le h1 hS.1)).trans (hS.2.1 q h1 h2), hS.2.2⟩ hce hv hcl' S rfl X6
  exact ⟨t, st t a1, b1⟩
variable {Q : State → Prop} {cc : ByteArray} {pc : Nat} {ls : Array Slot} {rest : List Value}
theorem vx_idivZ (hexec : p.tables.exec = Jvm.exec) (hb : c.code = cc) {a b : Int32} (h0 : b = 0) (d : decode cc pc = .ok (.idiv, 1)) (k : vx_Note p l e R s m args below meth c H locs cells slots Q (F0 m pc ls rest) "java/lang/ArithmeticException" "/ by zero") :
    W p l e R s m args below meth c H locs cells slots Q (F0 m pc ls (.int b :: .int a :: rest)) := by
  intro T hT X
  obtain ⟨t, st, q⟩ := k T hT X
  exact ⟨t, X.idivZero hexec (g := F0 m pc ls (.int b :: .int a :: rest)) rfl (a := a) (rest := rest) (by rw [h0]) (by rw [hb]; exact d) t st, q⟩
theorem vx_iremZ (hexec : p.tables.exec = Jvm.exec) (hb : c.code = cc) {a b : Int32} (h0 : b = 0) (d : decode cc pc = .ok (.irem, 1)) (k : vx_Note p l e R s m args below meth c H locs cells slots Q (F0 m pc ls rest) "java/lang/ArithmeticException" "/ by zero") :
    W p l e R s m args below meth c H locs cells slots Q (F0 m pc ls (.int b :: .int a :: rest)) := by
  intro T hT X
  obtain ⟨t, st, q⟩ := k T hT X
  exact ⟨t, X.iremZero hexec (g := F0 m pc ls (.int b :: .int a :: rest)) rfl (a := a) (rest := rest) (by rw [h0]) (by rw [hb]; exact d) t st, q⟩
theorem vx_ldivZ (hexec : p.tables.exec = Jvm.exec) (hb : c.code = cc) {a b : Int64} (h0 : b = 0) (d : decode cc pc = .ok (.ldiv, 1)) (k : vx_Note p l e R s m args below meth c H locs cells slots Q (F0 m pc ls rest) "java/lang/ArithmeticException" "/ by zero") :
    W p l e R s m args below meth c H locs cells slots Q (F0 m pc ls (.long b :: .long a :: rest)) := by
  intro T hT X
  obtain ⟨t, st, q⟩ := k T hT X
  exact ⟨t, X.ldivZero hexec (g := F0 m pc ls (.long b :: .long a :: rest)) rfl (a := a) (rest := rest) (by rw [h0]) (by rw [hb]; exact d) t st, q⟩
theorem vx_lremZ (hexec : p.tables.exec = Jvm.exec) (hb : c.code = cc) {a b : Int64} (h0 : b = 0) (d : decode cc pc = .ok (.lrem, 1)) (k : vx_Note p l e R s m args below meth c H locs cells slots Q (F0 m pc ls rest) "java/lang/ArithmeticException" "/ by zero") :
    W p l e R s m args below meth c H locs cells slots Q (F0 m pc ls (.long b :: .long a :: rest)) := by
  intro T hT X
  obtain ⟨t, st, q⟩ := k T hT X
  exact ⟨t, X.lremZero hexec (g := F0 m pc ls (.long b :: .long a :: rest)) rfl (a := a) (rest := rest) (by rw [h0]) (by rw [hb]; exact d) t st, q⟩
theorem vx_ialdZ {D : va_G} {cl : List vw_C} {ws : va_W} {tys : List (ClassId × FieldType)} {a : Nat} (hexec : p.tables.exec = Jvm.exec) (hb : c.code = cc) (hK : va_K D cl tys s) (hP : va_P D cl ws H) (q0 t0 : Nat) {cA : ClassId} {n : Nat} {f : Nat → Int32} (ha : ws[q0]? = some (a, .inl (cA, n, .inl f))) (ht : tys[t0]? = some (cA, .int)) {i : Int32} (hout : ¬ vp_in i n) (hdg : decode cc pc = .ok (.iaload, 1))
    (k : ∀ tx : String, tx = (toString "Index " ++ toString i ++ toString " out of bounds for length " ++ toString n : String) → vx_Note p l e R s m args below meth c H locs cells slots Q (F0 m pc ls rest) "java/lang/ArrayIndexOutOfBoundsException" tx) : W p l e R s m args below meth c H locs cells slots Q (F0 m pc ls (.int i :: .ref a :: rest)) := by
  intro T hT X
  obtain ⟨t, st, q⟩ := k _ rfl T hT X
  refine ⟨t, ?_, q⟩
  have h1 := X.ialoadOut hexec (by rw [hT]; exact hP q0 _ ha) ((hK.2 t0 _ ht).1 n (fun j => .int (f j))) (j := i) (by show (i < 0 ∨ (arrV _ _ _).slots.size ≤ _); rw [arrV_size]; exact Classical.byContradiction hout) (g := F0 m pc ls (.int i :: .ref a :: rest)) rfl (rest := rest) rfl (by rw [hb]; exact hdg) t
  simp only [arrV_size] at h1
  exact h1 st
theorem vx_iastZ {D : va_G} {cl : List vw_C} {ws : va_W} {tys : List (ClassId × FieldType)} {a : Nat} (hexec : p.tables.exec = Jvm.exec) (hb : c.code = cc) (hK : va_K D cl tys s) (hP : va_P D cl ws H) (q0 t0 : Nat) {cA : ClassId} {n : Nat} {f : Nat → Int32} (ha : ws[q0]? = some (a, .inl (cA, n, .inl f))) (ht : tys[t0]? = some (cA, .int)) {i : Int32} {x : Int32} (hout : ¬ vp_in i n) (hdg : decode cc pc = .ok (.iastore, 1))
    (k : ∀ tx : String, tx = (toString "Index " ++ toString i ++ toString " out of bounds for length " ++ toString n : String) → vx_Note p l e R s m args below meth c H locs cells slots Q (F0 m pc ls rest) "java/lang/ArrayIndexOutOfBoundsException" tx) : W p l e R s m args below meth c H locs cells slots Q (F0 m pc ls (.int x :: .int i :: .ref a :: rest)) := by
  intro T hT X
  obtain ⟨t, st, q⟩ := k _ rfl T hT X
  refine ⟨t, ?_, q⟩
  have h1 := X.iastoreOut hexec (by rw [hT]; exact hP q0 _ ha) ((hK.2 t0 _ ht).1 n (fun j => .int (f j))) (j := i) (by show (i < 0 ∨ (arrV _ _ _).slots.size ≤ _); rw [arrV_size]; exact Classical.byContradiction hout) (g := F0 m pc ls (.int x :: .int i :: .ref a :: rest)) rfl (rest := rest) rfl (by rw [hb]; exact hdg) t
  simp only [arrV_size] at h1
  exact h1 st
theorem vx_baldZ {D : va_G} {cl : List vw_C} {ws : va_W} {tys : List (ClassId × FieldType)} {a : Nat} (hexec : p.tables.exec = Jvm.exec) (hb : c.code = cc) (hK : va_K D cl tys s) (hP : va_P D cl ws H) (q0 t0 : Nat) {cA : ClassId} {n : Nat} {f : Nat → Int32} (ha : ws[q0]? = some (a, .inl (cA, n, .inl f))) (ht : tys[t0]? = some (cA, .byte)) {i : Int32} (hout : ¬ vp_in i n) (hdg : decode cc pc = .ok (.baload, 1))
    (k : ∀ tx : String, tx = (toString "Index " ++ toString i ++ toString " out of bounds for length " ++ toString n : String) → vx_Note p l e R s m args below meth c H locs cells slots Q (F0 m pc ls rest) "java/lang/ArrayIndexOutOfBoundsException" tx) : W p l e R s m args below meth c H locs cells slots Q (F0 m pc ls (.int i :: .ref a :: rest)) := by
  intro T hT X
  obtain ⟨t, st, q⟩ := k _ rfl T hT X
  refine ⟨t, ?_, q⟩
  have h1 := X.baloadOut hexec (by rw [hT]; exact hP q0 _ ha) ((hK.2 t0 _ ht).1 n (fun j => .int (f j))) (j := i) (by show (i < 0 ∨ (arrV _ _ _).slots.size ≤ _); rw [arrV_size]; exact Classical.byContradiction hout) (g := F0 m pc ls (.int i :: .ref a :: rest)) rfl (rest := rest) rfl (by rw [hb]; exact hdg) t
  simp only [arrV_size] at h1
  exact h1 st
theorem vx_bastZ {D : va_G} {cl : List vw_C} {ws : va_W} {tys : List (ClassId × FieldType)} {a : Nat} (hexec : p.tables.exec = Jvm.exec) (hb : c.code = cc) (hK : va_K D cl tys s) (hP : va_P D cl ws H) (q0 t0 : Nat) {cA : ClassId} {n : Nat} {f : Nat → Int32} (ha : ws[q0]? = some (a, .inl (cA, n, .inl f))) (ht : tys[t0]? = some (cA, .byte)) {i : Int32} {x : Int32} (hout : ¬ vp_in i n) (hdg : decode cc pc = .ok (.bastore, 1))
    (k : ∀ tx : String, tx = (toString "Index " ++ toString i ++ toString " out of bounds for length " ++ toString n : String) → vx_Note p l e R s m args below meth c H locs cells slots Q (F0 m pc ls rest) "java/lang/ArrayIndexOutOfBoundsException" tx) : W p l e R s m args below meth c H locs cells slots Q (F0 m pc ls (.int x :: .int i :: .ref a :: rest)) := by
  intro T hT X
  obtain ⟨t, st, q⟩ := k _ rfl T hT X
  refine ⟨t, ?_, q⟩
  have h1 := X.bastoreOut hexec (by rw [hT]; exact hP q0 _ ha) ((hK.2 t0 _ ht).1 n (fun j => .int (f j))) (j := i) (by show (i < 0 ∨ (arrV _ _ _).slots.size ≤ _); rw [arrV_size]; exact Classical.byContradiction hout) (g := F0 m pc ls (.int x :: .int i :: .ref a :: rest)) rfl (rest := rest) rfl (by rw [hb]; exact hdg) t
  simp only [arrV_size] at h1
  exact h1 st
theorem vx_zaldZ {D : va_G} {cl : List vw_C} {ws : va_W} {tys : List (ClassId × FieldType)} {a : Nat} (hexec : p.tables.exec = Jvm.exec) (hb : c.code = cc) (hK : va_K D cl tys s) (hP : va_P D cl ws H) (q0 t0 : Nat) {cA : ClassId} {n : Nat} {f : Nat → Int32} (ha : ws[q0]? = some (a, .inl (cA, n, .inl f))) (ht : tys[t0]? = some (cA, .boolean)) {i : Int32} (hout : ¬ vp_in i n) (hdg : decode cc pc = .ok (.baload, 1))
    (k : ∀ tx : String, tx = (toString "Index " ++ toString i ++ toString " out of bounds for length " ++ toString n : String) → vx_Note p l e R s m args below meth c H locs cells slots Q (F0 m pc ls rest) "java/lang/ArrayIndexOutOfBoundsException" tx) : W p l e R s m args below meth c H locs cells slots Q (F0 m pc ls (.int i :: .ref a :: rest)) := by
  intro T hT X
  obtain ⟨t, st, q⟩ := k _ rfl T hT X
  refine ⟨t, ?_, q⟩
  have h1 := X.baloadOut hexec (by rw [hT]; exact hP q0 _ ha) ((hK.2 t0 _ ht).1 n (fun j => .int (f j))) (j := i) (by show (i < 0 ∨ (arrV _ _ _).slots.size ≤ _); rw [arrV_size]; exact Classical.byContradiction hout) (g := F0 m pc ls (.int i :: .ref a :: rest)) rfl (rest := rest) rfl (by rw [hb]; exact hdg) t
  simp only [arrV_size] at h1
  exact h1 st
theorem vx_zastZ {D : va_G} {cl : List vw_C} {ws : va_W} {tys : List (ClassId × FieldType)} {a : Nat} (hexec : p.tables.exec = Jvm.exec) (hb : c.code = cc) (hK : va_K D cl tys s) (hP : va_P D cl ws H) (q0 t0 : Nat) {cA : ClassId} {n : Nat} {f : Nat → Int32} (ha : ws[q0]? = some (a, .inl (cA, n, .inl f))) (ht : tys[t0]? = some (cA, .boolean)) {i : Int32} {x : Int32} (hout : ¬ vp_in i n) (hdg : decode cc pc = .ok (.bastore, 1))
    (k : ∀ tx : String, tx = (toString "Index " ++ toString i ++ toString " out of bounds for length " ++ toString n : String) → vx_Note p l e R s m args below meth c H locs cells slots Q (F0 m pc ls rest) "java/lang/ArrayIndexOutOfBoundsException" tx) : W p l e R s m args below meth c H locs cells slots Q (F0 m pc ls (.int x :: .int i :: .ref a :: rest)) := by
  intro T hT X
  obtain ⟨t, st, q⟩ := k _ rfl T hT X
  refine ⟨t, ?_, q⟩
  have h1 := X.bastoreOut hexec (by rw [hT]; exact hP q0 _ ha) ((hK.2 t0 _ ht).1 n (fun j => .int (f j))) (j := i) (by show (i < 0 ∨ (arrV _ _ _).slots.size ≤ _); rw [arrV_size]; exact Classical.byContradiction hout) (g := F0 m pc ls (.int x :: .int i :: .ref a :: rest)) rfl (rest := rest) rfl (by rw [hb]; exact hdg) t
  simp only [arrV_size] at h1
  exact h1 st
theorem vx_caldZ {D : va_G} {cl : List vw_C} {ws : va_W} {tys : List (ClassId × FieldType)} {a : Nat} (hexec : p.tables.exec = Jvm.exec) (hb : c.code = cc) (hK : va_K D cl tys s) (hP : va_P D cl ws H) (q0 t0 : Nat) {cA : ClassId} {n : Nat} {f : Nat → Int32} (ha : ws[q0]? = some (a, .inl (cA, n, .inl f))) (ht : tys[t0]? = some (cA, .char)) {i : Int32} (hout : ¬ vp_in i n) (hdg : decode cc pc = .ok (.caload, 1))
    (k : ∀ tx : String, tx = (toString "Index " ++ toString i ++ toString " out of bounds for length " ++ toString n : String) → vx_Note p l e R s m args below meth c H locs cells slots Q (F0 m pc ls rest) "java/lang/ArrayIndexOutOfBoundsException" tx) : W p l e R s m args below meth c H locs cells slots Q (F0 m pc ls (.int i :: .ref a :: rest)) := by
  intro T hT X
  obtain ⟨t, st, q⟩ := k _ rfl T hT X
  refine ⟨t, ?_, q⟩
  have h1 := X.caloadOut hexec (by rw [hT]; exact hP q0 _ ha) ((hK.2 t0 _ ht).1 n (fun j => .int (f j))) (j := i) (by show (i < 0 ∨ (arrV _ _ _).slots.size ≤ _); rw [arrV_size]; exact Classical.byContradiction hout) (g := F0 m pc ls (.int i :: .ref a :: rest)) rfl (rest := rest) rfl (by rw [hb]; exact hdg) t
  simp only [arrV_size] at h1
  exact h1 st
theorem vx_castZ {D : va_G} {cl : List vw_C} {ws : va_W} {tys : List (ClassId × FieldType)} {a : Nat} (hexec : p.tables.exec = Jvm.exec) (hb : c.code = cc) (hK : va_K D cl tys s) (hP : va_P D cl ws H) (q0 t0 : Nat) {cA : ClassId} {n : Nat} {f : Nat → Int32} (ha : ws[q0]? = some (a, .inl (cA, n, .inl f))) (ht : tys[t0]? = some (cA, .char)) {i : Int32} {x : Int32} (hout : ¬ vp_in i n) (hdg : decode cc pc = .ok (.castore, 1))
    (k : ∀ tx : String, tx = (toString "Index " ++ toString i ++ toString " out of bounds for length " ++ toString n : String) → vx_Note p l e R s m args below meth c H locs cells slots Q (F0 m pc ls rest) "java/lang/ArrayIndexOutOfBoundsException" tx) : W p l e R s m args below meth c H locs cells slots Q (F0 m pc ls (.int x :: .int i :: .ref a :: rest)) := by
  intro T hT X
  obtain ⟨t, st, q⟩ := k _ rfl T hT X
  refine ⟨t, ?_, q⟩
  have h1 := X.castoreOut hexec (by rw [hT]; exact hP q0 _ ha) ((hK.2 t0 _ ht).1 n (fun j => .int (f j))) (j := i) (by show (i < 0 ∨ (arrV _ _ _).slots.size ≤ _); rw [arrV_size]; exact Classical.byContradiction hout) (g := F0 m pc ls (.int x :: .int i :: .ref a :: rest)) rfl (rest := rest) rfl (by rw [hb]; exact hdg) t
  simp only [arrV_size] at h1
  exact h1 st
theorem vx_saldZ {D : va_G} {cl : List vw_C} {ws : va_W} {tys : List (ClassId × FieldType)} {a : Nat} (hexec : p.tables.exec = Jvm.exec) (hb : c.code = cc) (hK : va_K D cl tys s) (hP : va_P D cl ws H) (q0 t0 : Nat) {cA : ClassId} {n : Nat} {f : Nat → Int32} (ha : ws[q0]? = some (a, .inl (cA, n, .inl f))) (ht : tys[t0]? = some (cA, .short)) {i : Int32} (hout : ¬ vp_in i n) (hdg : decode cc pc = .ok (.saload, 1))
    (k : ∀ tx : String, tx = (toString "Index " ++ toString i ++ toString " out of bounds for length " ++ toString n : String) → vx_Note p l e R s m args below meth c H locs cells slots Q (F0 m pc ls rest) "java/lang/ArrayIndexOutOfBoundsException" tx) : W p l e R s m args below meth c H locs cells slots Q (F0 m pc ls (.int i :: .ref a :: rest)) := by
  intro T hT X
  obtain ⟨t, st, q⟩ := k _ rfl T hT X
  refine ⟨t, ?_, q⟩
  have h1 := X.saloadOut hexec (by rw [hT]; exact hP q0 _ ha) ((hK.2 t0 _ ht).1 n (fun j => .int (f j))) (j := i) (by show (i < 0 ∨ (arrV _ _ _).slots.size ≤ _); rw [arrV_size]; exact Classical.byContradiction hout) (g := F0 m pc ls (.int i :: .ref a :: rest)) rfl (rest := rest) rfl (by rw [hb]; exact hdg) t
  simp only [arrV_size] at h1
  exact h1 st
theorem vx_sastZ {D : va_G} {cl : List vw_C} {ws : va_W} {tys : List (ClassId × FieldType)} {a : Nat} (hexec : p.tables.exec = Jvm.exec) (hb : c.code = cc) (hK : va_K D cl tys s) (hP : va_P D cl ws H) (q0 t0 : Nat) {cA : ClassId} {n : Nat} {f : Nat → Int32} (ha : ws[q0]? = some (a, .inl (cA, n, .inl f))) (ht : tys[t0]? = some (cA, .short)) {i : Int32} {x : Int32} (hout : ¬ vp_in i n) (hdg : decode cc pc = .ok (.sastore, 1))
    (k : ∀ tx : String, tx = (toString "Index " ++ toString i ++ toString " out of bounds for length " ++ toString n : String) → vx_Note p l e R s m args below meth c H locs cells slots Q (F0 m pc ls rest) "java/lang/ArrayIndexOutOfBoundsException" tx) : W p l e R s m args below meth c H locs cells slots Q (F0 m pc ls (.int x :: .int i :: .ref a :: rest)) := by
  intro T hT X
  obtain ⟨t, st, q⟩ := k _ rfl T hT X
  refine ⟨t, ?_, q⟩
  have h1 := X.sastoreOut hexec (by rw [hT]; exact hP q0 _ ha) ((hK.2 t0 _ ht).1 n (fun j => .int (f j))) (j := i) (by show (i < 0 ∨ (arrV _ _ _).slots.size ≤ _); rw [arrV_size]; exact Classical.byContradiction hout) (g := F0 m pc ls (.int x :: .int i :: .ref a :: rest)) rfl (rest := rest) rfl (by rw [hb]; exact hdg) t
  simp only [arrV_size] at h1
  exact h1 st
theorem vx_laldZ {D : va_G} {cl : List vw_C} {ws : va_W} {tys : List (ClassId × FieldType)} {a : Nat} (hexec : p.tables.exec = Jvm.exec) (hb : c.code = cc) (hK : va_K D cl tys s) (hP : va_P D cl ws H) (q0 t0 : Nat) {cA : ClassId} {n : Nat} {f : Nat → Int64} (ha : ws[q0]? = some (a, .inl (cA, n, .inr (.inl f)))) (ht : tys[t0]? = some (cA, .long)) {i : Int32} (hout : ¬ vp_in i n) (hdg : decode cc pc = .ok (.laload, 1))
    (k : ∀ tx : String, tx = (toString "Index " ++ toString i ++ toString " out of bounds for length " ++ toString n : String) → vx_Note p l e R s m args below meth c H locs cells slots Q (F0 m pc ls rest) "java/lang/ArrayIndexOutOfBoundsException" tx) : W p l e R s m args below meth c H locs cells slots Q (F0 m pc ls (.int i :: .ref a :: rest)) := by
  intro T hT X
  obtain ⟨t, st, q⟩ := k _ rfl T hT X
  refine ⟨t, ?_, q⟩
  have h1 := X.laloadOut hexec (by rw [hT]; exact hP q0 _ ha) ((hK.2 t0 _ ht).1 n (fun j => .long (f j))) (j := i) (by show (i < 0 ∨ (arrV _ _ _).slots.size ≤ _); rw [arrV_size]; exact Classical.byContradiction hout) (g := F0 m pc ls (.int i :: .ref a :: rest)) rfl (rest := rest) rfl (by rw [hb]; exact hdg) t
  simp only [arrV_size] at h1
  exact h1 st
theorem vx_lastZ {D : va_G} {cl : List vw_C} {ws : va_W} {tys : List (ClassId × FieldType)} {a : Nat} (hexec : p.tables.exec = Jvm.exec) (hb : c.code = cc) (hK : va_K D cl tys s) (hP : va_P D cl ws H) (q0 t0 : Nat) {cA : ClassId} {n : Nat} {f : Nat → Int64} (ha : ws[q0]? = some (a, .inl (cA, n, .inr (.inl f)))) (ht : tys[t0]? = some (cA, .long)) {i : Int32} {x : Int64} (hout : ¬ vp_in i n) (hdg : decode cc pc = .ok (.lastore, 1))
    (k : ∀ tx : String, tx = (toString "Index " ++ toString i ++ toString " out of bounds for length " ++ toString n : String) → vx_Note p l e R s m args below meth c H locs cells slots Q (F0 m pc ls rest) "java/lang/ArrayIndexOutOfBoundsException" tx) : W p l e R s m args below meth c H locs cells slots Q (F0 m pc ls (.long x :: .int i :: .ref a :: rest)) := by
  intro T hT X
  obtain ⟨t, st, q⟩ := k _ rfl T hT X
  refine ⟨t, ?_, q⟩
  have h1 := X.lastoreOut hexec (by rw [hT]; exact hP q0 _ ha) ((hK.2 t0 _ ht).1 n (fun j => .long (f j))) (j := i) (by show (i < 0 ∨ (arrV _ _ _).slots.size ≤ _); rw [arrV_size]; exact Classical.byContradiction hout) (g := F0 m pc ls (.long x :: .int i :: .ref a :: rest)) rfl (rest := rest) rfl (by rw [hb]; exact hdg) t
  simp only [arrV_size] at h1
  exact h1 st
theorem vx_faldZ {D : va_G} {cl : List vw_C} {ws : va_W} {tys : List (ClassId × FieldType)} {a : Nat} (hexec : p.tables.exec = Jvm.exec) (hb : c.code = cc) (hK : va_K D cl tys s) (hP : va_P D cl ws H) (q0 t0 : Nat) {cA : ClassId} {n : Nat} {f : Nat → UInt32} (ha : ws[q0]? = some (a, .inl (cA, n, .inr (.inr (.inl f))))) (ht : tys[t0]? = some (cA, .float)) {i : Int32} (hout : ¬ vp_in i n) (hdg : decode cc pc = .ok (.faload, 1))
    (k : ∀ tx : String, tx = (toString "Index " ++ toString i ++ toString " out of bounds for length " ++ toString n : String) → vx_Note p l e R s m args below meth c H locs cells slots Q (F0 m pc ls rest) "java/lang/ArrayIndexOutOfBoundsException" tx) : W p l e R s m args below meth c H locs cells slots Q (F0 m pc ls (.int i :: .ref a :: rest)) := by
  intro T hT X
  obtain ⟨t, st, q⟩ := k _ rfl T hT X
  refine ⟨t, ?_, q⟩
  have h1 := X.faloadOut hexec (by rw [hT]; exact hP q0 _ ha) ((hK.2 t0 _ ht).1 n (fun j => .float (f j))) (j := i) (by show (i < 0 ∨ (arrV _ _ _).slots.size ≤ _); rw [arrV_size]; exact Classical.byContradiction hout) (g := F0 m pc ls (.int i :: .ref a :: rest)) rfl (rest := rest) rfl (by rw [hb]; exact hdg) t
  simp only [arrV_size] at h1
  exact h1 st
theorem vx_fastZ {D : va_G} {cl : List vw_C} {ws : va_W} {tys : List (ClassId × FieldType)} {a : Nat} (hexec : p.tables.exec = Jvm.exec) (hb : c.code = cc) (hK : va_K D cl tys s) (hP : va_P D cl ws H) (q0 t0 : Nat) {cA : ClassId} {n : Nat} {f : Nat → UInt32} (ha : ws[q0]? = some (a, .inl (cA, n, .inr (.inr (.inl f))))) (ht : tys[t0]? = some (cA, .float)) {i : Int32} {x : UInt32} (hout : ¬ vp_in i n) (hdg : decode cc pc = .ok (.fastore, 1))
    (k : ∀ tx : String, tx = (toString "Index " ++ toString i ++ toString " out of bounds for length " ++ toString n : String) → vx_Note p l e R s m args below meth c H locs cells slots Q (F0 m pc ls rest) "java/lang/ArrayIndexOutOfBoundsException" tx) : W p l e R s m args below meth c H locs cells slots Q (F0 m pc ls (.float x :: .int i :: .ref a :: rest)) := by
  intro T hT X
  obtain ⟨t, st, q⟩ := k _ rfl T hT X
  refine ⟨t, ?_, q⟩
  have h1 := X.fastoreOut hexec (by rw [hT]; exact hP q0 _ ha) ((hK.2 t0 _ ht).1 n (fun j => .float (f j))) (j := i) (by show (i < 0 ∨ (arrV _ _ _).slots.size ≤ _); rw [arrV_size]; exact Classical.byContradiction hout) (g := F0 m pc ls (.float x :: .int i :: .ref a :: rest)) rfl (rest := rest) rfl (by rw [hb]; exact hdg) t
  simp only [arrV_size] at h1
  exact h1 st
theorem vx_daldZ {D : va_G} {cl : List vw_C} {ws : va_W} {tys : List (ClassId × FieldType)} {a : Nat} (hexec : p.tables.exec = Jvm.exec) (hb : c.code = cc) (hK : va_K D cl tys s) (hP : va_P D cl ws H) (q0 t0 : Nat) {cA : ClassId} {n : Nat} {f : Nat → UInt64} (ha : ws[q0]? = some (a, .inl (cA, n, .inr (.inr (.inr (.inl f)))))) (ht : tys[t0]? = some (cA, .double)) {i : Int32} (hout : ¬ vp_in i n) (hdg : decode cc pc = .ok (.daload, 1))
    (k : ∀ tx : String, tx = (toString "Index " ++ toString i ++ toString " out of bounds for length " ++ toString n : String) → vx_Note p l e R s m args below meth c H locs cells slots Q (F0 m pc ls rest) "java/lang/ArrayIndexOutOfBoundsException" tx) : W p l e R s m args below meth c H locs cells slots Q (F0 m pc ls (.int i :: .ref a :: rest)) := by
  intro T hT X
  obtain ⟨t, st, q⟩ := k _ rfl T hT X
  refine ⟨t, ?_, q⟩
  have h1 := X.daloadOut hexec (by rw [hT]; exact hP q0 _ ha) ((hK.2 t0 _ ht).1 n (fun j => .double (f j))) (j := i) (by show (i < 0 ∨ (arrV _ _ _).slots.size ≤ _); rw [arrV_size]; exact Classical.byContradiction hout) (g := F0 m pc ls (.int i :: .ref a :: rest)) rfl (rest := rest) rfl (by rw [hb]; exact hdg) t
  simp only [arrV_size] at h1
  exact h1 st
theorem vx_dastZ {D : va_G} {cl : List vw_C} {ws : va_W} {tys : List (ClassId × FieldType)} {a : Nat} (hexec : p.tables.exec = Jvm.exec) (hb : c.code = cc) (hK : va_K D cl tys s) (hP : va_P D cl ws H) (q0 t0 : Nat) {cA : ClassId} {n : Nat} {f : Nat → UInt64} (ha : ws[q0]? = some (a, .inl (cA, n, .inr (.inr (.inr (.inl f)))))) (ht : tys[t0]? = some (cA, .double)) {i : Int32} {x : UInt64} (hout : ¬ vp_in i n) (hdg : decode cc pc = .ok (.dastore, 1))
    (k : ∀ tx : String, tx = (toString "Index " ++ toString i ++ toString " out of bounds for length " ++ toString n : String) → vx_Note p l e R s m args below meth c H locs cells slots Q (F0 m pc ls rest) "java/lang/ArrayIndexOutOfBoundsException" tx) : W p l e R s m args below meth c H locs cells slots Q (F0 m pc ls (.double x :: .int i :: .ref a :: rest)) := by
  intro T hT X
  obtain ⟨t, st, q⟩ := k _ rfl T hT X
  refine ⟨t, ?_, q⟩
  have h1 := X.dastoreOut hexec (by rw [hT]; exact hP q0 _ ha) ((hK.2 t0 _ ht).1 n (fun j => .double (f j))) (j := i) (by show (i < 0 ∨ (arrV _ _ _).slots.size ≤ _); rw [arrV_size]; exact Classical.byContradiction hout) (g := F0 m pc ls (.double x :: .int i :: .ref a :: rest)) rfl (rest := rest) rfl (by rw [hb]; exact hdg) t
  simp only [arrV_size] at h1
  exact h1 st
theorem vx_arraylengthN (hexec : p.tables.exec = Jvm.exec) (hb : c.code = cc) (hdg : decode cc pc = .ok (.arraylength, 1)) (k : vx_NoteN p l e R s m args below meth c H locs cells slots Q (F0 m pc ls rest)) : W p l e R s m args below meth c H locs cells slots Q (F0 m pc ls (.null :: rest)) := by
  intro T hT X
  obtain ⟨t, st, q⟩ := k T hT X
  exact ⟨t, X.arraylengthNull hexec (g := F0 m pc ls (.null :: rest)) rfl (rest := rest) rfl (by rw [hb]; exact hdg) t st, q⟩
theorem vx_ialoadN (hexec : p.tables.exec = Jvm.exec) (hb : c.code = cc) {i : Int32} (hdg : decode cc pc = .ok (.iaload, 1)) (k : vx_NoteN p l e R s m args below meth c H locs cells slots Q (F0 m pc ls rest)) : W p l e R s m args below meth c H locs cells slots Q (F0 m pc ls (.int i :: .null :: rest)) := by
  intro T hT X
  obtain ⟨t, st, q⟩ := k T hT X
  exact ⟨t, X.ialoadNull hexec (g := F0 m pc ls (.int i :: .null :: rest)) rfl (rest := rest) rfl (by rw [hb]; exact hdg) t st, q⟩
theorem vx_laloadN (hexec : p.tables.exec = Jvm.exec) (hb : c.code = cc) {i : Int32} (hdg : decode cc pc = .ok (.laload, 1)) (k : vx_NoteN p l e R s m args below meth c H locs cells slots Q (F0 m pc ls rest)) : W p l e R s m args below meth c H locs cells slots Q (F0 m pc ls (.int i :: .null :: rest)) := by
  intro T hT X
  obtain ⟨t, st, q⟩ := k T hT X
  exact ⟨t, X.laloadNull hexec (g := F0 m pc ls (.int i :: .null :: rest)) rfl (rest := rest) rfl (by rw [hb]; exact hdg) t st, q⟩
theorem vx_faloadN (hexec : p.tables.exec = Jvm.exec) (hb : c.code = cc) {i : Int32} (hdg : decode cc pc = .ok (.faload, 1)) (k : vx_NoteN p l e R s m args below meth c H locs cells slots Q (F0 m pc ls rest)) : W p l e R s m args below meth c H locs cells slots Q (F0 m pc ls (.int i :: .null :: rest)) := by
  intro T hT X
  obtain ⟨t, st, q⟩ := k T hT X
  exact ⟨t, X.faloadNull hexec (g := F0 m pc ls (.int i :: .null :: rest)) rfl (rest := rest) rfl (by rw [hb]; exact hdg) t st, q⟩
theorem vx_daloadN (hexec : p.tables.exec = Jvm.exec) (hb : c.code = cc) {i : Int32} (hdg : decode cc pc = .ok (.daload, 1)) (k : vx_NoteN p l e R s m args below meth c H locs cells slots Q (F0 m pc ls rest)) : W p l e R s m args below meth c H locs cells slots Q (F0 m pc ls (.int i :: .null :: rest)) := by
  intro T hT X
  obtain ⟨t, st, q⟩ := k T hT X
  exact ⟨t, X.daloadNull hexec (g := F0 m pc ls (.int i :: .null :: rest)) rfl (rest := rest) rfl (by rw [hb]; exact hdg) t st, q⟩
theorem vx_aaloadN (hexec : p.tables.exec = Jvm.exec) (hb : c.code = cc) {i : Int32} (hdg : decode cc pc = .ok (.aaload, 1)) (k : vx_NoteN p l e R s m args below meth c H locs cells slots Q (F0 m pc ls rest)) : W p l e R s m args below meth c H locs cells slots Q (F0 m pc ls (.int i :: .null :: rest)) := by
  intro T hT X
  obtain ⟨t, st, q⟩ := k T hT X
  exact ⟨t, X.aaloadNull hexec (g := F0 m pc ls (.int i :: .null :: rest)) rfl (rest := rest) rfl (by rw [hb]; exact hdg) t st, q⟩
theorem vx_baloadN (hexec : p.tables.exec = Jvm.exec) (hb : c.code = cc) {i : Int32} (hdg : decode cc pc = .ok (.baload, 1)) (k : vx_NoteN p l e R s m args below meth c H locs cells slots Q (F0 m pc ls rest)) : W p l e R s m args below meth c H locs cells slots Q (F0 m pc ls (.int i :: .null :: rest)) := by
  intro T hT X
  obtain ⟨t, st, q⟩ := k T hT X
  exact ⟨t, X.baloadNull hexec (g := F0 m pc ls (.int i :: .null :: rest)) rfl (rest := rest) rfl (by rw [hb]; exact hdg) t st, q⟩
theorem vx_caloadN (hexec : p.tables.exec = Jvm.exec) (hb : c.code = cc) {i : Int32} (hdg : decode cc pc = .ok (.caload, 1)) (k : vx_NoteN p l e R s m args below meth c H locs cells slots Q (F0 m pc ls rest)) : W p l e R s m args below meth c H locs cells slots Q (F0 m pc ls (.int i :: .null :: rest)) := by
  intro T hT X
  obtain ⟨t, st, q⟩ := k T hT X
  exact ⟨t, X.caloadNull hexec (g := F0 m pc ls (.int i :: .null :: rest)) rfl (rest := rest) rfl (by rw [hb]; exact hdg) t st, q⟩
theorem vx_saloadN (hexec : p.tables.exec = Jvm.exec) (hb : c.code = cc) {i : Int32} (hdg : decode cc pc = .ok (.saload, 1)) (k : vx_NoteN p l e R s m args below meth c H locs cells slots Q (F0 m pc ls rest)) : W p l e R s m args below meth c H locs cells slots Q (F0 m pc ls (.int i :: .null :: rest)) := by
  intro T hT X
  obtain ⟨t, st, q⟩ := k T hT X
  exact ⟨t, X.saloadNull hexec (g := F0 m pc ls (.int i :: .null :: rest)) rfl (rest := rest) rfl (by rw [hb]; exact hdg) t st, q⟩
theorem vx_iastoreN (hexec : p.tables.exec = Jvm.exec) (hb : c.code = cc) {x : Int32} {i : Int32} (hdg : decode cc pc = .ok (.iastore, 1)) (k : vx_NoteN p l e R s m args below meth c H locs cells slots Q (F0 m pc ls rest)) : W p l e R s m args below meth c H locs cells slots Q (F0 m pc ls (.int x :: .int i :: .null :: rest)) := by
  intro T hT X
  obtain ⟨t, st, q⟩ := k T hT X
  exact ⟨t, X.iastoreNull hexec (g := F0 m pc ls (.int x :: .int i :: .null :: rest)) rfl (rest := rest) rfl (by rw [hb]; exact hdg) t st, q⟩
theorem vx_lastoreN (hexec : p.tables.exec = Jvm.exec) (hb : c.code = cc) {x : Int64} {i : Int32} (hdg : decode cc pc = .ok (.lastore, 1)) (k : vx_NoteN p l e R s m args below meth c H locs cells slots Q (F0 m pc ls rest)) : W p l e R s m args below meth c H locs cells slots Q (F0 m pc ls (.long x :: .int i :: .null :: rest)) := by
  intro T hT X
  obtain ⟨t, st, q⟩ := k T hT X
  exact ⟨t, X.lastoreNull hexec (g := F0 m pc ls (.long x :: .int i :: .null :: rest)) rfl (rest := rest) rfl (by rw [hb]; exact hdg) t st, q⟩
theorem vx_fastoreN (hexec : p.tables.exec = Jvm.exec) (hb : c.code = cc) {x : UInt32} {i : Int32} (hdg : decode cc pc = .ok (.fastore, 1)) (k : vx_NoteN p l e R s m args below meth c H locs cells slots Q (F0 m pc ls rest)) : W p l e R s m args below meth c H locs cells slots Q (F0 m pc ls (.float x :: .int i :: .null :: rest)) := by
  intro T hT X
  obtain ⟨t, st, q⟩ := k T hT X
  exact ⟨t, X.fastoreNull hexec (g := F0 m pc ls (.float x :: .int i :: .null :: rest)) rfl (rest := rest) rfl (by rw [hb]; exact hdg) t st, q⟩
theorem vx_dastoreN (hexec : p.tables.exec = Jvm.exec) (hb : c.code = cc) {x : UInt64} {i : Int32} (hdg : decode cc pc = .ok (.dastore, 1)) (k : vx_NoteN p l e R s m args below meth c H locs cells slots Q (F0 m pc ls rest)) : W p l e R s m args below meth c H locs cells slots Q (F0 m pc ls (.double x :: .int i :: .null :: rest)) := by
  intro T hT X
  obtain ⟨t, st, q⟩ := k T hT X
  exact ⟨t, X.dastoreNull hexec (g := F0 m pc ls (.double x :: .int i :: .null :: rest)) rfl (rest := rest) rfl (by rw [hb]; exact hdg) t st, q⟩
theorem vx_bastoreN (hexec : p.tables.exec = Jvm.exec) (hb : c.code = cc) {x : Int32} {i : Int32} (hdg : decode cc pc = .ok (.bastore, 1)) (k : vx_NoteN p l e R s m args below meth c H locs cells slots Q (F0 m pc ls rest)) : W p l e R s m args below meth c H locs cells slots Q (F0 m pc ls (.int x :: .int i :: .null :: rest)) := by
  intro T hT X
  obtain ⟨t, st, q⟩ := k T hT X
  exact ⟨t, X.bastoreNull hexec (g := F0 m pc ls (.int x :: .int i :: .null :: rest)) rfl (rest := rest) rfl (by rw [hb]; exact hdg) t st, q⟩
theorem vx_castoreN (hexec : p.tables.exec = Jvm.exec) (hb : c.code = cc) {x : Int32} {i : Int32} (hdg : decode cc pc = .ok (.castore, 1)) (k : vx_NoteN p l e R s m args below meth c H locs cells slots Q (F0 m pc ls rest)) : W p l e R s m args below meth c H locs cells slots Q (F0 m pc ls (.int x :: .int i :: .null :: rest)) := by
  intro T hT X
  obtain ⟨t, st, q⟩ := k T hT X
  exact ⟨t, X.castoreNull hexec (g := F0 m pc ls (.int x :: .int i :: .null :: rest)) rfl (rest := rest) rfl (by rw [hb]; exact hdg) t st, q⟩
theorem vx_sastoreN (hexec : p.tables.exec = Jvm.exec) (hb : c.code = cc) {x : Int32} {i : Int32} (hdg : decode cc pc = .ok (.sastore, 1)) (k : vx_NoteN p l e R s m args below meth c H locs cells slots Q (F0 m pc ls rest)) : W p l e R s m args below meth c H locs cells slots Q (F0 m pc ls (.int x :: .int i :: .null :: rest)) := by
  intro T hT X
  obtain ⟨t, st, q⟩ := k T hT X
  exact ⟨t, X.sastoreNull hexec (g := F0 m pc ls (.int x :: .int i :: .null :: rest)) rfl (rest := rest) rfl (by rw [hb]; exact hdg) t st, q⟩
theorem vx_invokeN {own C : String} {index maxL : Nat} {y : MethodName} {bytes : ByteArray} {ret : Option FieldType} (hexec : p.tables.exec = Jvm.exec) (hb : c.code = cc) (hown : s.vm.findClass own = some m.cls) (hlink : (Cond.methodLink own index y).before args s = true) (hinst : (Cond.instanceMethod y).before args s = true) (hcode : (Cond.code y bytes maxL ret).before args s = true) (hsel : (Cond.selects C y y).before args s = true)
    (hx : y.cls ≠ "java/lang/invoke/MethodHandle" ∧ y.cls ≠ "java/lang/invoke/VarHandle") {As : List Value} (hlen : (parseMethodDescriptor y.desc).map (fun d => d.parameters.length) = some As.length) (hdg : decode cc pc = .ok (.invokevirtual index, 3))
    (k : vx_NoteN p l e R s m args below meth c H locs cells slots Q (F0 m pc ls rest)) {st0 : List Value} (hst : st0 = As.reverse ++ .null :: rest) : W p l e R s m args below meth c H locs cells slots Q (F0 m pc ls st0) := by
  intro T hT X
  obtain ⟨r0, r, hn, hrm, hstR, hsigR⟩ := va_Decl.of hinst hcode
  obtain ⟨c2, r2, m2, q1, q2, q3, q4, kP, hkP, hkPi⟩ := Cond.selects_spec hsel
  cases hn.symm.trans q3
  have hl9 : As.length = r.sig.parameters.length := by
    rw [hsigR] at hlen
    exact (Option.some.inj hlen).symm
  obtain ⟨vm', X1, st1⟩ := X.invokevirtualNull hexec hown hlink hn hrm hstR hkP hkPi hx (g := F0 m pc ls st0) rfl (argsL := As) (rest := rest) hl9 hst (by rw [hb]; exact hdg)
  obtain ⟨t, st, q⟩ := k (T.setVm vm') hT X1
  exact ⟨t, st1 t st, q⟩
theorem vx_newarrayZ {atype : ArrayType} (hexec : p.tables.exec = Jvm.exec) (hb : c.code = cc) {n : Int32} (h0 : n < 0) (hdg : decode cc pc = .ok (.newarray atype, 2)) (k : ∀ tx : String, tx = toString n → vx_Note p l e R s m args below meth c H locs cells slots Q (F0 m pc ls rest) "java/lang/NegativeArraySizeException" tx) : W p l e R s m args below meth c H locs cells slots Q (F0 m pc ls (.int n :: rest)) := by
  intro T hT X
  obtain ⟨t, st, q⟩ := k _ rfl T hT X
  exact ⟨t, X.newarrayNegative hexec (g := F0 m pc ls (.int n :: rest)) rfl h0 (rest := rest) rfl (by rw [hb]; exact hdg) t st, q⟩
end
end VXM
/-! ===== END ===== -/
/-! ===== BEGIN an exception as an object: made, kept, thrown later (no traces kept) ===== -/
section VXK
variable {p : Program} {l : Launch} {e : Env} {R : Room} {s : State} {m₀ : MethodId} {args : Array Value} {below : List Frame} {meth : Method} {c : Code} {W : State} {locs : List Loc} {cells slots : Nat}
set_option maxHeartbeats 1000000 in
theorem vx_ctorMadeS (X : Stand p l e R s m₀ args below meth c W locs cells slots) (hexec : p.tables.exec = Jvm.exec) (htr : e.platform.stackTraces = false) {own cls : String} {names : List String} {ic : Nat}
    (hown : s.vm.findClass own = some m₀.cls) (hcls : Bundle.fit cls = true) (hnames : ∀ n ∈ names, Bundle.fit n = true)
    (h : ∀ a ∈ Bundle.ownAtoms own ic cls names, a.before args s = true)
    (hlocs : ∀ x ∈ locs, ∀ cell, s.heap[x.base]? = some cell → cell.vm.isStatics = false)
    {a : Addr} {cX : ClassId} {kX : Class} (hfoundX : s.vm.findClass cls = some cX) (hkX : s.vm.classes[cX]? = some kX) (hcell : W.heap[a]? = some (freshCell cX kX)) (hnew : s.heap.size ≤ a)
    {msg : Value} (hmsg : msg.isRef = true)
    {g : JFrame} (hg : g.method = m₀) (hsize : g.locals.size = c.maxLocals) {rest : List Value} (hstack : g.stack = msg :: .ref a :: .ref a :: rest)
    (hd6 : decode c.code g.pc = .ok (.invokespecial ic, 3))
    (hRframes : names.length + 3 < R.frames) (hRlocals : 2 * g.monitorRoom + ((Value.ref a :: rest).map fun v => v.category).sum + (13 * (names.length + 1) + 42) ≤ R.locals) :
    ∃ (V : State) (ce : Cell) (L : List Loc), Stand p l e R s m₀ args below meth c (V.setCell a ce) (locs ++ L) cells slots ∧ (∀ y ∈ L, y.base = a) ∧ a < V.heap.size ∧ ce.cls = cX ∧ ce.vm = .none ∧
      ∀ target, Steps p.tables e below ((V.setCell a ce).setTop { g with stack := .ref a :: rest, pc := g.pc + 3 }) target → Steps p.tables e below (W.setTop g) target := by
  have howns : e.platform.frameOwnsMonitors = true := by rw [X.admits.platform]
  have hfin : e.platform.finalization = false := by rw [X.admits.platform]
  have hpl : e.platform.magicAccessors = ({} : Platform).magicAccessors := by rw [X.admits.platform]
  have a' : ∀ x, x ∈ Bundle.ownAtoms own ic cls names → x.holds args s none s [] = true := fun x hx => h x hx
  obtain ⟨T, Z0, L, -, Y⟩ := ThrowableC.of_atoms (args := args) howns hfin hpl (fun x hx => h x (by simp [Bundle.ownAtoms, hx]))
  obtain ⟨Z, M, LZ, LM, hnZ⟩ := Init0T.ofS_atoms (args := args) hpl L Y (fun x hx => h x (by simp [Bundle.ownAtoms, hx]))
  obtain ⟨P1, Ps, hlen, L1, hL, hP1m, hlink1, hlink⟩ := Bundle.chainS (args := args) hpl hnZ names cls hcls hnames (fun x hx => h x (by simp [Bundle.ownAtoms, hx]))
  have hfound : s.vm.findClass cls = some P1.m.cls := findClass_of_methodNamed hP1m
  cases Option.some.inj (hfoundX.symm.trans hfound)
  obtain ⟨c1, kX', hc1, hk, hord, -, -, hn6⟩ := Cond.instantiable_spec (a' (.instantiable cls 6) (by simp [Bundle.ownAtoms]))
  cases Option.some.inj (hc1.symm.trans hfound)
  cases Option.some.inj (hkX.symm.trans hk)
  have hsel0 : selectMethod e.platform s.vm P1.m.cls T.fill0 = .method T.fill0 := by
    obtain ⟨c2, r2, m2, q1, q2, q3, q4, -⟩ := Cond.selects_spec (a' (.selects cls Bundle.tFill0 Bundle.tFill0) (by simp [Bundle.ownAtoms]))
    cases Option.some.inj (q1.symm.trans hfound)
    cases Option.some.inj (q2.symm.trans (State.methodFound?_of_named Y.fill0 (by decide)))
    cases Option.some.inj (q3.symm.trans Y.fill0)
    rw [Launch.admits_selectMethod X.admits]; exact q4
  have hselF : selectMethod e.platform s.vm P1.m.cls T.fill = .method T.fill := by
    obtain ⟨c2, r2, m2, q1, q2, q3, q4, -⟩ := Cond.selects_spec (a' (.selects cls Bundle.tFill Bundle.tFill) (by simp [Bundle.ownAtoms]))
    cases Option.some.inj (q1.symm.trans hfound)
    cases Option.some.inj (q2.symm.trans (State.methodFound?_of_named Y.fill (by decide)))
    cases Option.some.inj (q3.symm.trans Y.fill)
    rw [Launch.admits_selectMethod X.admits]; exact q4
  obtain ⟨cellS0, hcS0, hiss⟩ := Y.statics
  obtain ⟨u0, hu0⟩ := Cond.staticRefV Y.unassigned L.unassignedStatic L.statics hcS0 hiss (a' (.isRef (.static Bundle.tN "UNASSIGNED_STACK" Bundle.steD)) (by simp [Bundle.ownAtoms]))
  obtain ⟨sen, hsen⟩ := Cond.staticRefV Y.sentinel L.sentinelStatic L.statics hcS0 hiss (a' (.isRef (.static Bundle.tN "SUPPRESSED_SENTINEL" Bundle.listD)) (by simp [Bundle.ownAtoms]))
  obtain ⟨ci198, i198, fB, hk198, hg198, ha198, hsB, -, hnB, htB, hffB⟩ := Cond.ownField (t := .object "java/lang/Object") Y.found L.cls (by decide +kernel) (a' (.fieldLink Bundle.tN 198 Bundle.tN "backtrace" "Ljava/lang/Object;") (by simp [Bundle.ownAtoms])) (a' (.lays Bundle.tN Bundle.tN "backtrace" "Ljava/lang/Object;") (by simp [Bundle.ownAtoms])) e.platform hpl
  obtain ⟨cellS, hcS', heS, -, hkeep⟩ := X.same.2.2.2.2.2 T.aS cellS0 hcS0
  have hcellS : W.heap[T.aS]? = some cellS := hcS'
  have hout' : ∀ i, (⟨T.aS, i⟩ : Loc) ∉ locs := fun i hmem => by
    have := hlocs _ hmem cellS0 hcS0
    rw [hiss] at this; cases this
  have hknownS : cellS.vm ≠ .unknown := by
    rw [heS]; intro hu
    rw [show cellS0.vm = .unknown from hu] at hiss
    cases hiss
  have hneS : T.aS ≠ a := Nat.ne_of_lt (Nat.lt_of_lt_of_le (Array.getElem?_eq_some_iff.mp hcS0).1 hnew)
  obtain ⟨iM, hffM⟩ := Y.msg
  obtain ⟨tyC, dC, hdC, hdnC⟩ := Cond.laysAt hfound hk Y.cause (a' (.lays cls Bundle.tN "cause" "Ljava/lang/Throwable;") (by simp [Bundle.ownAtoms]))
  obtain ⟨tyS, dS, hdS, hdnS⟩ := Cond.laysAt hfound hk Y.stack (a' (.lays cls Bundle.tN "stackTrace" Bundle.steD) (by simp [Bundle.ownAtoms]))
  obtain ⟨tyP, dP, hdP, hdnP⟩ := Cond.laysAt hfound hk Y.supp (a' (.lays cls Bundle.tN "suppressedExceptions" Bundle.listD) (by simp [Bundle.ownAtoms]))
  obtain ⟨tyM, dM, hdM, hdnM⟩ := Cond.laysAt hfound hk hffM (a' (.lays cls Bundle.tN "detailMessage" "Ljava/lang/String;") (by simp [Bundle.ownAtoms]))
  obtain ⟨tyB, dB, hdB, hdnB⟩ := Cond.laysAt hfound hk hffB (a' (.lays cls Bundle.tN "backtrace" "Ljava/lang/Object;") (by simp [Bundle.ownAtoms]))
  have bC := Cond.laysApart hdB hdC hdnB hdnC (by rw [hnB, Y.causeName]; decide)
  have bS := Cond.laysApart hdB hdS hdnB hdnS (by rw [hnB, Y.stackName]; decide)
  have bP := Cond.laysApart hdB hdP hdnB hdnP (by rw [hnB, Y.suppName]; decide)
  have hskip : SkipFacts T e.platform s (fun u => u) u0 ((preparedCellV T.toThrowableT (freshCell P1.m.cls kX) a u0 sen).withEntry W.cur) :=
    ⟨{ ci198 := ci198, i198 := i198, fBack := fB }, ⟨hk198, hg198, ha198, hsB⟩, by
      have := fresh_default (c := P1.m.cls) tyB
      rw [htB] at this
      simpa [preparedCellV, Cell.setSlot, Cell.withEntry, Array.getElem?_setIfInBounds, bC, bS, bP, bC.symm, bS.symm, bP.symm, defaultValue] using this, fun _ _ => rfl⟩
  obtain ⟨tm, methC, cdC, kC, vm₁, hnC, -, -, -, -, -, -, -, hW₁, st1⟩ := Steps.initColdS (tb := p.tables) (e := e) (below := below) (s := s) (U := W) X.here hexec X.warmed hpl hown (t := Bundle.initS cls) rfl rfl (Bundle.fit_spec hcls).2
    (a' (.methodLink own ic (Bundle.initS cls)) (by simp [Bundle.ownAtoms])) (h (.instanceMethod (Bundle.initS cls)) (by cases names <;> simp [Bundle.ownAtoms, Bundle.chainSAtoms, Bundle.passSAtoms])) (bytes := Bundle.six) (maxL := 2) (h (.code (Bundle.initS cls) Bundle.six 2 none) (by cases names <;> simp [Bundle.ownAtoms, Bundle.chainSAtoms, Bundle.passSAtoms]))
    (f := g) hg (a := a) (msg := msg) (rest := .ref a :: rest) hstack hd6
  cases Option.some.inj (hnC.symm.trans hP1m)
  have X₁ := X.noted hW₁
  obtain ⟨vm₂, X₂, st2⟩ := X₁.ctorMessageOffV hexec (g := { g with stack := .ref a :: rest }) hg hsize T L Z LZ M LM (P1 :: Ps)
    (fun P hP => by rcases List.mem_cons.mp hP with rfl | hP; exact L1; exact hL P hP) ⟨hlink1, hlink⟩ (u0 := u0) (sen := sen) (self := a) hmsg (cell := freshCell P1.m.cls kX) (cellS := cellS)
    hcell (fun _ => by simp) (by simp) rfl rfl hsel0 hselF hcellS hneS hknownS (by rw [hkeep _ (hout' _)]; exact hu0) (by rw [hkeep _ (hout' _)]; exact hsen)
    (Takes.of_laid hk hord tyC (by rw [Y.causeType]; rfl)) (Takes.of_laid hk hord tyS (by rw [Y.stackType]; exact fits_refV_array _ u0)) (Takes.of_laid hk hord tyP (by rw [Y.suppType]; exact fits_refV_object _ sen))
    (Takes.of_laid hk hord tyM (by rw [Y.msgType]; exact fits_refV_object _ ⟨msg, hmsg⟩)) Y.objLocals hskip htr [] hd6
    (by simp only [List.length_cons, hlen]; omega) (by simp only [List.length_cons, hlen]; exact hRlocals)
  have hlt : a < ((W.setVm vm₁).setVm vm₂).heap.size := (Array.getElem?_eq_some_iff.mp hcell).1
  refine ⟨(W.setVm vm₁).setVm vm₂, _, _, X₂, fun y hy => ?_, hlt, rfl, rfl, fun target hwalk => st1 _ (fun acts => ?_)⟩
  · simp only [List.mem_cons, List.not_mem_nil, or_false] at hy
    rcases hy with rfl | rfl | rfl | rfl | rfl <;> rfl
  · rw [doInvoke_state]
    exact st2 _ hwalk
set_option maxHeartbeats 1000000 in
theorem vx_ctorMade0 (X : Stand p l e R s m₀ args below meth c W locs cells slots) (hexec : p.tables.exec = Jvm.exec) (htr : e.platform.stackTraces = false) {own cls : String} {names : List String} {ic : Nat}
    (hown : s.vm.findClass own = some m₀.cls) (hcls : Bundle.fit cls = true) (hnames : ∀ n ∈ names, Bundle.fit n = true)
    (h : ∀ a ∈ Bundle.ownAtoms0 own ic cls names, a.before args s = true)
    (hlocs : ∀ x ∈ locs, ∀ cell, s.heap[x.base]? = some cell → cell.vm.isStatics = false)
    {a : Addr} {cX : ClassId} {kX : Class} (hfoundX : s.vm.findClass cls = some cX) (hkX : s.vm.classes[cX]? = some kX) (hcell : W.heap[a]? = some (freshCell cX kX)) (hnew : s.heap.size ≤ a)
    {g : JFrame} (hg : g.method = m₀) (hsize : g.locals.size = c.maxLocals) {rest : List Value} (hstack : g.stack = .ref a :: .ref a :: rest)
    (hd6 : decode c.code g.pc = .ok (.invokespecial ic, 3))
    (hRframes : names.length + 3 < R.frames) (hRlocals : 2 * g.monitorRoom + ((Value.ref a :: rest).map fun v => v.category).sum + (13 * (names.length + 1) + 41) ≤ R.locals) :
    ∃ (V : State) (ce : Cell) (L : List Loc), Stand p l e R s m₀ args below meth c (V.setCell a ce) (locs ++ L) cells slots ∧ (∀ y ∈ L, y.base = a) ∧ a < V.heap.size ∧ ce.cls = cX ∧ ce.vm = .none ∧
      ∀ target, Steps p.tables e below ((V.setCell a ce).setTop { g with stack := .ref a :: rest, pc := g.pc + 3 }) target → Steps p.tables e below (W.setTop g) target := by
  have howns : e.platform.frameOwnsMonitors = true := by rw [X.admits.platform]
  have hfin : e.platform.finalization = false := by rw [X.admits.platform]
  have hpl : e.platform.magicAccessors = ({} : Platform).magicAccessors := by rw [X.admits.platform]
  have a' : ∀ x, x ∈ Bundle.ownAtoms0 own ic cls names → x.holds args s none s [] = true := fun x hx => h x hx
  obtain ⟨T, Z, L, LZ, Y⟩ := ThrowableC.of_atoms (args := args) howns hfin hpl (fun x hx => h x (by simp [Bundle.ownAtoms0, hx]))
  obtain ⟨P1, Ps, hlen, L1, hL, hP1m, hlink1, hlink⟩ := Bundle.chain0 (args := args) hpl Y.init0 names cls hcls hnames (fun x hx => h x (by simp [Bundle.ownAtoms0, hx]))
  have hfound : s.vm.findClass cls = some P1.m.cls := findClass_of_methodNamed hP1m
  cases Option.some.inj (hfoundX.symm.trans hfound)
  obtain ⟨c1, kX', hc1, hk, hord, -, -, hn6⟩ := Cond.instantiable_spec (a' (.instantiable cls 6) (by simp [Bundle.ownAtoms0]))
  cases Option.some.inj (hc1.symm.trans hfound)
  cases Option.some.inj (hkX.symm.trans hk)
  have hsel0 : selectMethod e.platform s.vm P1.m.cls T.fill0 = .method T.fill0 := by
    obtain ⟨c2, r2, m2, q1, q2, q3, q4, -⟩ := Cond.selects_spec (a' (.selects cls Bundle.tFill0 Bundle.tFill0) (by simp [Bundle.ownAtoms0]))
    cases Option.some.inj (q1.symm.trans hfound)
    cases Option.some.inj (q2.symm.trans (State.methodFound?_of_named Y.fill0 (by decide)))
    cases Option.some.inj (q3.symm.trans Y.fill0)
    rw [Launch.admits_selectMethod X.admits]; exact q4
  have hselF : selectMethod e.platform s.vm P1.m.cls T.fill = .method T.fill := by
    obtain ⟨c2, r2, m2, q1, q2, q3, q4, -⟩ := Cond.selects_spec (a' (.selects cls Bundle.tFill Bundle.tFill) (by simp [Bundle.ownAtoms0]))
    cases Option.some.inj (q1.symm.trans hfound)
    cases Option.some.inj (q2.symm.trans (State.methodFound?_of_named Y.fill (by decide)))
    cases Option.some.inj (q3.symm.trans Y.fill)
    rw [Launch.admits_selectMethod X.admits]; exact q4
  obtain ⟨cellS0, hcS0, hiss⟩ := Y.statics
  obtain ⟨u0, hu0⟩ := Cond.staticRefV Y.unassigned L.unassignedStatic L.statics hcS0 hiss (a' (.isRef (.static Bundle.tN "UNASSIGNED_STACK" Bundle.steD)) (by simp [Bundle.ownAtoms0]))
  obtain ⟨sen, hsen⟩ := Cond.staticRefV Y.sentinel L.sentinelStatic L.statics hcS0 hiss (a' (.isRef (.static Bundle.tN "SUPPRESSED_SENTINEL" Bundle.listD)) (by simp [Bundle.ownAtoms0]))
  obtain ⟨ci198, i198, fB, hk198, hg198, ha198, hsB, -, hnB, htB, hffB⟩ := Cond.ownField (t := .object "java/lang/Object") Y.found L.cls (by decide +kernel) (a' (.fieldLink Bundle.tN 198 Bundle.tN "backtrace" "Ljava/lang/Object;") (by simp [Bundle.ownAtoms0])) (a' (.lays Bundle.tN Bundle.tN "backtrace" "Ljava/lang/Object;") (by simp [Bundle.ownAtoms0])) e.platform hpl
  obtain ⟨cellS, hcS', heS, -, hkeep⟩ := X.same.2.2.2.2.2 T.aS cellS0 hcS0
  have hcellS : W.heap[T.aS]? = some cellS := hcS'
  have hout' : ∀ i, (⟨T.aS, i⟩ : Loc) ∉ locs := fun i hmem => by
    have := hlocs _ hmem cellS0 hcS0
    rw [hiss] at this; cases this
  have hknownS : cellS.vm ≠ .unknown := by
    rw [heS]; intro hu
    rw [show cellS0.vm = .unknown from hu] at hiss
    cases hiss
  have hneS : T.aS ≠ a := Nat.ne_of_lt (Nat.lt_of_lt_of_le (Array.getElem?_eq_some_iff.mp hcS0).1 hnew)
  obtain ⟨iM, hffM⟩ := Y.msg
  obtain ⟨tyC, dC, hdC, hdnC⟩ := Cond.laysAt hfound hk Y.cause (a' (.lays cls Bundle.tN "cause" "Ljava/lang/Throwable;") (by simp [Bundle.ownAtoms0]))
  obtain ⟨tyS, dS, hdS, hdnS⟩ := Cond.laysAt hfound hk Y.stack (a' (.lays cls Bundle.tN "stackTrace" Bundle.steD) (by simp [Bundle.ownAtoms0]))
  obtain ⟨tyP, dP, hdP, hdnP⟩ := Cond.laysAt hfound hk Y.supp (a' (.lays cls Bundle.tN "suppressedExceptions" Bundle.listD) (by simp [Bundle.ownAtoms0]))
  obtain ⟨tyM, dM, hdM, hdnM⟩ := Cond.laysAt hfound hk hffM (a' (.lays cls Bundle.tN "detailMessage" "Ljava/lang/String;") (by simp [Bundle.ownAtoms0]))
  obtain ⟨tyB, dB, hdB, hdnB⟩ := Cond.laysAt hfound hk hffB (a' (.lays cls Bundle.tN "backtrace" "Ljava/lang/Object;") (by simp [Bundle.ownAtoms0]))
  have bC := Cond.laysApart hdB hdC hdnB hdnC (by rw [hnB, Y.causeName]; decide)
  have bS := Cond.laysApart hdB hdS hdnB hdnS (by rw [hnB, Y.stackName]; decide)
  have bP := Cond.laysApart hdB hdP hdnB hdnP (by rw [hnB, Y.suppName]; decide)
  have hskip : SkipFacts T e.platform s (fun u => u) u0 ((preparedCellV T.toThrowableT (freshCell P1.m.cls kX) a u0 sen).withEntry W.cur) :=
    ⟨{ ci198 := ci198, i198 := i198, fBack := fB }, ⟨hk198, hg198, ha198, hsB⟩, by
      have := fresh_default (c := P1.m.cls) tyB
      rw [htB] at this
      simpa [preparedCellV, Cell.setSlot, Cell.withEntry, Array.getElem?_setIfInBounds, bC, bS, bP, bC.symm, bS.symm, bP.symm, defaultValue] using this, fun _ _ => rfl⟩
  obtain ⟨tm, methC, cdC, kC, vm₁, hnC, -, -, -, -, -, -, -, hW₁, st1⟩ := Steps.initCold (tb := p.tables) (e := e) (below := below) (s := s) (U := W) X.here hexec X.warmed hpl hown (t := Bundle.init0 cls) rfl rfl (Bundle.fit_spec hcls).2
    (a' (.methodLink own ic (Bundle.init0 cls)) (by simp [Bundle.ownAtoms0])) (h (.instanceMethod (Bundle.init0 cls)) (by cases names <;> simp [Bundle.ownAtoms0, Bundle.chain0Atoms, Bundle.passAtoms])) (bytes := Bundle.five) (maxL := 1) (h (.code (Bundle.init0 cls) Bundle.five 1 none) (by cases names <;> simp [Bundle.ownAtoms0, Bundle.chain0Atoms, Bundle.passAtoms]))
    (f := g) hg (a := a) (rest := .ref a :: rest) hstack hd6
  cases Option.some.inj (hnC.symm.trans hP1m)
  have X₁ := X.noted hW₁
  obtain ⟨vm₂, X₂, st2⟩ := X₁.ctorPlainOffV hexec (g := { g with stack := .ref a :: rest }) hg hsize T L Z LZ (P1 :: Ps)
    (fun P hP => by rcases List.mem_cons.mp hP with rfl | hP; exact L1; exact hL P hP) ⟨hlink1, hlink⟩ (u0 := u0) (sen := sen) (self := a) (cell := freshCell P1.m.cls kX) (cellS := cellS)
    hcell (fun _ => by simp) (by simp) rfl rfl hsel0 hselF hcellS hneS hknownS (by rw [hkeep _ (hout' _)]; exact hu0) (by rw [hkeep _ (hout' _)]; exact hsen)
    (Takes.of_laid hk hord tyC (by rw [Y.causeType]; rfl)) (Takes.of_laid hk hord tyS (by rw [Y.stackType]; exact fits_refV_array _ u0)) (Takes.of_laid hk hord tyP (by rw [Y.suppType]; exact fits_refV_object _ sen)) Y.objLocals hskip htr [] hd6
    (by simp only [List.length_cons, hlen]; omega) (by simp only [List.length_cons, hlen]; exact hRlocals)
  have hlt : a < ((W.setVm vm₁).setVm vm₂).heap.size := (Array.getElem?_eq_some_iff.mp hcell).1
  refine ⟨(W.setVm vm₁).setVm vm₂, _, _, X₂, fun y hy => ?_, hlt, rfl, rfl, fun target hwalk => st1 _ (fun acts => ?_)⟩
  · simp only [List.mem_cons, List.not_mem_nil, or_false] at hy
    rcases hy with rfl | rfl | rfl | rfl <;> rfl
  · rw [doInvoke_state]
    exact st2 _ hwalk
end VXK
section VXK2
variable {p : Program} {l : Launch} {e : Env} {R : Room} {s : State} {m : MethodId} {args : Array Value} {below : List Frame} {meth : Method} {c : Code} {H : Heap} {locs : List Loc} {cells slots : Nat} {Q : State → Prop}
variable {ls : Array Slot} {rest : List Value} {D : va_G} {cl : List vw_C} {tys : List (ClassId × FieldType)} {ws : va_W}
/-- 'new E("text")' that isn't thrown at once: the object goes on the stack -/
theorem vx_makeS {cc : ByteArray} {pc : Nat} (hexec : p.tables.exec = Jvm.exec) (hb : c.code = cc) (hl : l.stackTraces = false) {own cls text : String} {names : List String} {ik is ic sa ci : Nat} {A : Nat → Prop} {T0 : u_T}
    (hown : s.vm.findClass own = some m.cls) (hcls : Bundle.fit cls = true) (hnames : ∀ n ∈ names, Bundle.fit n = true)
    (hk : (Cond.classLink own ik cls).before args s = true) (hini : (Cond.initialized cls).before args s = true) (hstr : vk_R own is text sa s) (hat : ∀ w ∈ vx_atS own ic cls names, w.before args s = true)
    (hgood : ∀ w ∈ Cond.classLink own ik cls :: Cond.initialized cls :: vx_atS own ic cls names, vx_ot w = true)
    (hU : vx_Zq Bundle.tN "UNASSIGNED_STACK" Bundle.steD A s s.heap) (hN : vx_Zq Bundle.tN "SUPPRESSED_SENTINEL" Bundle.listD A s s.heap) (hS : va_S A s.heap H locs) (hsize : ls.size = c.maxLocals)
    (d0 : decode cc pc = .ok (.new ik, 3)) (d3 : decode cc (pc + 3) = .ok (.dup, 1)) (d4 : decode cc (pc + 4) = .ok (.ldc is, 2)) (d6 : decode cc (pc + 6) = .ok (.invokespecial ic, 3))
    (hK : va_K D cl tys s) (hP : va_P D cl ws H) (hD : va_D A ws) (hA : ∀ q, s.heap.size ≤ q → A q) (hc : cl[ci]? = some (cls, T0, 0))
    (hRframes : names.length + 3 < R.frames) (hRlocals : (rest.map fun v => v.category).sum + (13 * (names.length + 1) + 43) ≤ R.locals) (hRcells : cells + 1 ≤ R.cells) (hRslots : slots + 6 ≤ R.slots)
    (kk : ∀ (q : Nat) (H1 : Heap), va_P D cl (ws ++ [(q, .inr (ci, []))]) H1 → va_D A (ws ++ [(q, .inr (ci, []))]) → va_S A s.heap H1 locs → W p l e R s m args below meth c H1 locs (cells + 1) (slots + 6) Q (F0 m (pc + 9) ls (.ref q :: rest))) :
    W p l e R s m args below meth c H locs cells slots Q (F0 m pc ls rest) := by
  intro T hT X
  subst hT
  have htr : e.platform.stackTraces = false := (show e.platform.stackTraces = l.stackTraces by rw [X.admits.platform]).trans hl
  have Y := vx_rebase X (R' := { frames := R.frames, locals := R.locals, cells := 1, slots := 6 }) (Nat.le_refl _) (Nat.le_refl _) hRcells hRslots
  obtain ⟨s', hA'⟩ : ∃ z, z = (T.setVm s.vm).setFrames (.invoking m args :: below) := ⟨_, rfl⟩
  rw [← hA'] at Y
  have hvm : s'.vm = s.vm := by rw [hA']; rfl
  have hhp : s'.heap = T.heap := by rw [hA']; rfl
  have hW0 : s.WarmedH s'.vm := by rw [hvm]; exact State.WarmedH.refl s
  have hat' : ∀ w ∈ vx_atS own ic cls names, w.before args s' = true := fun w hw => vx_ot_at hW0 hvm.symm (hgood w (List.mem_cons_of_mem _ (List.mem_cons_of_mem _ hw))) (hat w hw)
  have hk' : (Cond.classLink own ik cls).before args s' = true := vx_ot_at hW0 hvm.symm (hgood _ List.mem_cons_self) hk
  have hini' : (Cond.initialized cls).before args s' = true := vx_ot_at hW0 hvm.symm (hgood _ (List.mem_cons_of_mem _ List.mem_cons_self)) hini
  have hU' : vx_Zq Bundle.tN "UNASSIGNED_STACK" Bundle.steD A s' s'.heap := by rw [hhp]; exact vx_Zq.moved hW0.alike (hU.kept hS.2.1)
  have hN' : vx_Zq Bundle.tN "SUPPRESSED_SENTINEL" Bundle.listD A s' s'.heap := by rw [hhp]; exact vx_Zq.moved hW0.alike (hN.kept hS.2.1)
  have h : ∀ w ∈ Bundle.ownAtoms own ic cls names, w.before args s' = true := vx_own hat' (vx_isRefq hU'.1) (vx_isRefq hN'.1) hU'.2.word hN'.2.word
  have hown' : s'.vm.findClass own = some m.cls := by rw [hvm]; exact hown
  have hins : (Cond.instantiable cls 6).before args s' = true := h _ (by simp [Bundle.ownAtoms])
  obtain ⟨vm₁, cX, kX, hfX, hkX, -, -, X₁, st1⟩ := Y.newCold hexec (own := own) (C := cls) (index := ik) (n := 6) hown' hk' hins hini'
    (g := F0 m pc ls rest) rfl (by rw [hb]; exact d0) (Nat.le_refl _) (Nat.le_refl _)
  generalize hT1 : (T.setVm vm₁).pushCell { cls := cX, slots := kX.instanceTypes.map defaultValue, vm := .none } = T1 at X₁ st1
  have hcat : (Value.ref T.heap.size).category = 1 := rfl
  have hcellA : T1.heap[T.heap.size]? = some (freshCell cX kX) := by rw [← hT1]; exact State.heap_pushCell_size _ _
  have d3' : decode c.code (pc + 3) = .ok (.dup, 1) := by rw [hb]; exact d3
  have d4' : decode c.code (pc + 4) = .ok (.ldc is, 2) := by rw [hb]; exact d4
  have hstr' : vk_R own is text sa s' := vk_R.warm hW0 hstr
  obtain ⟨V, ce, L, Z, hL, hlt, hcl9, hvm9, st⟩ := vx_ctorMadeS X₁ hexec htr (own := own) (cls := cls) (names := names) (ic := ic) hown' hcls hnames h (fun x hx => nomatch hx) hfX hkX hcellA (by rw [hhp]; exact Nat.le_refl _) (msg := .ref sa) rfl
    (g := { method := m, pc := pc + 6, locals := ls, stack := .ref sa :: .ref T.heap.size :: .ref T.heap.size :: rest, locked := none }) rfl hsize (rest := rest) rfl
    (by rw [hb]; exact d6) hRframes (by simp only [List.map_cons, List.sum_cons, hcat]; omega)
  have Z0 := Stand.forget (locs := []) Z (fun y hy => by rw [hL y hy, hhp]; exact Nat.le_refl _)
  obtain ⟨f1, f2⟩ := vx_frame Z0.same
  rw [hhp] at f1 f2
  have hcid : ce.cls = D.1 ci := by
    rw [hcl9]
    have h1 := (hK.1 ci _ hc).2.1
    rw [hvm] at hfX
    exact Option.some.inj (hfX.symm.trans h1)
  have hh : (V.setCell T.heap.size ce).heap[T.heap.size]? = some ce := heapAt_setCell_self (s := V) ce hlt
  subst hA'
  have X5 := vx_back9 X Y Z0
  have X6 : Stand p l e R s m args below meth c (V.setCell T.heap.size ce) locs (cells + 1) (slots + 6) := { X5 with same := X5.same.mono (by omega) (by omega) }
  have hk9 : ∀ (k : Nat) (x : Nat × va_E), ws[k]? = some x → (V.setCell T.heap.size ce).heap[x.1]? = T.heap[x.1]? := fun k x hx => f2 x.1 ((hP k x hx).lt) (fun z hz => nomatch hz)
  obtain ⟨t, a1, b1⟩ := kk T.heap.size (V.setCell T.heap.size ce).heap ((hP.kept hk9).app (fun k x hx => by
      have hz : k < 1 := (List.getElem?_eq_some_iff.mp hx).1
      rw [show k = 0 by omega] at hx
      cases hx
      exact ⟨_, hc, ce, hh, hcid, hvm9, fun k hk => absurd hk (Nat.not_lt_zero k)⟩)) (hD.push hP rfl (hA _ hS.1)) ⟨Nat.le_trans hS.1 f1, fun q h1 h2 => (f2 q (Nat.lt_of_lt_of_le h1 hS.1) (fun z hz => nomatch hz)).trans (hS.2.1 q h1 h2), hS.2.2⟩ _ rfl X6
  refine ⟨t, st1 _ ?_, b1⟩
  show Steps p.tables e below (T1.setTop { method := m, pc := pc + 3, locals := ls, stack := .ref T.heap.size :: rest, locked := none }) _
  jvm_step X₁.here [X₁.here.top, hexec, d3', Value.category]
  exact X₁.ldcString hexec (own := own) (text := text) (index := is) (a := sa) hown' hstr'.1 hstr'.2
    (g := { method := m, pc := pc + 4, locals := ls, stack := .ref T.heap.size :: .ref T.heap.size :: rest, locked := none }) rfl d4' _ (st _ a1)
/-- 'new E()' that isn't thrown at once: the object goes on the stack -/
theorem vx_make0 {cc : ByteArray} {pc : Nat} (hexec : p.tables.exec = Jvm.exec) (hb : c.code = cc) (hl : l.stackTraces = false) {own cls : String} {names : List String} {ik ic ci : Nat} {A : Nat → Prop} {T0 : u_T}
    (hown : s.vm.findClass own = some m.cls) (hcls : Bundle.fit cls = true) (hnames : ∀ n ∈ names, Bundle.fit n = true)
    (hk : (Cond.classLink own ik cls).before args s = true) (hini : (Cond.initialized cls).before args s = true) (hat : ∀ w ∈ vx_at0 own ic cls names, w.before args s = true)
    (hgood : ∀ w ∈ Cond.classLink own ik cls :: Cond.initialized cls :: vx_at0 own ic cls names, vx_ot w = true)
    (hU : vx_Zq Bundle.tN "UNASSIGNED_STACK" Bundle.steD A s s.heap) (hN : vx_Zq Bundle.tN "SUPPRESSED_SENTINEL" Bundle.listD A s s.heap) (hS : va_S A s.heap H locs) (hsize : ls.size = c.maxLocals)
    (d0 : decode cc pc = .ok (.new ik, 3)) (d3 : decode cc (pc + 3) = .ok (.dup, 1)) (d4 : decode cc (pc + 4) = .ok (.invokespecial ic, 3))
    (hK : va_K D cl tys s) (hP : va_P D cl ws H) (hD : va_D A ws) (hA : ∀ q, s.heap.size ≤ q → A q) (hc : cl[ci]? = some (cls, T0, 0))
    (hRframes : names.length + 3 < R.frames) (hRlocals : (rest.map fun v => v.category).sum + (13 * (names.length + 1) + 42) ≤ R.locals) (hRcells : cells + 1 ≤ R.cells) (hRslots : slots + 6 ≤ R.slots)
    (kk : ∀ (q : Nat) (H1 : Heap), va_P D cl (ws ++ [(q, .inr (ci, []))]) H1 → va_D A (ws ++ [(q, .inr (ci, []))]) → va_S A s.heap H1 locs → W p l e R s m args below meth c H1 locs (cells + 1) (slots + 6) Q (F0 m (pc + 7) ls (.ref q :: rest))) :
    W p l e R s m args below meth c H locs cells slots Q (F0 m pc ls rest) := by
  intro T hT X
  subst hT
  have htr : e.platform.stackTraces = false := (show e.platform.stackTraces = l.stackTraces by rw [X.admits.platform]).trans hl
  have Y := vx_rebase X (R' := { frames := R.frames, locals := R.locals, cells := 1, slots := 6 }) (Nat.le_refl _) (Nat.le_refl _) hRcells hRslots
  obtain ⟨s', hA'⟩ : ∃ z, z = (T.setVm s.vm).setFrames (.invoking m args :: below) := ⟨_, rfl⟩
  rw [← hA'] at Y
  have hvm : s'.vm = s.vm := by rw [hA']; rfl
  have hhp : s'.heap = T.heap := by rw [hA']; rfl
  have hW0 : s.WarmedH s'.vm := by rw [hvm]; exact State.WarmedH.refl s
  have hat' : ∀ w ∈ vx_at0 own ic cls names, w.before args s' = true := fun w hw => vx_ot_at hW0 hvm.symm (hgood w (List.mem_cons_of_mem _ (List.mem_cons_of_mem _ hw))) (hat w hw)
  have hk' : (Cond.classLink own ik cls).before args s' = true := vx_ot_at hW0 hvm.symm (hgood _ List.mem_cons_self) hk
  have hini' : (Cond.initialized cls).before args s' = true := vx_ot_at hW0 hvm.symm (hgood _ (List.mem_cons_of_mem _ List.mem_cons_self)) hini
  have hU' : vx_Zq Bundle.tN "UNASSIGNED_STACK" Bundle.steD A s' s'.heap := by rw [hhp]; exact vx_Zq.moved hW0.alike (hU.kept hS.2.1)
  have hN' : vx_Zq Bundle.tN "SUPPRESSED_SENTINEL" Bundle.listD A s' s'.heap := by rw [hhp]; exact vx_Zq.moved hW0.alike (hN.kept hS.2.1)
  have h : ∀ w ∈ Bundle.ownAtoms0 own ic cls names, w.before args s' = true := vx_own hat' (vx_isRefq hU'.1) (vx_isRefq hN'.1) hU'.2.word hN'.2.word
  have hown' : s'.vm.findClass own = some m.cls := by rw [hvm]; exact hown
  have hins : (Cond.instantiable cls 6).before args s' = true := h _ (by simp [Bundle.ownAtoms0])
  obtain ⟨vm₁, cX, kX, hfX, hkX, -, -, X₁, st1⟩ := Y.newCold hexec (own := own) (C := cls) (index := ik) (n := 6) hown' hk' hins hini'
    (g := F0 m pc ls rest) rfl (by rw [hb]; exact d0) (Nat.le_refl _) (Nat.le_refl _)
  generalize hT1 : (T.setVm vm₁).pushCell { cls := cX, slots := kX.instanceTypes.map defaultValue, vm := .none } = T1 at X₁ st1
  have hcat : (Value.ref T.heap.size).category = 1 := rfl
  have hcellA : T1.heap[T.heap.size]? = some (freshCell cX kX) := by rw [← hT1]; exact State.heap_pushCell_size _ _
  have d3' : decode c.code (pc + 3) = .ok (.dup, 1) := by rw [hb]; exact d3
  obtain ⟨V, ce, L, Z, hL, hlt, hcl9, hvm9, st⟩ := vx_ctorMade0 X₁ hexec htr (own := own) (cls := cls) (names := names) (ic := ic) hown' hcls hnames h (fun x hx => nomatch hx) hfX hkX hcellA (by rw [hhp]; exact Nat.le_refl _)
    (g := { method := m, pc := pc + 4, locals := ls, stack := .ref T.heap.size :: .ref T.heap.size :: rest, locked := none }) rfl hsize (rest := rest) rfl
    (by rw [hb]; exact d4) hRframes (by simp only [List.map_cons, List.sum_cons, hcat]; omega)
  have Z0 := Stand.forget (locs := []) Z (fun y hy => by rw [hL y hy, hhp]; exact Nat.le_refl _)
  obtain ⟨f1, f2⟩ := vx_frame Z0.same
  rw [hhp] at f1 f2
  have hcid : ce.cls = D.1 ci := by
    rw [hcl9]
    have h1 := (hK.1 ci _ hc).2.1
    rw [hvm] at hfX
    exact Option.some.inj (hfX.symm.trans h1)
  have hh : (V.setCell T.heap.size ce).heap[T.heap.size]? = some ce := heapAt_setCell_self (s := V) ce hlt
  subst hA'
  have X5 := vx_back9 X Y Z0
  have X6 : Stand p l e R s m args below meth c (V.setCell T.heap.size ce) locs (cells + 1) (slots + 6) := { X5 with same := X5.same.mono (by omega) (by omega) }
  have hk9 : ∀ (k : Nat) (x : Nat × va_E), ws[k]? = some x → (V.setCell T.heap.size ce).heap[x.1]? = T.heap[x.1]? := fun k x hx => f2 x.1 ((hP k x hx).lt) (fun z hz => nomatch hz)
  obtain ⟨t, a1, b1⟩ := kk T.heap.size (V.setCell T.heap.size ce).heap ((hP.kept hk9).app (fun k x hx => by
      have hz : k < 1 := (List.getElem?_eq_some_iff.mp hx).1
      rw [show k = 0 by omega] at hx
      cases hx
      exact ⟨_, hc, ce, hh, hcid, hvm9, fun k hk => absurd hk (Nat.not_lt_zero k)⟩)) (hD.push hP rfl (hA _ hS.1)) ⟨Nat.le_trans hS.1 f1, fun q h1 h2 => (f2 q (Nat.lt_of_lt_of_le h1 hS.1) (fun z hz => nomatch hz)).trans (hS.2.1 q h1 h2), hS.2.2⟩ _ rfl X6
  refine ⟨t, st1 _ ?_, b1⟩
  show Steps p.tables e below (T1.setTop { method := m, pc := pc + 3, locals := ls, stack := .ref T.heap.size :: rest, locked := none }) _
  jvm_step X₁.here [X₁.here.top, hexec, d3', Value.category]
  exact st _ a1
/-- 'throw x' of an object that was made before -/
theorem vx_athrow {cc : ByteArray} {pc : Nat} (hexec : p.tables.exec = Jvm.exec) (hb : c.code = cc) {q : Addr} (hdg : decode cc pc = .ok (.athrow, 1)) (k : vx_W p l e R s m args below meth c H locs cells slots Q (F0 m pc ls rest) q) : W p l e R s m args below meth c H locs cells slots Q (F0 m pc ls (.ref q :: rest)) := by
  intro T hT X
  obtain ⟨t, st, hq⟩ := k T hT X
  refine ⟨t, ?_, hq⟩
  have hdg' : decode c.code pc = .ok (.athrow, 1) := by rw [hb]; exact hdg
  jvm_step X.here [X.here.top, hexec, hdg', athrow.wp_sem]
  exact st
end VXK2
/-! ===== END ===== -/
/-! ===== BEGIN a constructor that throws (launches without stack traces) ===== -/
section VXIA
variable {p : Program} {l : Launch} {e : Env} {R : Room} {s : State} {m : MethodId} {args : Array Value} {below : List Frame} {meth : Method} {c : Code} {T : State} {locs : List Loc} {cells slots : Nat}
theorem vx_callI (X : Stand p l e R s m args below meth c T locs cells slots) (hexec : p.tables.exec = Jvm.exec) {own : String} {index : Nat} {y : MethodName} {bytes : ByteArray} {maxL : Nat}
    (hown : s.vm.findClass own = some m.cls) (hy1 : y.name = "<init>") (hlink : (Cond.methodLink own index y).before args s = true) (hinst : (Cond.instanceMethod y).before args s = true)
    (hcode : (Cond.code y bytes maxL none).before args s = true) (hy : y.cls ≠ "java/lang/invoke/MethodHandle" ∧ y.cls ≠ "java/lang/invoke/VarHandle")
    {W9 : Nat} {Pre : Pt → Array Value → Prop} {Post : Pt → Array Value → Option Value → Pt → Prop} {PostX : Pt → Array Value → Addr → Pt → Prop} (hK : vx_Back l R p e below s args y 3 W9 Pre Post PostX)
    {g : JFrame} (hg : g.method = m) (hsize : g.locals.size = c.maxLocals) {a : Addr} {argsL rest : List Value} (hlen : ∀ sig, parseMethodDescriptor y.desc = some sig → argsL.length = sig.parameters.length)
    (hstack : g.stack = argsL.reverse ++ .ref a :: rest) (hW : 2 * g.monitorRoom + (rest.map fun v => v.category).sum ≤ W9) (hdg : decode c.code g.pc = .ok (.invokespecial index, 3))
    (hpre : ∀ vm₁, s.WarmedH vm₁ → Pre ⟨T.setVm vm₁, locs, cells, slots⟩ (Value.ref a :: argsL).toArray) :
    (∃ (v : Option Value) (vm₁ : Vm) (B : Pt), s.WarmedH vm₁ ∧ Stand p l e R s m args below meth c B.U B.locs B.cells B.slots ∧ Post ⟨T.setVm vm₁, locs, cells, slots⟩ (Value.ref a :: argsL).toArray v B ∧
      ∀ target, Steps p.tables e below (B.U.setTop { g with pc := g.pc + 3, stack := v.toList ++ rest }) target → Steps p.tables e below (T.setTop g) target) ∨
    (∃ (q : Addr) (vm₁ : Vm) (B : Pt), s.WarmedH vm₁ ∧ Stand p l e R s m args below meth c B.U B.locs B.cells B.slots ∧ PostX ⟨T.setVm vm₁, locs, cells, slots⟩ (Value.ref a :: argsL).toArray q B ∧
      Steps p.tables e below (T.setTop g) ((B.U.setTop { g with stack := rest }).pushFrame (.throwing q))) := by
  subst hg
  have hpl : e.platform.magicAccessors = ({} : Platform).magicAccessors := by rw [X.admits.platform]
  obtain ⟨mk, methM, cM, kP, vm₁, hnamed, hmethM, hcodeM, -, hlocalsM, -, hkP, -, hW₁, hstep₁⟩ := Steps.initColdArgs (e := e) X.here hexec X.warmed hpl hown hy1 hy hlink hinst hcode (f := g) rfl hlen hstack hdg
  have X₁ := X.noted hW₁
  rcases hK g.method meth c ⟨T.setVm vm₁, locs, cells, slots⟩ { g with stack := rest } (.invokespecial index) mk (Value.ref a :: argsL).toArray X₁ rfl hsize hdg hW (X₁.named hnamed) (hpre vm₁ X₁.warmed) with ⟨v, B, X', hpost, hsteps⟩ | ⟨q, B, X', hpost, hsteps⟩
  · exact Or.inl ⟨v, vm₁, B, X₁.warmed, X', hpost, fun target h => hstep₁ _ fun acts => by rw [doInvoke_state]; exact hsteps.trans h⟩
  · exact Or.inr ⟨q, vm₁, B, X₁.warmed, X', hpost, hstep₁ _ fun acts => by rw [doInvoke_state]; exact hsteps⟩
end VXIA
section VXIB
variable {p : Program} {l : Launch} {e : Env} {R : Room} {s : State} {m : MethodId} {args : Array Value} {below : List Frame} {meth : Method} {c : Code} {H : Heap} {locs : List Loc} {cells slots : Nat}
variable {y : MethodName} {bytes cc : ByteArray} {maxL nL mc ms n index : Nat} {ret : Option FieldType} {ws : List Cond} {rm : Room} {Pc : Array Value → State → Prop} {Qc : Array Value → State → Outcome → State → Prop} {XC : String → State → State → Prop} {free : Addr → Prop} {Ts : List Cond} {own C : String} {b : Addr} {As rest : List Value} {g : JFrame}
theorem vx_runI (S : CallFix p m c cc nL s args Ts own) (hM : vx_Met l y ws rm Pc Qc XC mc ms free) (cw : CallB R s args own index y bytes maxL none ws rm mc ms n ∧ y.name = "<init>" ∧ (Cond.instanceMethod y).before args s = true) (hp : PreS s H Pc (.ref b :: As))
    (hg : g.method = m) (hn : As.length = n) (hsize : g.locals.size = nL) (hstack : g.stack = As.reverse ++ .ref b :: rest) (hW : 2 * g.monitorRoom + (rest.map fun v => v.category).sum ≤ 8) (hdg : decode cc g.pc = .ok (.invokespecial index, 3)) (hf : cells + mc ≤ R.cells ∧ slots + ms ≤ R.slots) :
    vx_Run p l e R s m args below meth c H locs cells slots mc ms g rest (Qc (Value.ref b :: As).toArray) XC free := by
  have hK : vx_Back l R p e below s args y 3 8 (PreOf R mc ms Pc) (PostOf Qc mc ms free) (vx_Post XC mc ms free) := vx_callBack cw.1 hM hp.1
  obtain ⟨⟨-, -, -, -, -, -, hcode, -, hy, hlen, hl⟩, hy1, hin⟩ := cw
  obtain ⟨hx, hb, hml, ho, -⟩ := S
  have hPc := hp.2
  intro T hT X
  rcases vx_callI X hx (bytes := bytes) (maxL := maxL) ho hy1 hl hin hcode hy hK hg (hsize.trans hml.symm) (a := b) (argsL := As) (rest := rest) (fun sig h => hn.trans (hlen sig h)) hstack hW (by rw [hb]; exact hdg)
    (fun vm₁ hW₁ => ⟨hf.1, hf.2, hPc (T.setVm vm₁) hT hW₁⟩) with ⟨v, vm₁, ⟨U', l2, c2, s2⟩, hW₁, X', ⟨g', mk, t, L, e1, e2, hq, h1, hL, h2, h3⟩, st⟩ | ⟨q, vm₁, ⟨U', l2, c2, s2⟩, hW₁, X', ⟨g', mk, t, L, E, ce, e1, e2, hq, hce, hcv, hcl, h1, hL, h2, h3⟩, st⟩
  · dsimp only [Pt.U, Pt.locs, Pt.cells, Pt.slots] at X' e1 e2 h1 h2 h3 st
    subst h1; subst h2; subst h3
    exact Or.inl ⟨v, (T.setVm vm₁).calling g' mk (Value.ref b :: As).toArray, t, U', L, hT, X', hL, e1, e2, hq, st⟩
  · dsimp only [Pt.U, Pt.locs, Pt.cells, Pt.slots] at X' e1 e2 h1 h2 h3 st hcl
    subst h1; subst h2; subst h3
    exact Or.inr ⟨q, (T.setVm vm₁).calling g' mk (Value.ref b :: As).toArray, t, U', L, E, ce, hT, X', hL, e1, e2, hq, hce, hcv, vx_cls hW₁ hcl, st⟩
end VXIB
/-! ===== END ===== -/
/-! ===== BEGIN a private constructor of a nest mate that throws ===== -/
section VXIC
variable {p : Program} {l : Launch} {e : Env} {R : Room} {s : State} {m : MethodId} {args : Array Value} {below : List Frame} {meth : Method} {c : Code} {T : State} {locs : List Loc} {cells slots : Nat}
theorem vx_callIN (X : Stand p l e R s m args below meth c T locs cells slots) (hexec : p.tables.exec = Jvm.exec) {own : String} {index : Nat} {host : String} {y : MethodName} {bytes : ByteArray} {maxL : Nat}
    (hown : s.vm.findClass own = some m.cls) (hy1 : y.name = "<init>") (hlink : (Cond.methodLinkNest own index y host).before args s = true) (hinst : (Cond.instanceMethod y).before args s = true)
    (hcode : (Cond.code y bytes maxL none).before args s = true) (hy : y.cls ≠ "java/lang/invoke/MethodHandle" ∧ y.cls ≠ "java/lang/invoke/VarHandle")
    {W9 : Nat} {Pre : Pt → Array Value → Prop} {Post : Pt → Array Value → Option Value → Pt → Prop} {PostX : Pt → Array Value → Addr → Pt → Prop} (hK : vx_Back l R p e below s args y 3 W9 Pre Post PostX)
    {g : JFrame} (hg : g.method = m) (hsize : g.locals.size = c.maxLocals) {a : Addr} {argsL rest : List Value} (hlen : ∀ sig, parseMethodDescriptor y.desc = some sig → argsL.length = sig.parameters.length)
    (hstack : g.stack = argsL.reverse ++ .ref a :: rest) (hW : 2 * g.monitorRoom + (rest.map fun v => v.category).sum ≤ W9) (hdg : decode c.code g.pc = .ok (.invokespecial index, 3))
    (hpre : ∀ vm₁, s.WarmedH vm₁ → Pre ⟨T.setVm vm₁, locs, cells, slots⟩ (Value.ref a :: argsL).toArray) :
    (∃ (v : Option Value) (vm₁ : Vm) (B : Pt), s.WarmedH vm₁ ∧ Stand p l e R s m args below meth c B.U B.locs B.cells B.slots ∧ Post ⟨T.setVm vm₁, locs, cells, slots⟩ (Value.ref a :: argsL).toArray v B ∧
      ∀ target, Steps p.tables e below (B.U.setTop { g with pc := g.pc + 3, stack := v.toList ++ rest }) target → Steps p.tables e below (T.setTop g) target) ∨
    (∃ (q : Addr) (vm₁ : Vm) (B : Pt), s.WarmedH vm₁ ∧ Stand p l e R s m args below meth c B.U B.locs B.cells B.slots ∧ PostX ⟨T.setVm vm₁, locs, cells, slots⟩ (Value.ref a :: argsL).toArray q B ∧
      Steps p.tables e below (T.setTop g) ((B.U.setTop { g with stack := rest }).pushFrame (.throwing q))) := by
  subst hg
  have hpl : e.platform.magicAccessors = ({} : Platform).magicAccessors := by rw [X.admits.platform]
  obtain ⟨mk, methM, cM, kP, vm₁, hnamed, hmethM, hcodeM, -, hlocalsM, -, hkP, -, hW₁, hstep₁⟩ := Steps.initColdArgsNest (e := e) X.here hexec X.warmed hpl hown hy1 hy hlink hinst hcode (f := g) rfl hlen hstack hdg
  have X₁ := X.noted hW₁
  rcases hK g.method meth c ⟨T.setVm vm₁, locs, cells, slots⟩ { g with stack := rest } (.invokespecial index) mk (Value.ref a :: argsL).toArray X₁ rfl hsize hdg hW (X₁.named hnamed) (hpre vm₁ X₁.warmed) with ⟨v, B, X', hpost, hsteps⟩ | ⟨q, B, X', hpost, hsteps⟩
  · exact Or.inl ⟨v, vm₁, B, X₁.warmed, X', hpost, fun target h => hstep₁ _ fun acts => by rw [doInvoke_state]; exact hsteps.trans h⟩
  · exact Or.inr ⟨q, vm₁, B, X₁.warmed, X', hpost, hstep₁ _ fun acts => by rw [doInvoke_state]; exact hsteps⟩
end VXIC
section VXID
variable {p : Program} {l : Launch} {e : Env} {R : Room} {s : State} {m : MethodId} {args : Array Value} {below : List Frame} {meth : Method} {c : Code} {H : Heap} {locs : List Loc} {cells slots : Nat}
theorem vx_runIN {y : MethodName} {bytes cc : ByteArray} {maxL nL mc ms n index : Nat} {ws : List Cond} {rm : Room} {Pc : Array Value → State → Prop} {Qc : Array Value → State → Outcome → State → Prop} {XC : String → State → State → Prop} {free : Addr → Prop} {Ts : List Cond} {own host : String} {b : Addr} {As rest : List Value} {g : JFrame}
    (S : CallFix p m c cc nL s args Ts own) (hM : vx_Met l y ws rm Pc Qc XC mc ms free) (cw : va_CN R s args own index y host bytes maxL none ws rm mc ms n ∧ y.name = "<init>" ∧ (Cond.instanceMethod y).before args s = true) (hp : PreS s H Pc (.ref b :: As))
    (hg : g.method = m) (hn : As.length = n) (hsize : g.locals.size = nL) (hstack : g.stack = As.reverse ++ .ref b :: rest) (hW : 2 * g.monitorRoom + (rest.map fun v => v.category).sum ≤ 8) (hdg : decode cc g.pc = .ok (.invokespecial index, 3)) (hf : cells + mc ≤ R.cells ∧ slots + ms ≤ R.slots) :
    vx_Run p l e R s m args below meth c H locs cells slots mc ms g rest (Qc (Value.ref b :: As).toArray) XC free := by
  obtain ⟨⟨⟨hrc, hrs, hfr, hlo, hws, hcw⟩, hcode, hini, hy, hlen, hl⟩, hx1, hx2⟩ := cw
  have hK : vx_Back l R p e below s args y 3 8 (PreOf R mc ms Pc) (PostOf Qc mc ms free) (vx_Post XC mc ms free) := vx_back (bytes := bytes) (maxL := maxL) (ret := none) hM hp.1 hrc hrs hfr hlo hws hcw (fun a' U hW => word_at hW (Or.inl (by first | rfl | simp [Cond.onTables, Cond.keeps, Cond.steady])) hini)
  obtain ⟨hx, hb, hml, ho, -⟩ := S
  have hPc := hp.2
  intro T hT X
  rcases vx_callIN X hx (bytes := bytes) (maxL := maxL) ho hx1 hl hx2 hcode hy hK hg (hsize.trans hml.symm) (a := b) (argsL := As) (rest := rest) (fun sig h => hn.trans (hlen sig h)) hstack hW (by rw [hb]; exact hdg)
    (fun vm₁ hW₁ => ⟨hf.1, hf.2, hPc (T.setVm vm₁) hT hW₁⟩) with ⟨v, vm₁, ⟨U', l2, c2, s2⟩, hW₁, X', ⟨g', mk, t, L, e1, e2, hq, h1, hL, h2, h3⟩, st⟩ | ⟨q, vm₁, ⟨U', l2, c2, s2⟩, hW₁, X', ⟨g', mk, t, L, E, ce, e1, e2, hq, hce, hcv, hcl, h1, hL, h2, h3⟩, st⟩
  · dsimp only [Pt.U, Pt.locs, Pt.cells, Pt.slots] at X' e1 e2 h1 h2 h3 st
    subst h1; subst h2; subst h3
    exact Or.inl ⟨v, (T.setVm vm₁).calling g' mk (Value.ref b :: As).toArray, t, U', L, hT, X', hL, e1, e2, hq, st⟩
  · dsimp only [Pt.U, Pt.locs, Pt.cells, Pt.slots] at X' e1 e2 h1 h2 h3 st hcl
    subst h1; subst h2; subst h3
    exact Or.inr ⟨q, (T.setVm vm₁).calling g' mk (Value.ref b :: As).toArray, t, U', L, E, ce, hT, X', hL, e1, e2, hq, hce, hcv, vx_cls hW₁ hcl, st⟩
end VXID
/-! ===== END ===== -/
/-! ===== BEGIN a method of a class above, found by the receiver, that may throw (follows va_callVU, va_runU of this kit) ===== -/
section
variable {p : Program} {l : Launch} {e : Env} {R : Room} {s : State} {m : MethodId} {args : Array Value} {below : List Frame} {meth : Method} {c : Code} {H : Heap} {locs : List Loc} {cells slots : Nat}
theorem vx_callVU {T : State} {locs : List Loc} {cells slots : Nat} (X : Stand p l e R s m args below meth c T locs cells slots) (hexec : p.tables.exec = Jvm.exec) {own C owner : String} {index : Nat} {x y : MethodName} {bytes : ByteArray} {maxL : Nat} {ret : Option FieldType}
    (hown : s.vm.findClass own = some m.cls) (hlink : (Cond.methodLink own index x).before args s = true) (hsame : (Cond.sameMethod x.cls owner x.name x.desc).before args s = true)
    (hd0 : va_Decl s ⟨owner, x.name, x.desc⟩) (howner : owner ≠ "java/lang/invoke/MethodHandle" ∧ owner ≠ "java/lang/invoke/VarHandle")
    (hsel : (Cond.selects C x y).before args s = true) (hinst : (Cond.instanceMethod y).before args s = true) (hcode : (Cond.code y bytes maxL ret).before args s = true)
    {W : Nat} {Pre : Pt → Array Value → Prop} {Post : Pt → Array Value → Option Value → Pt → Prop} {PostX : Pt → Array Value → Addr → Pt → Prop} (hK : vx_Back l R p e below s args y 3 W Pre Post PostX)
    {b : Addr} {cellB : Cell} (hcell : T.heap[b]? = some cellB) (hobj : cellB.vm.isStatics = false) (hcls : s.vm.findClass C = some cellB.cls)
    {g : JFrame} (hg : g.method = m) (hsize : g.locals.size = c.maxLocals) {argsL rest : List Value} (hlen : ∀ sig, parseMethodDescriptor x.desc = some sig → argsL.length = sig.parameters.length)
    (hstack : g.stack = argsL.reverse ++ .ref b :: rest) (hW : 2 * g.monitorRoom + (rest.map fun v => v.category).sum ≤ W) (hdg : decode c.code g.pc = .ok (.invokevirtual index, 3))
    (hpre : ∀ vm₁, s.WarmedH vm₁ → Pre ⟨T.setVm vm₁, locs, cells, slots⟩ (Value.ref b :: argsL).toArray) :
    (∃ (v : Option Value) (vm₁ : Vm) (B : Pt), s.WarmedH vm₁ ∧ Stand p l e R s m args below meth c B.U B.locs B.cells B.slots ∧ Post ⟨T.setVm vm₁, locs, cells, slots⟩ (Value.ref b :: argsL).toArray v B ∧
      ∀ target, Steps p.tables e below (B.U.setTop { g with pc := g.pc + 3, stack := v.toList ++ rest }) target → Steps p.tables e below (T.setTop g) target) ∨
    (∃ (q : Addr) (vm₁ : Vm) (B : Pt), s.WarmedH vm₁ ∧ Stand p l e R s m args below meth c B.U B.locs B.cells B.slots ∧ PostX ⟨T.setVm vm₁, locs, cells, slots⟩ (Value.ref b :: argsL).toArray q B ∧
      Steps p.tables e below (T.setTop g) ((B.U.setTop { g with stack := rest }).pushFrame (.throwing q))) := by
  obtain ⟨r0, r, hn, hrm, hstR, hsigR⟩ := hd0
  obtain ⟨cn, ck, r1, hcn, hck, hni, hf, hn1⟩ := Cond.sameMethod_found hsame
  cases hn.symm.trans hn1
  obtain ⟨mk, methM, hnamed, hmethM, -, habM⟩ := Cond.instanceMethod_spec hinst
  obtain ⟨c2, r2, m2, q1, q2, q3, q4, kP, hkP, hkPi⟩ := Cond.selects_spec hsel
  cases hcls.symm.trans q1
  cases hf.symm.trans q2
  cases hnamed.symm.trans q3
  have hselP : selectMethod e.platform s.vm cellB.cls r0 = .method mk := by rw [Launch.admits_selectMethod X.admits]; exact q4
  obtain ⟨vm₁, X₁, hstep₁⟩ := X.invokevirtualUp hexec hown hlink hsame howner hn hrm hstR (a := b) (cell := cellB) hcell
    (fun z h => by rw [h] at hobj; cases hobj) hselP hmethM habM hkP hkPi (g := g) hg (argsL := argsL) (rest := rest) (hlen _ hsigR) hstack hdg
  rcases hK m meth c ⟨T.setVm vm₁, locs, cells, slots⟩ { g with stack := rest } (.invokevirtual index) mk (Value.ref b :: argsL).toArray X₁ hg hsize hdg hW (X₁.named hnamed) (hpre vm₁ X₁.warmed) with ⟨v, B, X', hpost, hsteps⟩ | ⟨q, B, X', hpost, hsteps⟩
  · exact Or.inl ⟨v, vm₁, B, X₁.warmed, X', hpost, fun target h => hstep₁ _ fun acts => by rw [doInvoke_state]; exact hsteps.trans h⟩
  · exact Or.inr ⟨q, vm₁, B, X₁.warmed, X', hpost, hstep₁ _ fun acts => by rw [doInvoke_state]; exact hsteps⟩
theorem vx_runU {x y : MethodName} {bytes cc : ByteArray} {maxL nL mc ms n index : Nat} {ret : Option FieldType} {ws : List Cond} {rm : Room} {Pc : Array Value → State → Prop} {Qc : Array Value → State → Outcome → State → Prop} {XC : String → State → State → Prop} {free : Addr → Prop} {Ts : List Cond} {own C owner : String} {b : Addr} {As rest : List Value} {g : JFrame}
    (S : CallFix p m c cc nL s args Ts own) (hM : vx_Met l y ws rm Pc Qc XC mc ms free) (cw : va_CU R s args own C owner index x y bytes maxL ret ws rm mc ms n) (hp : PreV s H C b Pc As)
    (hg : g.method = m) (hn : As.length = n) (hsize : g.locals.size = nL) (hstack : g.stack = As.reverse ++ .ref b :: rest) (hW : 2 * g.monitorRoom + (rest.map fun v => v.category).sum ≤ 8) (hdg : decode cc g.pc = .ok (.invokevirtual index, 3)) (hf : cells + mc ≤ R.cells ∧ slots + ms ≤ R.slots) :
    vx_Run p l e R s m args below meth c H locs cells slots mc ms g rest (Qc (Value.ref b :: As).toArray) XC free := by
  obtain ⟨hrc, hrs, hfr, hlo, hws, hcw⟩ := cw.back
  have hini := cw.init
  have hK : vx_Back l R p e below s args y 3 8 (PreOf R mc ms Pc) (PostOf Qc mc ms free) (vx_Post XC mc ms free) := vx_back (bytes := bytes) (maxL := maxL) (ret := ret) hM hp.1 hrc hrs hfr hlo hws hcw (fun a' U hW => word_at hW (Or.inl (by first | rfl | simp [Cond.onTables, Cond.keeps, Cond.steady])) hini)
  obtain ⟨hx, hb, hml, ho, -⟩ := S
  obtain ⟨-, ⟨cellB, hcB, hoB, hclB⟩, hPc⟩ := hp
  intro T hT X
  rcases vx_callVU X hx (C := C) (owner := owner) (bytes := bytes) (maxL := maxL) (ret := ret) ho cw.link cw.same cw.decl cw.notMH cw.sel cw.inst cw.code hK (by rw [hT]; exact hcB) hoB hclB hg (hsize.trans hml.symm) (argsL := As) (rest := rest) (fun sig h => hn.trans (cw.len sig h)) hstack hW (by rw [hb]; exact hdg)
    (fun vm₁ hW₁ => ⟨hf.1, hf.2, hPc (T.setVm vm₁) hT hW₁⟩) with ⟨v, vm₁, ⟨U', l2, c2, s2⟩, hW₁, X', ⟨g', mk, t, L, e1, e2, hq, h1, hL, h2, h3⟩, st⟩ | ⟨q, vm₁, ⟨U', l2, c2, s2⟩, hW₁, X', ⟨g', mk, t, L, E, ce, e1, e2, hq, hce, hcv, hcl, h1, hL, h2, h3⟩, st⟩
  · dsimp only [Pt.U, Pt.locs, Pt.cells, Pt.slots] at X' e1 e2 h1 h2 h3 st
    subst h1; subst h2; subst h3
    exact Or.inl ⟨v, (T.setVm vm₁).calling g' mk (Value.ref b :: As).toArray, t, U', L, hT, X', hL, e1, e2, hq, st⟩
  · dsimp only [Pt.U, Pt.locs, Pt.cells, Pt.slots] at X' e1 e2 h1 h2 h3 st hcl
    subst h1; subst h2; subst h3
    exact Or.inr ⟨q, (T.setVm vm₁).calling g' mk (Value.ref b :: As).toArray, t, U', L, E, ce, hT, X', hL, e1, e2, hq, hce, hcv, vx_cls hW₁ hcl, st⟩
end
/-! ===== END ===== -/
/-! ===== BEGIN super.m(..) that may throw (follows va_callSU, va_runSU) ===== -/
section
variable {p : Program} {l : Launch} {e : Env} {R : Room} {s : State} {m : MethodId} {args : Array Value} {below : List Frame} {meth : Method} {c : Code} {H : Heap} {locs : List Loc} {cells slots : Nat}
theorem vx_callSU {T : State} {locs : List Loc} {cells slots : Nat} (X : Stand p l e R s m args below meth c T locs cells slots) (hexec : p.tables.exec = Jvm.exec) {own : String} {index : Nat} {y : MethodName} {bytes : ByteArray} {maxL : Nat} {ret : Option FieldType}
    (hown : s.vm.findClass own = some m.cls) (hlink : (Cond.methodLink own index y).before args s = true) (hsame : (Cond.sameMethod y.cls y.cls y.name y.desc).before args s = true) (hsup : (Cond.superclass own y.cls).before args s = true)
    (hinst : (Cond.instanceMethod y).before args s = true) (hcode : (Cond.code y bytes maxL ret).before args s = true) (hno : y.name ≠ "<init>")
    {W : Nat} {Pre : Pt → Array Value → Prop} {Post : Pt → Array Value → Option Value → Pt → Prop} {PostX : Pt → Array Value → Addr → Pt → Prop} (hK : vx_Back l R p e below s args y 3 W Pre Post PostX)
    {b : Addr} {cellB : Cell} {kB : Class} (hcell : T.heap[b]? = some cellB) (hobj : cellB.vm.isStatics = false) (hkB : s.vm.classes[cellB.cls]? = some kB)
    {g : JFrame} (hg : g.method = m) (hsize : g.locals.size = c.maxLocals) {argsL rest : List Value} (hlen : ∀ sig, parseMethodDescriptor y.desc = some sig → argsL.length = sig.parameters.length)
    (hstack : g.stack = argsL.reverse ++ .ref b :: rest) (hW : 2 * g.monitorRoom + (rest.map fun v => v.category).sum ≤ W) (hdg : decode c.code g.pc = .ok (.invokespecial index, 3))
    (hpre : ∀ vm₁, s.WarmedH vm₁ → Pre ⟨T.setVm vm₁, locs, cells, slots⟩ (Value.ref b :: argsL).toArray) :
    (∃ (v : Option Value) (vm₁ : Vm) (B : Pt), s.WarmedH vm₁ ∧ Stand p l e R s m args below meth c B.U B.locs B.cells B.slots ∧ Post ⟨T.setVm vm₁, locs, cells, slots⟩ (Value.ref b :: argsL).toArray v B ∧
      ∀ target, Steps p.tables e below (B.U.setTop { g with pc := g.pc + 3, stack := v.toList ++ rest }) target → Steps p.tables e below (T.setTop g) target) ∨
    (∃ (q : Addr) (vm₁ : Vm) (B : Pt), s.WarmedH vm₁ ∧ Stand p l e R s m args below meth c B.U B.locs B.cells B.slots ∧ PostX ⟨T.setVm vm₁, locs, cells, slots⟩ (Value.ref b :: argsL).toArray q B ∧
      Steps p.tables e below (T.setTop g) ((B.U.setTop { g with stack := rest }).pushFrame (.throwing q))) := by
  obtain ⟨mk, methM, hnamed, hmethM, hstM, habM⟩ := Cond.instanceMethod_spec hinst
  obtain ⟨methM', cM, hmethM', -, -, -, -, -, -, hsigM⟩ := Cond.code_spec hnamed hcode
  cases hmethM.symm.trans hmethM'
  obtain ⟨ps, dk, kp, hps, hdk, hkp, hsuper, -, -, hnid⟩ := Cond.superclass_spec hown hsup
  have hn : s.methodNamed? ⟨y.cls, y.name, y.desc⟩ = some mk := hnamed
  have hpm : ps = mk.cls := Option.some.inj (hps.symm.trans (findClass_of_methodNamed hnamed))
  have hsub : s.vm.isSubclass ps mk.cls = true := by rw [hpm]; simp [Vm.isSubclass, Vm.isSubclassAux]
  obtain ⟨vm₁, X₁, hstep₁⟩ := X.invokespecialUp hexec hown hlink hsame hn hmethM hstM habM hno hdk hnid hps hsuper hsub (a := b) (cell := cellB) hcell
    (fun z h => by rw [h] at hobj; cases hobj) hkB (g := g) hg (argsL := argsL) (rest := rest) (hlen _ hsigM) hstack hdg
  rcases hK m meth c ⟨T.setVm vm₁, locs, cells, slots⟩ { g with stack := rest } (.invokespecial index) mk (Value.ref b :: argsL).toArray X₁ hg hsize hdg hW (X₁.named hnamed) (hpre vm₁ X₁.warmed) with ⟨v, B, X', hpost, hsteps⟩ | ⟨q, B, X', hpost, hsteps⟩
  · exact Or.inl ⟨v, vm₁, B, X₁.warmed, X', hpost, fun target h => hstep₁ _ (by rw [doInvoke_state]; exact hsteps.trans h)⟩
  · exact Or.inr ⟨q, vm₁, B, X₁.warmed, X', hpost, hstep₁ _ (by rw [doInvoke_state]; exact hsteps)⟩
theorem vx_runSU {y : MethodName} {bytes cc : ByteArray} {maxL nL mc ms n index : Nat} {ret : Option FieldType} {ws : List Cond} {rm : Room} {Pc : Array Value → State → Prop} {Qc : Array Value → State → Outcome → State → Prop} {XC : String → State → State → Prop} {free : Addr → Prop} {Ts : List Cond} {own C : String} {cC : ClassId} {b : Addr} {As rest : List Value} {g : JFrame}
    (hat : ClassAt s C cC) (S : CallFix p m c cc nL s args Ts own) (hM : vx_Met l y ws rm Pc Qc XC mc ms free) (cw : va_CS R s args own index y bytes maxL ret ws rm mc ms n) (hp : PreV s H C b Pc As)
    (hg : g.method = m) (hn : As.length = n) (hsize : g.locals.size = nL) (hstack : g.stack = As.reverse ++ .ref b :: rest) (hW : 2 * g.monitorRoom + (rest.map fun v => v.category).sum ≤ 8) (hdg : decode cc g.pc = .ok (.invokespecial index, 3)) (hf : cells + mc ≤ R.cells ∧ slots + ms ≤ R.slots) :
    vx_Run p l e R s m args below meth c H locs cells slots mc ms g rest (Qc (Value.ref b :: As).toArray) XC free := by
  obtain ⟨⟨hrc, hrs, hfr, hlo, hws, hcw⟩, hl1, hl2, hl3, hl4, hini, hcode, hno, hlen⟩ := cw
  have hK : vx_Back l R p e below s args y 3 8 (PreOf R mc ms Pc) (PostOf Qc mc ms free) (vx_Post XC mc ms free) := vx_back (bytes := bytes) (maxL := maxL) (ret := ret) hM hp.1 hrc hrs hfr hlo hws hcw (fun a' U hW => word_at hW (Or.inl (by first | rfl | simp [Cond.onTables, Cond.keeps, Cond.steady])) hini)
  obtain ⟨hx, hb, hml, ho, -⟩ := S
  obtain ⟨-, ⟨cellB, hcB, hoB, hclB⟩, hPc⟩ := hp
  obtain ⟨hfc, kB, hkB, -⟩ := hat
  cases hfc.symm.trans hclB
  intro T hT X
  rcases vx_callSU X hx (bytes := bytes) (maxL := maxL) (ret := ret) ho hl1 hl2 hl3 hl4 hcode hno hK (by rw [hT]; exact hcB) hoB hkB hg (hsize.trans hml.symm) (argsL := As) (rest := rest) (fun sig h => hn.trans (hlen sig h)) hstack hW (by rw [hb]; exact hdg)
    (fun vm₁ hW₁ => ⟨hf.1, hf.2, hPc (T.setVm vm₁) hT hW₁⟩) with ⟨v, vm₁, ⟨U', l2, c2, s2⟩, hW₁, X', ⟨g', mk, t, L, e1, e2, hq, h1, hL, h2, h3⟩, st⟩ | ⟨q, vm₁, ⟨U', l2, c2, s2⟩, hW₁, X', ⟨g', mk, t, L, E, ce, e1, e2, hq, hce, hcv, hcl, h1, hL, h2, h3⟩, st⟩
  · dsimp only [Pt.U, Pt.locs, Pt.cells, Pt.slots] at X' e1 e2 h1 h2 h3 st
    subst h1; subst h2; subst h3
    exact Or.inl ⟨v, (T.setVm vm₁).calling g' mk (Value.ref b :: As).toArray, t, U', L, hT, X', hL, e1, e2, hq, st⟩
  · dsimp only [Pt.U, Pt.locs, Pt.cells, Pt.slots] at X' e1 e2 h1 h2 h3 st hcl
    subst h1; subst h2; subst h3
    exact Or.inr ⟨q, (T.setVm vm₁).calling g' mk (Value.ref b :: As).toArray, t, U', L, E, ce, hT, X', hL, e1, e2, hq, hce, hcv, vx_cls hW₁ hcl, st⟩
end
/-! ===== END ===== -/
/-! ===== BEGIN a private method of a nest mate that may throw (follows va_callVN, va_callSN, va_runVN, va_runSN) ===== -/
section
variable {p : Program} {l : Launch} {e : Env} {R : Room} {s : State} {m : MethodId} {args : Array Value} {below : List Frame} {meth : Method} {c : Code} {H : Heap} {locs : List Loc} {cells slots : Nat}
variable {T : State}
theorem vx_callVN (X : Stand p l e R s m args below meth c T locs cells slots) (hexec : p.tables.exec = Jvm.exec) {own C : String} {index : Nat} {host : String} {y : MethodName} {bytes : ByteArray} {maxL : Nat} {ret : Option FieldType}
    (hown : s.vm.findClass own = some m.cls) (hlink : (Cond.methodLinkNest own index y host).before args s = true) (hinst : (Cond.instanceMethod y).before args s = true) (hsel : (Cond.selects C y y).before args s = true)
    (hcode : (Cond.code y bytes maxL ret).before args s = true) (hy : y.cls ≠ "java/lang/invoke/MethodHandle" ∧ y.cls ≠ "java/lang/invoke/VarHandle")
    {W : Nat} {Pre : Pt → Array Value → Prop} {Post : Pt → Array Value → Option Value → Pt → Prop} {PostX : Pt → Array Value → Addr → Pt → Prop} (hK : vx_Back l R p e below s args y 3 W Pre Post PostX)
    {b : Addr} {cellB : Cell} (hcell : T.heap[b]? = some cellB) (hobj : cellB.vm.isStatics = false) (hcls : s.vm.findClass C = some cellB.cls)
    {g : JFrame} (hg : g.method = m) (hsize : g.locals.size = c.maxLocals) {argsL rest : List Value} (hlen : ∀ sig, parseMethodDescriptor y.desc = some sig → argsL.length = sig.parameters.length)
    (hstack : g.stack = argsL.reverse ++ .ref b :: rest) (hW : 2 * g.monitorRoom + (rest.map fun v => v.category).sum ≤ W) (hdg : decode c.code g.pc = .ok (.invokevirtual index, 3))
    (hpre : ∀ vm₁, s.WarmedH vm₁ → Pre ⟨T.setVm vm₁, locs, cells, slots⟩ (Value.ref b :: argsL).toArray) :
    (∃ (v : Option Value) (vm₁ : Vm) (B : Pt), s.WarmedH vm₁ ∧ Stand p l e R s m args below meth c B.U B.locs B.cells B.slots ∧ Post ⟨T.setVm vm₁, locs, cells, slots⟩ (Value.ref b :: argsL).toArray v B ∧
      ∀ target, Steps p.tables e below (B.U.setTop { g with pc := g.pc + 3, stack := v.toList ++ rest }) target → Steps p.tables e below (T.setTop g) target) ∨
    (∃ (q : Addr) (vm₁ : Vm) (B : Pt), s.WarmedH vm₁ ∧ Stand p l e R s m args below meth c B.U B.locs B.cells B.slots ∧ PostX ⟨T.setVm vm₁, locs, cells, slots⟩ (Value.ref b :: argsL).toArray q B ∧
      Steps p.tables e below (T.setTop g) ((B.U.setTop { g with stack := rest }).pushFrame (.throwing q))) := by
  obtain ⟨mk, methM, hnamed, hmethM, hstM, habM⟩ := Cond.instanceMethod_spec hinst
  obtain ⟨methM', cM, hmethM', -, -, -, -, -, -, hsigM⟩ := Cond.code_spec hnamed hcode
  cases hmethM.symm.trans hmethM'
  obtain ⟨c2, r2, m2, q1, q2, q3, q4, kP, hkP, hkPi⟩ := Cond.selects_spec hsel
  cases hcls.symm.trans q1
  cases (State.methodFound?_of_named hnamed hy).symm.trans q2
  cases hnamed.symm.trans q3
  have hselP : selectMethod e.platform s.vm cellB.cls mk = .method mk := by rw [Launch.admits_selectMethod X.admits]; exact q4
  obtain ⟨vm₁, X₁, hstep₁⟩ := X.invokevirtualNest hexec hown hlink hnamed hmethM hstM hkP hkPi hy (a := b) (cell := cellB) hcell
    (fun z h => by rw [h] at hobj; cases hobj) hselP hmethM habM hkP hkPi (g := g) hg (argsL := argsL) (rest := rest) (hlen _ hsigM) hstack hdg
  rcases hK m meth c ⟨T.setVm vm₁, locs, cells, slots⟩ { g with stack := rest } (.invokevirtual index) mk (Value.ref b :: argsL).toArray X₁ hg hsize hdg hW (X₁.named hnamed) (hpre vm₁ X₁.warmed) with ⟨v, B, X', hpost, hsteps⟩ | ⟨q, B, X', hpost, hsteps⟩
  · exact Or.inl ⟨v, vm₁, B, X₁.warmed, X', hpost, fun target h => hstep₁ _ fun acts => by rw [doInvoke_state]; exact hsteps.trans h⟩
  · exact Or.inr ⟨q, vm₁, B, X₁.warmed, X', hpost, hstep₁ _ fun acts => by rw [doInvoke_state]; exact hsteps⟩
theorem vx_callSN (X : Stand p l e R s m args below meth c T locs cells slots) (hexec : p.tables.exec = Jvm.exec) {own : String} {index : Nat} {host : String} {y : MethodName} {bytes : ByteArray} {maxL : Nat} {ret : Option FieldType}
    (hown : s.vm.findClass own = some m.cls) (hlink : (Cond.methodLinkNest own index y host).before args s = true) (hstat : (Cond.static y).before args s = true) (hinit : (Cond.initialized y.cls).before args s = true)
    (hcode : (Cond.code y bytes maxL ret).before args s = true) (hy : y.cls ≠ "java/lang/invoke/MethodHandle" ∧ y.cls ≠ "java/lang/invoke/VarHandle")
    {W : Nat} {Pre : Pt → Array Value → Prop} {Post : Pt → Array Value → Option Value → Pt → Prop} {PostX : Pt → Array Value → Addr → Pt → Prop} (hK : vx_Back l R p e below s args y 3 W Pre Post PostX)
    {g : JFrame} (hg : g.method = m) (hsize : g.locals.size = c.maxLocals) {argsL rest : List Value} (hlen : ∀ sig, parseMethodDescriptor y.desc = some sig → argsL.length = sig.parameters.length)
    (hstack : g.stack = argsL.reverse ++ rest) (hW : 2 * g.monitorRoom + (rest.map fun v => v.category).sum ≤ W) (hdg : decode c.code g.pc = .ok (.invokestatic index, 3))
    (hpre : ∀ vm₁, s.WarmedH vm₁ → Pre ⟨T.setVm vm₁, locs, cells, slots⟩ argsL.toArray) :
    (∃ (v : Option Value) (vm₁ : Vm) (B : Pt), s.WarmedH vm₁ ∧ Stand p l e R s m args below meth c B.U B.locs B.cells B.slots ∧ Post ⟨T.setVm vm₁, locs, cells, slots⟩ argsL.toArray v B ∧
      ∀ target, Steps p.tables e below (B.U.setTop { g with pc := g.pc + 3, stack := v.toList ++ rest }) target → Steps p.tables e below (T.setTop g) target) ∨
    (∃ (q : Addr) (vm₁ : Vm) (B : Pt), s.WarmedH vm₁ ∧ Stand p l e R s m args below meth c B.U B.locs B.cells B.slots ∧ PostX ⟨T.setVm vm₁, locs, cells, slots⟩ argsL.toArray q B ∧
      Steps p.tables e below (T.setTop g) ((B.U.setTop { g with stack := rest }).pushFrame (.throwing q))) := by
  obtain ⟨mk, hnamed⟩ := Cond.code_named hcode
  obtain ⟨methM, cM, hmethM, -, -, -, -, -, -, hsigM⟩ := Cond.code_spec hnamed hcode
  have hstatic : methM.isStatic = true := Cond.static_spec hnamed hmethM hstat
  obtain ⟨kP, hkP, -⟩ := className_of_methodNamed hnamed
  have hinitP : kP.init = .initialized := Cond.initialized_spec (findClass_of_methodNamed hnamed) hkP hinit
  obtain ⟨vm₁, X₁, hstep₁⟩ := X.invokestaticNest hexec hown hlink hnamed hmethM hstatic hkP hinitP hy (g := g) hg (argsL := argsL) (rest := rest) (hlen _ hsigM) hstack hdg
  rcases hK m meth c ⟨T.setVm vm₁, locs, cells, slots⟩ { g with stack := rest } (.invokestatic index) mk argsL.toArray X₁ hg hsize hdg hW (X₁.named hnamed) (hpre vm₁ X₁.warmed) with ⟨v, B, X', hpost, hsteps⟩ | ⟨q, B, X', hpost, hsteps⟩
  · exact Or.inl ⟨v, vm₁, B, X₁.warmed, X', hpost, fun target h => hstep₁ _ fun acts => by rw [doInvoke_state]; exact hsteps.trans h⟩
  · exact Or.inr ⟨q, vm₁, B, X₁.warmed, X', hpost, hstep₁ _ fun acts => by rw [doInvoke_state]; exact hsteps⟩
theorem vx_runVN {y : MethodName} {bytes cc : ByteArray} {maxL nL mc ms n index : Nat} {ret : Option FieldType} {ws : List Cond} {rm : Room} {Pc : Array Value → State → Prop} {Qc : Array Value → State → Outcome → State → Prop} {XC : String → State → State → Prop} {free : Addr → Prop} {Ts : List Cond} {own C host : String} {b : Addr} {As rest : List Value} {g : JFrame}
    (S : CallFix p m c cc nL s args Ts own) (hM : vx_Met l y ws rm Pc Qc XC mc ms free) (cw : va_CN R s args own index y host bytes maxL ret ws rm mc ms n ∧ (Cond.instanceMethod y).before args s = true ∧ (Cond.selects C y y).before args s = true) (hp : PreV s H C b Pc As)
    (hg : g.method = m) (hn : As.length = n) (hsize : g.locals.size = nL) (hstack : g.stack = As.reverse ++ .ref b :: rest) (hW : 2 * g.monitorRoom + (rest.map fun v => v.category).sum ≤ 8) (hdg : decode cc g.pc = .ok (.invokevirtual index, 3)) (hf : cells + mc ≤ R.cells ∧ slots + ms ≤ R.slots) :
    vx_Run p l e R s m args below meth c H locs cells slots mc ms g rest (Qc (Value.ref b :: As).toArray) XC free := by
  obtain ⟨⟨⟨hrc, hrs, hfr, hlo, hws, hcw⟩, hcode, hini, hy, hlen, hl⟩, hx1, hx2⟩ := cw
  have hK : vx_Back l R p e below s args y 3 8 (PreOf R mc ms Pc) (PostOf Qc mc ms free) (vx_Post XC mc ms free) := vx_back (bytes := bytes) (maxL := maxL) (ret := ret) hM hp.1 hrc hrs hfr hlo hws hcw (fun a' U hW => word_at hW (Or.inl (by first | rfl | simp [Cond.onTables, Cond.keeps, Cond.steady])) hini)
  obtain ⟨hx, hb, hml, ho, -⟩ := S
  obtain ⟨-, ⟨cellB, hcB, hoB, hclB⟩, hPc⟩ := hp
  intro T hT X
  rcases vx_callVN X hx (C := C) (bytes := bytes) (maxL := maxL) (ret := ret) ho hl hx1 hx2 hcode hy hK (by rw [hT]; exact hcB) hoB hclB hg (hsize.trans hml.symm) (argsL := As) (rest := rest) (fun sig h => hn.trans (hlen sig h)) hstack hW (by rw [hb]; exact hdg)
    (fun vm₁ hW₁ => ⟨hf.1, hf.2, hPc (T.setVm vm₁) hT hW₁⟩) with ⟨v, vm₁, ⟨U', l2, c2, s2⟩, hW₁, X', ⟨g', mk, t, L, e1, e2, hq, h1, hL, h2, h3⟩, st⟩ | ⟨q, vm₁, ⟨U', l2, c2, s2⟩, hW₁, X', ⟨g', mk, t, L, E, ce, e1, e2, hq, hce, hcv, hcl, h1, hL, h2, h3⟩, st⟩
  · dsimp only [Pt.U, Pt.locs, Pt.cells, Pt.slots] at X' e1 e2 h1 h2 h3 st
    subst h1; subst h2; subst h3
    exact Or.inl ⟨v, (T.setVm vm₁).calling g' mk (Value.ref b :: As).toArray, t, U', L, hT, X', hL, e1, e2, hq, st⟩
  · dsimp only [Pt.U, Pt.locs, Pt.cells, Pt.slots] at X' e1 e2 h1 h2 h3 st hcl
    subst h1; subst h2; subst h3
    exact Or.inr ⟨q, (T.setVm vm₁).calling g' mk (Value.ref b :: As).toArray, t, U', L, E, ce, hT, X', hL, e1, e2, hq, hce, hcv, vx_cls hW₁ hcl, st⟩
theorem vx_runSN {y : MethodName} {bytes cc : ByteArray} {maxL nL mc ms n index : Nat} {ret : Option FieldType} {ws : List Cond} {rm : Room} {Pc : Array Value → State → Prop} {Qc : Array Value → State → Outcome → State → Prop} {XC : String → State → State → Prop} {free : Addr → Prop} {Ts : List Cond} {own host : String} {As rest : List Value} {g : JFrame}
    (S : CallFix p m c cc nL s args Ts own) (hM : vx_Met l y ws rm Pc Qc XC mc ms free) (cw : va_CN R s args own index y host bytes maxL ret ws rm mc ms n ∧ (Cond.static y).before args s = true ∧ True) (hp : PreS s H Pc As)
    (hg : g.method = m) (hn : As.length = n) (hsize : g.locals.size = nL) (hstack : g.stack = As.reverse ++ rest) (hW : 2 * g.monitorRoom + (rest.map fun v => v.category).sum ≤ 8) (hdg : decode cc g.pc = .ok (.invokestatic index, 3)) (hf : cells + mc ≤ R.cells ∧ slots + ms ≤ R.slots) :
    vx_Run p l e R s m args below meth c H locs cells slots mc ms g rest (Qc As.toArray) XC free := by
  obtain ⟨⟨⟨hrc, hrs, hfr, hlo, hws, hcw⟩, hcode, hini, hy, hlen, hl⟩, hx1, hx2⟩ := cw
  have hK : vx_Back l R p e below s args y 3 8 (PreOf R mc ms Pc) (PostOf Qc mc ms free) (vx_Post XC mc ms free) := vx_back (bytes := bytes) (maxL := maxL) (ret := ret) hM hp.1 hrc hrs hfr hlo hws hcw (fun a' U hW => word_at hW (Or.inl (by first | rfl | simp [Cond.onTables, Cond.keeps, Cond.steady])) hini)
  obtain ⟨hx, hb, hml, ho, -⟩ := S
  have hPc := hp.2
  intro T hT X
  rcases vx_callSN X hx (bytes := bytes) (maxL := maxL) (ret := ret) ho hl hx1 hini hcode hy hK hg (hsize.trans hml.symm) (argsL := As) (rest := rest) (fun sig h => hn.trans (hlen sig h)) hstack hW (by rw [hb]; exact hdg)
    (fun vm₁ hW₁ => ⟨hf.1, hf.2, hPc (T.setVm vm₁) hT hW₁⟩) with ⟨v, vm₁, ⟨U', l2, c2, s2⟩, hW₁, X', ⟨g', mk, t, L, e1, e2, hq, h1, hL, h2, h3⟩, st⟩ | ⟨q, vm₁, ⟨U', l2, c2, s2⟩, hW₁, X', ⟨g', mk, t, L, E, ce, e1, e2, hq, hce, hcv, hcl, h1, hL, h2, h3⟩, st⟩
  · dsimp only [Pt.U, Pt.locs, Pt.cells, Pt.slots] at X' e1 e2 h1 h2 h3 st
    subst h1; subst h2; subst h3
    exact Or.inl ⟨v, (T.setVm vm₁).calling g' mk As.toArray, t, U', L, hT, X', hL, e1, e2, hq, st⟩
  · dsimp only [Pt.U, Pt.locs, Pt.cells, Pt.slots] at X' e1 e2 h1 h2 h3 st hcl
    subst h1; subst h2; subst h3
    exact Or.inr ⟨q, (T.setVm vm₁).calling g' mk As.toArray, t, U', L, E, ce, hT, X', hL, e1, e2, hq, hce, hcv, vx_cls hW₁ hcl, st⟩
end
/-! ===== END ===== -/
/-! ===== BEGIN calls by an interface of methods that may throw (vx_callIF, vx_runF follow va_callIF, va_runF of this kit) ===== -/
section
variable {p : Program} {l : Launch} {e : Env} {R : Room} {s : State} {m : MethodId} {args : Array Value} {below : List Frame} {meth : Method} {c : Code} {H : Heap} {locs : List Loc} {cells slots : Nat} {Q : State → Prop}
variable {mc ms : Nat} {free : Addr → Prop} {A0 A1 : Nat → Prop} {H0 : Heap} {a : Array Value} {pc : Nat} {ls : Array Slot} {st0 rest : List Value}
def vx_Run5 (p : Program) (l : Launch) (e : Env) (R : Room) (s : State) (m : MethodId) (args : Array Value) (below : List Frame) (meth : Method) (c : Code) (H : Heap) (locs : List Loc) (cells slots mc ms : Nat) (g : JFrame) (rest : List Value) (Qa : State → Outcome → State → Prop) (XC : String → State → State → Prop) (free : Addr → Prop) : Prop :=
  ∀ T : State, T.heap = H → Stand p l e R s m args below meth c T locs cells slots →
    (∃ (v : Option Value) (st₀ t T' : State) (L : List Loc), st₀.heap = H ∧ Stand p l e R s m args below meth c T' (locs ++ L) (cells + mc) (slots + ms) ∧ (∀ q ∈ L, free q.base) ∧ T'.heap = t.heap ∧ T'.vm = t.vm ∧ Qa st₀ (.returned v) t ∧
      Goes p e below T g T' { g with pc := g.pc + 5, stack := v.toList ++ rest }) ∨
    (∃ (q : Addr) (st₀ t T' : State) (L : List Loc) (E : String) (ce : Cell), st₀.heap = H ∧ Stand p l e R s m args below meth c T' (locs ++ L) (cells + mc) (slots + ms) ∧ (∀ z ∈ L, free z.base) ∧ T'.heap = t.heap ∧ T'.vm = t.vm ∧ XC E st₀ t ∧ t.heap[q]? = some ce ∧ ce.vm = .none ∧ s.vm.findClass E = some ce.cls ∧
      Steps p.tables e below (T.setTop g) ((T'.setTop { g with stack := rest }).pushFrame (.throwing q)))
theorem vx_callIF {T : State} (X : Stand p l e R s m args below meth c T locs cells slots) (hexec : p.tables.exec = Jvm.exec) {own C : String} {index count : Nat} {x y : MethodName} {bytes : ByteArray} {maxL : Nat} {ret : Option FieldType}
    (hown : s.vm.findClass own = some m.cls) (hlink : (Cond.methodLink own index x).before args s = true) (hdecl : (Cond.declares x).before args s = true) (hface : (Cond.interfaceMethod x.cls x.cls x.name x.desc).before args s = true)
    (hsel : (Cond.selects C x y).before args s = true) (hinst : (Cond.instanceMethod y).before args s = true) (hpub : (Cond.publicMethod y).before args s = true) (hunh : (Cond.unhidden C x.name x.desc).before args s = true)
    (hcast : (Cond.castable C x.cls).before args s = true) (hcode : (Cond.code y bytes maxL ret).before args s = true) (hx : x.cls ≠ "java/lang/invoke/MethodHandle" ∧ x.cls ≠ "java/lang/invoke/VarHandle")
    {W9 : Nat} {Pre : Pt → Array Value → Prop} {Post : Pt → Array Value → Option Value → Pt → Prop} {PostX : Pt → Array Value → Addr → Pt → Prop} (hK : vx_Back l R p e below s args y 5 W9 Pre Post PostX)
    {b : Addr} {cellB : Cell} {kB : Class} (hcell : T.heap[b]? = some cellB) (hobj : cellB.vm.isStatics = false) (hcls : s.vm.findClass C = some cellB.cls) (hkB : s.vm.classes[cellB.cls]? = some kB)
    {g : JFrame} (hg : g.method = m) (hsize : g.locals.size = c.maxLocals) {argsL rest : List Value} (hlen : ∀ sig, parseMethodDescriptor x.desc = some sig → argsL.length = sig.parameters.length)
    (hstack : g.stack = argsL.reverse ++ .ref b :: rest) (hW : 2 * g.monitorRoom + (rest.map fun v => v.category).sum ≤ W9) (hdg : decode c.code g.pc = .ok (.invokeinterface index count, 5))
    (hpre : ∀ vm₁, s.WarmedH vm₁ → Pre ⟨T.setVm vm₁, locs, cells, slots⟩ (Value.ref b :: argsL).toArray) :
    (∃ (v : Option Value) (vm₁ : Vm) (B : Pt), s.WarmedH vm₁ ∧ Stand p l e R s m args below meth c B.U B.locs B.cells B.slots ∧ Post ⟨T.setVm vm₁, locs, cells, slots⟩ (Value.ref b :: argsL).toArray v B ∧
      ∀ target, Steps p.tables e below (B.U.setTop { g with pc := g.pc + 5, stack := v.toList ++ rest }) target → Steps p.tables e below (T.setTop g) target) ∨
    (∃ (q : Addr) (vm₁ : Vm) (B : Pt), s.WarmedH vm₁ ∧ Stand p l e R s m args below meth c B.U B.locs B.cells B.slots ∧ PostX ⟨T.setVm vm₁, locs, cells, slots⟩ (Value.ref b :: argsL).toArray q B ∧
      Steps p.tables e below (T.setTop g) ((B.U.setTop { g with stack := rest }).pushFrame (.throwing q))) := by
  obtain ⟨r0, r, hn, hrm, hstR, hsigR⟩ := Cond.declares_spec hdecl
  obtain ⟨cL, kL, r1, hcL, hkL, hiL, hfoundL, hn1⟩ := Cond.interfaceMethod_spec hface
  cases hn.symm.trans hn1
  have hr0cls : r0.cls = cL := Option.some.inj ((findClass_of_methodNamed hn).symm.trans hcL)
  obtain ⟨hnameR, hdescR⟩ := name_of_methodNamed hn hrm
  obtain ⟨mk, methM, hnamed, hmethM, -, habM⟩ := Cond.instanceMethod_spec hinst
  obtain ⟨c2, r2, m2, q1, q2, q3, q4, -⟩ := Cond.selects_spec hsel
  cases hcls.symm.trans q1
  cases hfoundL.symm.trans q2
  cases hnamed.symm.trans q3
  have hselP : selectMethod e.platform s.vm cellB.cls r0 = .method mk := by rw [Launch.admits_selectMethod X.admits]; exact q4
  have hpubM : hasFlag methM.accessFlags Acc.public_ = true := Cond.publicMethod_spec hnamed hmethM hpub
  have hway : ((cellB.cls :: s.vm.superclasses cellB.cls).any fun k => (declaredIn s.vm r.name r.desc k).any fun (_, z) => z.isPrivate || z.isStatic) = false := by
    rw [hnameR, hdescR]; exact Cond.unhidden_spec hcls hunh
  obtain ⟨c3, t3, w1, w2, w3⟩ := Cond.castable_spec hcast
  cases hcls.symm.trans w1
  cases hcL.symm.trans w2
  obtain ⟨vm₁, X₁, hstep₁⟩ := X.invokeinterface hexec hown hlink hn hrm hstR (by rw [hr0cls]; exact hkL) hiL hx (a := b) (cell := cellB) (kcell := kB) hcell
    (fun z h => by rw [h] at hobj; cases hobj) hkB (by rw [hr0cls]; exact w3) hselP hmethM hway hpubM habM (g := g) hg (argsL := argsL) (rest := rest) (hlen _ hsigR) hstack hdg
  rcases hK m meth c ⟨T.setVm vm₁, locs, cells, slots⟩ { g with stack := rest } (.invokeinterface index count) mk (Value.ref b :: argsL).toArray X₁ hg hsize hdg hW (X₁.named hnamed) (hpre vm₁ X₁.warmed) with ⟨v, B, X', hpost, hsteps⟩ | ⟨q, B, X', hpost, hsteps⟩
  · exact Or.inl ⟨v, vm₁, B, X₁.warmed, X', hpost, fun target h => hstep₁ _ fun acts => by rw [doInvoke_state]; exact hsteps.trans h⟩
  · exact Or.inr ⟨q, vm₁, B, X₁.warmed, X', hpost, hstep₁ _ fun acts => by rw [doInvoke_state]; exact hsteps⟩
theorem vx_runF {x y : MethodName} {bytes cc : ByteArray} {maxL nL mc ms n index count : Nat} {ret : Option FieldType} {ws : List Cond} {rm : Room} {Pc : Array Value → State → Prop} {Qc : Array Value → State → Outcome → State → Prop} {XC : String → State → State → Prop} {free : Addr → Prop} {Ts : List Cond} {own C : String} {cC : ClassId} {b : Addr} {As rest : List Value} {g : JFrame}
    (hat : ClassAt s C cC) (S : CallFix p m c cc nL s args Ts own) (hM : vx_Met l y ws rm Pc Qc XC mc ms free) (cw : va_CI R s args own C index x y bytes maxL ret ws rm mc ms n) (hp : PreV s H C b Pc As)
    (hg : g.method = m) (hn : As.length = n) (hsize : g.locals.size = nL) (hstack : g.stack = As.reverse ++ .ref b :: rest) (hW : 2 * g.monitorRoom + (rest.map fun v => v.category).sum ≤ 8) (hdg : decode cc g.pc = .ok (.invokeinterface index count, 5)) (hf : cells + mc ≤ R.cells ∧ slots + ms ≤ R.slots) :
    vx_Run5 p l e R s m args below meth c H locs cells slots mc ms g rest (Qc (Value.ref b :: As).toArray) XC free := by
  obtain ⟨hrc, hrs, hfr, hlo, hws, hcw⟩ := cw.back
  have hini := cw.init
  have hK : vx_Back l R p e below s args y 5 8 (PreOf R mc ms Pc) (PostOf Qc mc ms free) (vx_Post XC mc ms free) := vx_back (bytes := bytes) (maxL := maxL) (ret := ret) hM hp.1 hrc hrs hfr hlo hws hcw (fun a' U hW => word_at hW (Or.inl (by first | rfl | simp [Cond.onTables, Cond.keeps, Cond.steady])) hini)
  obtain ⟨hx, hb, hml, ho, -⟩ := S
  obtain ⟨-, ⟨cellB, hcB, hoB, hclB⟩, hPc⟩ := hp
  obtain ⟨hfc, kB, hkB, -⟩ := hat
  cases hfc.symm.trans hclB
  intro T hT X
  rcases vx_callIF X hx (C := C) (bytes := bytes) (maxL := maxL) (ret := ret) ho cw.link cw.decl cw.face cw.sel cw.inst cw.pub cw.unh cw.cast cw.code cw.notMH hK (by rw [hT]; exact hcB) hoB hclB hkB hg (hsize.trans hml.symm) (argsL := As) (rest := rest) (fun sig h => hn.trans (cw.len sig h)) hstack hW (by rw [hb]; exact hdg)
    (fun vm₁ hW₁ => ⟨hf.1, hf.2, hPc (T.setVm vm₁) hT hW₁⟩) with ⟨v, vm₁, ⟨U', l2, c2, s2⟩, hW₁, X', ⟨g', mk, t, L, e1, e2, hq, h1, hL, h2, h3⟩, st⟩ | ⟨q, vm₁, ⟨U', l2, c2, s2⟩, hW₁, X', ⟨g', mk, t, L, E, ce, e1, e2, hq, hce, hcv, hcl, h1, hL, h2, h3⟩, st⟩
  · dsimp only [Pt.U, Pt.locs, Pt.cells, Pt.slots] at X' e1 e2 h1 h2 h3 st
    subst h1; subst h2; subst h3
    exact Or.inl ⟨v, (T.setVm vm₁).calling g' mk (Value.ref b :: As).toArray, t, U', L, hT, X', hL, e1, e2, hq, st⟩
  · dsimp only [Pt.U, Pt.locs, Pt.cells, Pt.slots] at X' e1 e2 h1 h2 h3 st hcl
    subst h1; subst h2; subst h3
    exact Or.inr ⟨q, (T.setVm vm₁).calling g' mk (Value.ref b :: As).toArray, t, U', L, E, ce, hT, X', hL, e1, e2, hq, hce, hcv, vx_cls hW₁ hcl, st⟩
theorem vx_callFv {S SX : Type} {post : S → Prop} {px : SX → Prop} {B : S → State → Prop} {BX : String → SX → State → Prop} {AX : Nat → Prop} (hr : vx_Run5 p l e R s m args below meth c H locs cells slots mc ms (F0 m pc ls st0) rest (va_Qv post B A1 a) (vx_X px BX AX) free) (hS : va_S A0 H0 H locs) (hA : ∀ q, q < H.size → A1 q → A0 q) (hf : ∀ q, free q → A0 q) (hAX : ∀ q, q < H.size → AX q → A0 q)
    (kx : ∀ (E : String) (ce : Cell) (q9 : Addr) (u : SX) (t : State) (H1 : Heap) (locs1 : List Loc), t.heap = H1 → s.vm.Alike t.vm → px u → BX E u t → H.size ≤ H1.size → (∀ q : Nat, q < H.size → ¬ AX q → H1[q]? = H[q]?) → va_S A0 H0 H1 locs1 → H1[q9]? = some ce → ce.vm = .none → s.vm.findClass E = some ce.cls → vx_W p l e R s m args below meth c H1 locs1 (cells + mc) (slots + ms) Q (F0 m pc ls rest) q9)
    (kk : ∀ (u : S) (t : State) (H1 : Heap) (locs1 : List Loc), t.heap = H1 → s.vm.Alike t.vm → post u → B u t → H.size ≤ H1.size → (∀ q : Nat, q < H.size → ¬ A1 q → H1[q]? = H[q]?) → va_S A0 H0 H1 locs1 → W p l e R s m args below meth c H1 locs1 (cells + mc) (slots + ms) Q (F0 m (pc + 5) ls (rest))) : W p l e R s m args below meth c H locs cells slots Q (F0 m pc ls st0) := by
  intro T hT X
  rcases hr T hT X with ⟨v, st₀, t, T', L, h0, X', hL, e1, e2, ⟨⟨u, hv, hp, hb⟩, hF⟩, st⟩ | ⟨q, st₀, t, T', L, E, ce, h0, X', hL, e1, e2, ⟨u, hp, hb, hF⟩, hce, hcv, hcl, st⟩
  · cases hv
    obtain ⟨k1, k2, k3⟩ := vx_keep h0 e1 hS hA hf hL hF
    obtain ⟨t2, a1, b1⟩ := kk u t T'.heap (locs ++ L) e1.symm (by rw [← e2]; exact X'.warmed.alike) hp hb k1 k2 k3 T' rfl X'
    exact ⟨t2, st t2 a1, b1⟩
  · obtain ⟨k1, k2, k3⟩ := vx_keep h0 e1 hS hAX hf hL hF
    obtain ⟨t2, a1, b1⟩ := kx E ce q u t T'.heap (locs ++ L) e1.symm (by rw [← e2]; exact X'.warmed.alike) hp hb k1 k2 k3 (by rw [e1]; exact hce) hcv hcl T' rfl X'
    exact ⟨t2, st.trans a1, b1⟩
theorem vx_callFi {S SX : Type} {post : Int32 → S → Prop} {px : SX → Prop} {B : S → State → Prop} {BX : String → SX → State → Prop} {AX : Nat → Prop} (hr : vx_Run5 p l e R s m args below meth c H locs cells slots mc ms (F0 m pc ls st0) rest (va_Qi post B A1 a) (vx_X px BX AX) free) (hS : va_S A0 H0 H locs) (hA : ∀ q, q < H.size → A1 q → A0 q) (hf : ∀ q, free q → A0 q) (hAX : ∀ q, q < H.size → AX q → A0 q)
    (kx : ∀ (E : String) (ce : Cell) (q9 : Addr) (u : SX) (t : State) (H1 : Heap) (locs1 : List Loc), t.heap = H1 → s.vm.Alike t.vm → px u → BX E u t → H.size ≤ H1.size → (∀ q : Nat, q < H.size → ¬ AX q → H1[q]? = H[q]?) → va_S A0 H0 H1 locs1 → H1[q9]? = some ce → ce.vm = .none → s.vm.findClass E = some ce.cls → vx_W p l e R s m args below meth c H1 locs1 (cells + mc) (slots + ms) Q (F0 m pc ls rest) q9)
    (kk : ∀ (r : Int32) (u : S) (t : State) (H1 : Heap) (locs1 : List Loc), t.heap = H1 → s.vm.Alike t.vm → post r u → B u t → H.size ≤ H1.size → (∀ q : Nat, q < H.size → ¬ A1 q → H1[q]? = H[q]?) → va_S A0 H0 H1 locs1 → W p l e R s m args below meth c H1 locs1 (cells + mc) (slots + ms) Q (F0 m (pc + 5) ls (.int r :: rest))) : W p l e R s m args below meth c H locs cells slots Q (F0 m pc ls st0) := by
  intro T hT X
  rcases hr T hT X with ⟨v, st₀, t, T', L, h0, X', hL, e1, e2, ⟨⟨r, u, hv, hp, hb⟩, hF⟩, st⟩ | ⟨q, st₀, t, T', L, E, ce, h0, X', hL, e1, e2, ⟨u, hp, hb, hF⟩, hce, hcv, hcl, st⟩
  · cases hv
    obtain ⟨k1, k2, k3⟩ := vx_keep h0 e1 hS hA hf hL hF
    obtain ⟨t2, a1, b1⟩ := kk r u t T'.heap (locs ++ L) e1.symm (by rw [← e2]; exact X'.warmed.alike) hp hb k1 k2 k3 T' rfl X'
    exact ⟨t2, st t2 a1, b1⟩
  · obtain ⟨k1, k2, k3⟩ := vx_keep h0 e1 hS hAX hf hL hF
    obtain ⟨t2, a1, b1⟩ := kx E ce q u t T'.heap (locs ++ L) e1.symm (by rw [← e2]; exact X'.warmed.alike) hp hb k1 k2 k3 (by rw [e1]; exact hce) hcv hcl T' rfl X'
    exact ⟨t2, st.trans a1, b1⟩
theorem vx_callFl {S SX : Type} {post : Int64 → S → Prop} {px : SX → Prop} {B : S → State → Prop} {BX : String → SX → State → Prop} {AX : Nat → Prop} (hr : vx_Run5 p l e R s m args below meth c H locs cells slots mc ms (F0 m pc ls st0) rest (va_Ql post B A1 a) (vx_X px BX AX) free) (hS : va_S A0 H0 H locs) (hA : ∀ q, q < H.size → A1 q → A0 q) (hf : ∀ q, free q → A0 q) (hAX : ∀ q, q < H.size → AX q → A0 q)
    (kx : ∀ (E : String) (ce : Cell) (q9 : Addr) (u : SX) (t : State) (H1 : Heap) (locs1 : List Loc), t.heap = H1 → s.vm.Alike t.vm → px u → BX E u t → H.size ≤ H1.size → (∀ q : Nat, q < H.size → ¬ AX q → H1[q]? = H[q]?) → va_S A0 H0 H1 locs1 → H1[q9]? = some ce → ce.vm = .none → s.vm.findClass E = some ce.cls → vx_W p l e R s m args below meth c H1 locs1 (cells + mc) (slots + ms) Q (F0 m pc ls rest) q9)
    (kk : ∀ (r : Int64) (u : S) (t : State) (H1 : Heap) (locs1 : List Loc), t.heap = H1 → s.vm.Alike t.vm → post r u → B u t → H.size ≤ H1.size → (∀ q : Nat, q < H.size → ¬ A1 q → H1[q]? = H[q]?) → va_S A0 H0 H1 locs1 → W p l e R s m args below meth c H1 locs1 (cells + mc) (slots + ms) Q (F0 m (pc + 5) ls (.long r :: rest))) : W p l e R s m args below meth c H locs cells slots Q (F0 m pc ls st0) := by
  intro T hT X
  rcases hr T hT X with ⟨v, st₀, t, T', L, h0, X', hL, e1, e2, ⟨⟨r, u, hv, hp, hb⟩, hF⟩, st⟩ | ⟨q, st₀, t, T', L, E, ce, h0, X', hL, e1, e2, ⟨u, hp, hb, hF⟩, hce, hcv, hcl, st⟩
  · cases hv
    obtain ⟨k1, k2, k3⟩ := vx_keep h0 e1 hS hA hf hL hF
    obtain ⟨t2, a1, b1⟩ := kk r u t T'.heap (locs ++ L) e1.symm (by rw [← e2]; exact X'.warmed.alike) hp hb k1 k2 k3 T' rfl X'
    exact ⟨t2, st t2 a1, b1⟩
  · obtain ⟨k1, k2, k3⟩ := vx_keep h0 e1 hS hAX hf hL hF
    obtain ⟨t2, a1, b1⟩ := kx E ce q u t T'.heap (locs ++ L) e1.symm (by rw [← e2]; exact X'.warmed.alike) hp hb k1 k2 k3 (by rw [e1]; exact hce) hcv hcl T' rfl X'
    exact ⟨t2, st.trans a1, b1⟩
theorem vx_callFf {S SX : Type} {post : UInt32 → S → Prop} {px : SX → Prop} {B : S → State → Prop} {BX : String → SX → State → Prop} {AX : Nat → Prop} (hr : vx_Run5 p l e R s m args below meth c H locs cells slots mc ms (F0 m pc ls st0) rest (va_Qf post B A1 a) (vx_X px BX AX) free) (hS : va_S A0 H0 H locs) (hA : ∀ q, q < H.size → A1 q → A0 q) (hf : ∀ q, free q → A0 q) (hAX : ∀ q, q < H.size → AX q → A0 q)
    (kx : ∀ (E : String) (ce : Cell) (q9 : Addr) (u : SX) (t : State) (H1 : Heap) (locs1 : List Loc), t.heap = H1 → s.vm.Alike t.vm → px u → BX E u t → H.size ≤ H1.size → (∀ q : Nat, q < H.size → ¬ AX q → H1[q]? = H[q]?) → va_S A0 H0 H1 locs1 → H1[q9]? = some ce → ce.vm = .none → s.vm.findClass E = some ce.cls → vx_W p l e R s m args below meth c H1 locs1 (cells + mc) (slots + ms) Q (F0 m pc ls rest) q9)
    (kk : ∀ (r : UInt32) (u : S) (t : State) (H1 : Heap) (locs1 : List Loc), t.heap = H1 → s.vm.Alike t.vm → post r u → B u t → H.size ≤ H1.size → (∀ q : Nat, q < H.size → ¬ A1 q → H1[q]? = H[q]?) → va_S A0 H0 H1 locs1 → W p l e R s m args below meth c H1 locs1 (cells + mc) (slots + ms) Q (F0 m (pc + 5) ls (.float r :: rest))) : W p l e R s m args below meth c H locs cells slots Q (F0 m pc ls st0) := by
  intro T hT X
  rcases hr T hT X with ⟨v, st₀, t, T', L, h0, X', hL, e1, e2, ⟨⟨r, u, hv, hp, hb⟩, hF⟩, st⟩ | ⟨q, st₀, t, T', L, E, ce, h0, X', hL, e1, e2, ⟨u, hp, hb, hF⟩, hce, hcv, hcl, st⟩
  · cases hv
    obtain ⟨k1, k2, k3⟩ := vx_keep h0 e1 hS hA hf hL hF
    obtain ⟨t2, a1, b1⟩ := kk r u t T'.heap (locs ++ L) e1.symm (by rw [← e2]; exact X'.warmed.alike) hp hb k1 k2 k3 T' rfl X'
    exact ⟨t2, st t2 a1, b1⟩
  · obtain ⟨k1, k2, k3⟩ := vx_keep h0 e1 hS hAX hf hL hF
    obtain ⟨t2, a1, b1⟩ := kx E ce q u t T'.heap (locs ++ L) e1.symm (by rw [← e2]; exact X'.warmed.alike) hp hb k1 k2 k3 (by rw [e1]; exact hce) hcv hcl T' rfl X'
    exact ⟨t2, st.trans a1, b1⟩
theorem vx_callFd {S SX : Type} {post : UInt64 → S → Prop} {px : SX → Prop} {B : S → State → Prop} {BX : String → SX → State → Prop} {AX : Nat → Prop} (hr : vx_Run5 p l e R s m args below meth c H locs cells slots mc ms (F0 m pc ls st0) rest (va_Qd post B A1 a) (vx_X px BX AX) free) (hS : va_S A0 H0 H locs) (hA : ∀ q, q < H.size → A1 q → A0 q) (hf : ∀ q, free q → A0 q) (hAX : ∀ q, q < H.size → AX q → A0 q)
    (kx : ∀ (E : String) (ce : Cell) (q9 : Addr) (u : SX) (t : State) (H1 : Heap) (locs1 : List Loc), t.heap = H1 → s.vm.Alike t.vm → px u → BX E u t → H.size ≤ H1.size → (∀ q : Nat, q < H.size → ¬ AX q → H1[q]? = H[q]?) → va_S A0 H0 H1 locs1 → H1[q9]? = some ce → ce.vm = .none → s.vm.findClass E = some ce.cls → vx_W p l e R s m args below meth c H1 locs1 (cells + mc) (slots + ms) Q (F0 m pc ls rest) q9)
    (kk : ∀ (r : UInt64) (u : S) (t : State) (H1 : Heap) (locs1 : List Loc), t.heap = H1 → s.vm.Alike t.vm → post r u → B u t → H.size ≤ H1.size → (∀ q : Nat, q < H.size → ¬ A1 q → H1[q]? = H[q]?) → va_S A0 H0 H1 locs1 → W p l e R s m args below meth c H1 locs1 (cells + mc) (slots + ms) Q (F0 m (pc + 5) ls (.double r :: rest))) : W p l e R s m args below meth c H locs cells slots Q (F0 m pc ls st0) := by
  intro T hT X
  rcases hr T hT X with ⟨v, st₀, t, T', L, h0, X', hL, e1, e2, ⟨⟨r, u, hv, hp, hb⟩, hF⟩, st⟩ | ⟨q, st₀, t, T', L, E, ce, h0, X', hL, e1, e2, ⟨u, hp, hb, hF⟩, hce, hcv, hcl, st⟩
  · cases hv
    obtain ⟨k1, k2, k3⟩ := vx_keep h0 e1 hS hA hf hL hF
    obtain ⟨t2, a1, b1⟩ := kk r u t T'.heap (locs ++ L) e1.symm (by rw [← e2]; exact X'.warmed.alike) hp hb k1 k2 k3 T' rfl X'
    exact ⟨t2, st t2 a1, b1⟩
  · obtain ⟨k1, k2, k3⟩ := vx_keep h0 e1 hS hAX hf hL hF
    obtain ⟨t2, a1, b1⟩ := kx E ce q u t T'.heap (locs ++ L) e1.symm (by rw [← e2]; exact X'.warmed.alike) hp hb k1 k2 k3 (by rw [e1]; exact hce) hcv hcl T' rfl X'
    exact ⟨t2, st.trans a1, b1⟩
end
/-! ===== END ===== -/
/-! ===== BEGIN by an interface, a method with a table of its own that may throw (follows va_callIFW, va_runFW) ===== -/
section
variable {p : Program} {l : Launch} {e : Env} {R : Room} {s : State} {m : MethodId} {args : Array Value} {below : List Frame} {meth : Method} {c : Code} {H : Heap} {locs : List Loc} {cells slots : Nat}
theorem vx_callIFW {T : State} (X : Stand p l e R s m args below meth c T locs cells slots) (hexec : p.tables.exec = Jvm.exec) {own C : String} {index count : Nat} {x y : MethodName} {bytes : ByteArray} {maxL : Nat} {ret : Option FieldType} {hh : List (Nat × Nat × Nat × Nat)}
    (hown : s.vm.findClass own = some m.cls) (hlink : (Cond.methodLink own index x).before args s = true) (hdecl : (Cond.declares x).before args s = true) (hface : (Cond.interfaceMethod x.cls x.cls x.name x.desc).before args s = true)
    (hsel : (Cond.selects C x y).before args s = true) (hinst : (Cond.instanceMethod y).before args s = true) (hpub : (Cond.publicMethod y).before args s = true) (hunh : (Cond.unhidden C x.name x.desc).before args s = true)
    (hcast : (Cond.castable C x.cls).before args s = true) (hcode : (Cond.codeWith y bytes maxL ret hh).before args s = true) (hx : x.cls ≠ "java/lang/invoke/MethodHandle" ∧ x.cls ≠ "java/lang/invoke/VarHandle")
    {W : Nat} {Pre : Pt → Array Value → Prop} {Post : Pt → Array Value → Option Value → Pt → Prop} {PostX : Pt → Array Value → Addr → Pt → Prop} (hK : vx_Back l R p e below s args y 5 W Pre Post PostX)
    {b : Addr} {cellB : Cell} {kB : Class} (hcell : T.heap[b]? = some cellB) (hobj : cellB.vm.isStatics = false) (hcls : s.vm.findClass C = some cellB.cls) (hkB : s.vm.classes[cellB.cls]? = some kB)
    {g : JFrame} (hg : g.method = m) (hsize : g.locals.size = c.maxLocals) {argsL rest : List Value} (hlen : ∀ sig, parseMethodDescriptor x.desc = some sig → argsL.length = sig.parameters.length)
    (hstack : g.stack = argsL.reverse ++ .ref b :: rest) (hW : 2 * g.monitorRoom + (rest.map fun v => v.category).sum ≤ W) (hdg : decode c.code g.pc = .ok (.invokeinterface index count, 5))
    (hpre : ∀ vm₁, s.WarmedH vm₁ → Pre ⟨T.setVm vm₁, locs, cells, slots⟩ (Value.ref b :: argsL).toArray) :
    (∃ (v : Option Value) (vm₁ : Vm) (B : Pt), s.WarmedH vm₁ ∧ Stand p l e R s m args below meth c B.U B.locs B.cells B.slots ∧ Post ⟨T.setVm vm₁, locs, cells, slots⟩ (Value.ref b :: argsL).toArray v B ∧
      ∀ target, Steps p.tables e below (B.U.setTop { g with pc := g.pc + 5, stack := v.toList ++ rest }) target → Steps p.tables e below (T.setTop g) target) ∨
    (∃ (q : Addr) (vm₁ : Vm) (B : Pt), s.WarmedH vm₁ ∧ Stand p l e R s m args below meth c B.U B.locs B.cells B.slots ∧ PostX ⟨T.setVm vm₁, locs, cells, slots⟩ (Value.ref b :: argsL).toArray q B ∧
      Steps p.tables e below (T.setTop g) ((B.U.setTop { g with stack := rest }).pushFrame (.throwing q))) := by
  obtain ⟨r0, r, hn, hrm, hstR, hsigR⟩ := Cond.declares_spec hdecl
  obtain ⟨cL, kL, r1, hcL, hkL, hiL, hfoundL, hn1⟩ := Cond.interfaceMethod_spec hface
  cases hn.symm.trans hn1
  have hr0cls : r0.cls = cL := Option.some.inj ((findClass_of_methodNamed hn).symm.trans hcL)
  obtain ⟨hnameR, hdescR⟩ := name_of_methodNamed hn hrm
  obtain ⟨mk, methM, hnamed, hmethM, -, habM⟩ := Cond.instanceMethod_spec hinst
  obtain ⟨c2, r2, m2, q1, q2, q3, q4, -⟩ := Cond.selects_spec hsel
  cases hcls.symm.trans q1
  cases hfoundL.symm.trans q2
  cases hnamed.symm.trans q3
  have hselP : selectMethod e.platform s.vm cellB.cls r0 = .method mk := by rw [Launch.admits_selectMethod X.admits]; exact q4
  have hpubM : hasFlag methM.accessFlags Acc.public_ = true := Cond.publicMethod_spec hnamed hmethM hpub
  have hway : ((cellB.cls :: s.vm.superclasses cellB.cls).any fun k => (declaredIn s.vm r.name r.desc k).any fun (_, z) => z.isPrivate || z.isStatic) = false := by
    rw [hnameR, hdescR]; exact Cond.unhidden_spec hcls hunh
  obtain ⟨c3, t3, w1, w2, w3⟩ := Cond.castable_spec hcast
  cases hcls.symm.trans w1
  cases hcL.symm.trans w2
  obtain ⟨vm₁, X₁, hstep₁⟩ := X.invokeinterface hexec hown hlink hn hrm hstR (by rw [hr0cls]; exact hkL) hiL hx (a := b) (cell := cellB) (kcell := kB) hcell
    (fun z h => by rw [h] at hobj; cases hobj) hkB (by rw [hr0cls]; exact w3) hselP hmethM hway hpubM habM (g := g) hg (argsL := argsL) (rest := rest) (hlen _ hsigR) hstack hdg
  rcases hK m meth c ⟨T.setVm vm₁, locs, cells, slots⟩ { g with stack := rest } (.invokeinterface index count) mk (Value.ref b :: argsL).toArray X₁ hg hsize hdg hW (X₁.named hnamed) (hpre vm₁ X₁.warmed) with ⟨v, B, X', hpost, hsteps⟩ | ⟨q, B, X', hpost, hsteps⟩
  · exact Or.inl ⟨v, vm₁, B, X₁.warmed, X', hpost, fun target h => hstep₁ _ fun acts => by rw [doInvoke_state]; exact hsteps.trans h⟩
  · exact Or.inr ⟨q, vm₁, B, X₁.warmed, X', hpost, hstep₁ _ fun acts => by rw [doInvoke_state]; exact hsteps⟩
theorem vx_runFW {x y : MethodName} {bytes cc : ByteArray} {maxL nL mc ms n index count : Nat} {ret : Option FieldType} {hh : List (Nat × Nat × Nat × Nat)} {ws : List Cond} {rm : Room} {Pc : Array Value → State → Prop} {Qc : Array Value → State → Outcome → State → Prop} {XC : String → State → State → Prop} {free : Addr → Prop} {Ts : List Cond} {own C : String} {cC : ClassId} {b : Addr} {As rest : List Value} {g : JFrame}
    (hat : ClassAt s C cC) (S : CallFix p m c cc nL s args Ts own) (hM : vx_Met l y ws rm Pc Qc XC mc ms free) (cw : va_CIW R s args own C index x y bytes maxL ret hh ws rm mc ms n) (hp : PreV s H C b Pc As)
    (hg : g.method = m) (hn : As.length = n) (hsize : g.locals.size = nL) (hstack : g.stack = As.reverse ++ .ref b :: rest) (hW : 2 * g.monitorRoom + (rest.map fun v => v.category).sum ≤ 8) (hdg : decode cc g.pc = .ok (.invokeinterface index count, 5)) (hf : cells + mc ≤ R.cells ∧ slots + ms ≤ R.slots) :
    vx_Run5 p l e R s m args below meth c H locs cells slots mc ms g rest (Qc (Value.ref b :: As).toArray) XC free := by
  obtain ⟨hrc, hrs, hfr, hlo, hws, hcw⟩ := cw.back
  have hini := cw.init
  have hK : vx_Back l R p e below s args y 5 8 (PreOf R mc ms Pc) (PostOf Qc mc ms free) (vx_Post XC mc ms free) := vx_backW (hh := hh) (bytes := bytes) (maxL := maxL) (ret := ret) hM hp.1 hrc hrs hfr hlo hws hcw (fun a' U hW => word_at hW (Or.inl (by first | rfl | simp [Cond.onTables, Cond.keeps, Cond.steady])) hini)
  obtain ⟨hx, hb, hml, ho, -⟩ := S
  obtain ⟨-, ⟨cellB, hcB, hoB, hclB⟩, hPc⟩ := hp
  obtain ⟨hfc, kB, hkB, -⟩ := hat
  cases hfc.symm.trans hclB
  intro T hT X
  rcases vx_callIFW X hx (C := C) (hh := hh) (bytes := bytes) (maxL := maxL) (ret := ret) ho cw.link cw.decl cw.face cw.sel cw.inst cw.pub cw.unh cw.cast cw.code cw.notMH hK (by rw [hT]; exact hcB) hoB hclB hkB hg (hsize.trans hml.symm) (argsL := As) (rest := rest) (fun sig h => hn.trans (cw.len sig h)) hstack hW (by rw [hb]; exact hdg)
    (fun vm₁ hW₁ => ⟨hf.1, hf.2, hPc (T.setVm vm₁) hT hW₁⟩) with ⟨v, vm₁, ⟨U', l2, c2, s2⟩, hW₁, X', ⟨g', mk, t, L, e1, e2, hq, h1, hL, h2, h3⟩, st⟩ | ⟨q, vm₁, ⟨U', l2, c2, s2⟩, hW₁, X', ⟨g', mk, t, L, E, ce, e1, e2, hq, hce, hcv, hcl, h1, hL, h2, h3⟩, st⟩
  · dsimp only [Pt.U, Pt.locs, Pt.cells, Pt.slots] at X' e1 e2 h1 h2 h3 st
    subst h1; subst h2; subst h3
    exact Or.inl ⟨v, (T.setVm vm₁).calling g' mk (Value.ref b :: As).toArray, t, U', L, hT, X', hL, e1, e2, hq, st⟩
  · dsimp only [Pt.U, Pt.locs, Pt.cells, Pt.slots] at X' e1 e2 h1 h2 h3 st hcl
    subst h1; subst h2; subst h3
    exact Or.inr ⟨q, (T.setVm vm₁).calling g' mk (Value.ref b :: As).toArray, t, U', L, E, ce, hT, X', hL, e1, e2, hq, hce, hcv, vx_cls hW₁ hcl, st⟩
end
/-! ===== END ===== -/
/-! ===== BEGIN .. of methods that hand back an object of the pool ===== -/
section
variable {p : Program} {l : Launch} {e : Env} {R : Room} {s : State} {m : MethodId} {args : Array Value} {below : List Frame} {meth : Method} {c : Code} {H : Heap} {locs : List Loc} {cells slots : Nat} {Q : State → Prop}
variable {mc ms : Nat} {free : Addr → Prop} {A0 A1 : Nat → Prop} {H0 : Heap} {a : Array Value} {pc : Nat} {ls : Array Slot} {st0 rest : List Value}
theorem vx_callq {S SX : Type} {post : Option Nat → S → Prop} {px : SX → Prop} {B : S → State → Prop} {BX : String → SX → State → Prop} {AX : Nat → Prop} (hr : vx_Run p l e R s m args below meth c H locs cells slots mc ms (F0 m pc ls st0) rest (va_Qq post B A1 a) (vx_X px BX AX) free) (hS : va_S A0 H0 H locs) (hA : ∀ q, q < H.size → A1 q → A0 q) (hf : ∀ q, free q → A0 q) (hAX : ∀ q, q < H.size → AX q → A0 q)
    (kx : ∀ (E : String) (ce : Cell) (q9 : Addr) (u : SX) (t : State) (H1 : Heap) (locs1 : List Loc), t.heap = H1 → s.vm.Alike t.vm → px u → BX E u t → H.size ≤ H1.size → (∀ q : Nat, q < H.size → ¬ AX q → H1[q]? = H[q]?) → va_S A0 H0 H1 locs1 → H1[q9]? = some ce → ce.vm = .none → s.vm.findClass E = some ce.cls → vx_W p l e R s m args below meth c H1 locs1 (cells + mc) (slots + ms) Q (F0 m pc ls rest) q9)
    (kk : ∀ (r : Option Nat) (u : S) (t : State) (H1 : Heap) (locs1 : List Loc), t.heap = H1 → s.vm.Alike t.vm → post r u → B u t → H.size ≤ H1.size → (∀ q : Nat, q < H.size → ¬ A1 q → H1[q]? = H[q]?) → va_S A0 H0 H1 locs1 → W p l e R s m args below meth c H1 locs1 (cells + mc) (slots + ms) Q (F0 m (pc + 3) ls (va_rf r :: rest))) : W p l e R s m args below meth c H locs cells slots Q (F0 m pc ls st0) := by
  intro T hT X
  rcases hr T hT X with ⟨v, st₀, t, T', L, h0, X', hL, e1, e2, ⟨⟨r, u, hv, hp, hb⟩, hF⟩, st⟩ | ⟨q, st₀, t, T', L, E, ce, h0, X', hL, e1, e2, ⟨u, hp, hb, hF⟩, hce, hcv, hcl, st⟩
  · cases hv
    obtain ⟨k1, k2, k3⟩ := vx_keep h0 e1 hS hA hf hL hF
    obtain ⟨t2, a1, b1⟩ := kk r u t T'.heap (locs ++ L) e1.symm (by rw [← e2]; exact X'.warmed.alike) hp hb k1 k2 k3 T' rfl X'
    exact ⟨t2, st t2 a1, b1⟩
  · obtain ⟨k1, k2, k3⟩ := vx_keep h0 e1 hS hAX hf hL hF
    obtain ⟨t2, a1, b1⟩ := kx E ce q u t T'.heap (locs ++ L) e1.symm (by rw [← e2]; exact X'.warmed.alike) hp hb k1 k2 k3 (by rw [e1]; exact hce) hcv hcl T' rfl X'
    exact ⟨t2, st.trans a1, b1⟩
end
/-! ===== END ===== -/
/-! ===== BEGIN .. a constant ===== -/
section
variable {p : Program} {l : Launch} {e : Env} {R : Room} {s : State} {m : MethodId} {args : Array Value} {below : List Frame} {meth : Method} {c : Code} {H : Heap} {locs : List Loc} {cells slots : Nat} {Q : State → Prop}
variable {mc ms : Nat} {free : Addr → Prop} {A0 A1 : Nat → Prop} {H0 : Heap} {a : Array Value} {pc : Nat} {ls : Array Slot} {st0 rest : List Value}
theorem vx_calle {ad : Nat → Nat} {S SX : Type} {post : Option Nat → S → Prop} {px : SX → Prop} {B : S → State → Prop} {BX : String → SX → State → Prop} {AX : Nat → Prop} (hr : vx_Run p l e R s m args below meth c H locs cells slots mc ms (F0 m pc ls st0) rest (va_Qe ad post B A1 a) (vx_X px BX AX) free) (hS : va_S A0 H0 H locs) (hA : ∀ q, q < H.size → A1 q → A0 q) (hf : ∀ q, free q → A0 q) (hAX : ∀ q, q < H.size → AX q → A0 q)
    (kx : ∀ (E : String) (ce : Cell) (q9 : Addr) (u : SX) (t : State) (H1 : Heap) (locs1 : List Loc), t.heap = H1 → s.vm.Alike t.vm → px u → BX E u t → H.size ≤ H1.size → (∀ q : Nat, q < H.size → ¬ AX q → H1[q]? = H[q]?) → va_S A0 H0 H1 locs1 → H1[q9]? = some ce → ce.vm = .none → s.vm.findClass E = some ce.cls → vx_W p l e R s m args below meth c H1 locs1 (cells + mc) (slots + ms) Q (F0 m pc ls rest) q9)
    (kk : ∀ (r : Option Nat) (u : S) (t : State) (H1 : Heap) (locs1 : List Loc), t.heap = H1 → s.vm.Alike t.vm → post r u → B u t → H.size ≤ H1.size → (∀ q : Nat, q < H.size → ¬ A1 q → H1[q]? = H[q]?) → va_S A0 H0 H1 locs1 → W p l e R s m args below meth c H1 locs1 (cells + mc) (slots + ms) Q (F0 m (pc + 3) ls (va_re ad r :: rest))) : W p l e R s m args below meth c H locs cells slots Q (F0 m pc ls st0) := by
  intro T hT X
  rcases hr T hT X with ⟨v, st₀, t, T', L, h0, X', hL, e1, e2, ⟨⟨r, u, hv, hp, hb⟩, hF⟩, st⟩ | ⟨q, st₀, t, T', L, E, ce, h0, X', hL, e1, e2, ⟨u, hp, hb, hF⟩, hce, hcv, hcl, st⟩
  · cases hv
    obtain ⟨k1, k2, k3⟩ := vx_keep h0 e1 hS hA hf hL hF
    obtain ⟨t2, a1, b1⟩ := kk r u t T'.heap (locs ++ L) e1.symm (by rw [← e2]; exact X'.warmed.alike) hp hb k1 k2 k3 T' rfl X'
    exact ⟨t2, st t2 a1, b1⟩
  · obtain ⟨k1, k2, k3⟩ := vx_keep h0 e1 hS hAX hf hL hF
    obtain ⟨t2, a1, b1⟩ := kx E ce q u t T'.heap (locs ++ L) e1.symm (by rw [← e2]; exact X'.warmed.alike) hp hb k1 k2 k3 (by rw [e1]; exact hce) hcv hcl T' rfl X'
    exact ⟨t2, st.trans a1, b1⟩
end
/-! ===== END ===== -/
/-! ===== BEGIN .. by an interface, an object ===== -/
section
variable {p : Program} {l : Launch} {e : Env} {R : Room} {s : State} {m : MethodId} {args : Array Value} {below : List Frame} {meth : Method} {c : Code} {H : Heap} {locs : List Loc} {cells slots : Nat} {Q : State → Prop}
variable {mc ms : Nat} {free : Addr → Prop} {A0 A1 : Nat → Prop} {H0 : Heap} {a : Array Value} {pc : Nat} {ls : Array Slot} {st0 rest : List Value}
theorem vx_callFq {S SX : Type} {post : Option Nat → S → Prop} {px : SX → Prop} {B : S → State → Prop} {BX : String → SX → State → Prop} {AX : Nat → Prop} (hr : vx_Run5 p l e R s m args below meth c H locs cells slots mc ms (F0 m pc ls st0) rest (va_Qq post B A1 a) (vx_X px BX AX) free) (hS : va_S A0 H0 H locs) (hA : ∀ q, q < H.size → A1 q → A0 q) (hf : ∀ q, free q → A0 q) (hAX : ∀ q, q < H.size → AX q → A0 q)
    (kx : ∀ (E : String) (ce : Cell) (q9 : Addr) (u : SX) (t : State) (H1 : Heap) (locs1 : List Loc), t.heap = H1 → s.vm.Alike t.vm → px u → BX E u t → H.size ≤ H1.size → (∀ q : Nat, q < H.size → ¬ AX q → H1[q]? = H[q]?) → va_S A0 H0 H1 locs1 → H1[q9]? = some ce → ce.vm = .none → s.vm.findClass E = some ce.cls → vx_W p l e R s m args below meth c H1 locs1 (cells + mc) (slots + ms) Q (F0 m pc ls rest) q9)
    (kk : ∀ (r : Option Nat) (u : S) (t : State) (H1 : Heap) (locs1 : List Loc), t.heap = H1 → s.vm.Alike t.vm → post r u → B u t → H.size ≤ H1.size → (∀ q : Nat, q < H.size → ¬ A1 q → H1[q]? = H[q]?) → va_S A0 H0 H1 locs1 → W p l e R s m args below meth c H1 locs1 (cells + mc) (slots + ms) Q (F0 m (pc + 5) ls (va_rf r :: rest))) : W p l e R s m args below meth c H locs cells slots Q (F0 m pc ls st0) := by
  intro T hT X
  rcases hr T hT X with ⟨v, st₀, t, T', L, h0, X', hL, e1, e2, ⟨⟨r, u, hv, hp, hb⟩, hF⟩, st⟩ | ⟨q, st₀, t, T', L, E, ce, h0, X', hL, e1, e2, ⟨u, hp, hb, hF⟩, hce, hcv, hcl, st⟩
  · cases hv
    obtain ⟨k1, k2, k3⟩ := vx_keep h0 e1 hS hA hf hL hF
    obtain ⟨t2, a1, b1⟩ := kk r u t T'.heap (locs ++ L) e1.symm (by rw [← e2]; exact X'.warmed.alike) hp hb k1 k2 k3 T' rfl X'
    exact ⟨t2, st t2 a1, b1⟩
  · obtain ⟨k1, k2, k3⟩ := vx_keep h0 e1 hS hAX hf hL hF
    obtain ⟨t2, a1, b1⟩ := kx E ce q u t T'.heap (locs ++ L) e1.symm (by rw [← e2]; exact X'.warmed.alike) hp hb k1 k2 k3 (by rw [e1]; exact hce) hcv hcl T' rfl X'
    exact ⟨t2, st.trans a1, b1⟩
end
/-! ===== END ===== -/
/-! ===== BEGIN .. by an interface, a constant ===== -/
section
variable {p : Program} {l : Launch} {e : Env} {R : Room} {s : State} {m : MethodId} {args : Array Value} {below : List Frame} {meth : Method} {c : Code} {H : Heap} {locs : List Loc} {cells slots : Nat} {Q : State → Prop}
variable {mc ms : Nat} {free : Addr → Prop} {A0 A1 : Nat → Prop} {H0 : Heap} {a : Array Value} {pc : Nat} {ls : Array Slot} {st0 rest : List Value}
theorem vx_callFe {ad : Nat → Nat} {S SX : Type} {post : Option Nat → S → Prop} {px : SX → Prop} {B : S → State → Prop} {BX : String → SX → State → Prop} {AX : Nat → Prop} (hr : vx_Run5 p l e R s m args below meth c H locs cells slots mc ms (F0 m pc ls st0) rest (va_Qe ad post B A1 a) (vx_X px BX AX) free) (hS : va_S A0 H0 H locs) (hA : ∀ q, q < H.size → A1 q → A0 q) (hf : ∀ q, free q → A0 q) (hAX : ∀ q, q < H.size → AX q → A0 q)
    (kx : ∀ (E : String) (ce : Cell) (q9 : Addr) (u : SX) (t : State) (H1 : Heap) (locs1 : List Loc), t.heap = H1 → s.vm.Alike t.vm → px u → BX E u t → H.size ≤ H1.size → (∀ q : Nat, q < H.size → ¬ AX q → H1[q]? = H[q]?) → va_S A0 H0 H1 locs1 → H1[q9]? = some ce → ce.vm = .none → s.vm.findClass E = some ce.cls → vx_W p l e R s m args below meth c H1 locs1 (cells + mc) (slots + ms) Q (F0 m pc ls rest) q9)
    (kk : ∀ (r : Option Nat) (u : S) (t : State) (H1 : Heap) (locs1 : List Loc), t.heap = H1 → s.vm.Alike t.vm → post r u → B u t → H.size ≤ H1.size → (∀ q : Nat, q < H.size → ¬ A1 q → H1[q]? = H[q]?) → va_S A0 H0 H1 locs1 → W p l e R s m args below meth c H1 locs1 (cells + mc) (slots + ms) Q (F0 m (pc + 5) ls (va_re ad r :: rest))) : W p l e R s m args below meth c H locs cells slots Q (F0 m pc ls st0) := by
  intro T hT X
  rcases hr T hT X with ⟨v, st₀, t, T', L, h0, X', hL, e1, e2, ⟨⟨r, u, hv, hp, hb⟩, hF⟩, st⟩ | ⟨q, st₀, t, T', L, E, ce, h0, X', hL, e1, e2, ⟨u, hp, hb, hF⟩, hce, hcv, hcl, st⟩
  · cases hv
    obtain ⟨k1, k2, k3⟩ := vx_keep h0 e1 hS hA hf hL hF
    obtain ⟨t2, a1, b1⟩ := kk r u t T'.heap (locs ++ L) e1.symm (by rw [← e2]; exact X'.warmed.alike) hp hb k1 k2 k3 T' rfl X'
    exact ⟨t2, st t2 a1, b1⟩
  · obtain ⟨k1, k2, k3⟩ := vx_keep h0 e1 hS hAX hf hL hF
    obtain ⟨t2, a1, b1⟩ := kx E ce q u t T'.heap (locs ++ L) e1.symm (by rw [← e2]; exact X'.warmed.alike) hp hb k1 k2 k3 (by rw [e1]; exact hce) hcv hcl T' rfl X'
    exact ⟨t2, st.trans a1, b1⟩
end
/-! ===== END ===== -/
/-! ===== BEGIN what the machine throws by itself: null at a field, at athrow ===== -/
section VXM2
variable {p : Program} {l : Launch} {e : Env} {R : Room} {s : State} {m : MethodId} {args : Array Value} {below : List Frame} {meth : Method} {c : Code} {H : Heap} {locs : List Loc} {cells slots : Nat}
variable {Q : State → Prop} {cc : ByteArray} {pc : Nat} {ls : Array Slot} {rest : List Value}
theorem vx_getfN {D cl tys} {own ref C : String} {T : u_T} {N ci index : Nat} {Ts : List Cond} (hexec : p.tables.exec = Jvm.exec) (hb : c.code = cc) (hts : ∀ w ∈ Ts, w.before args s = true) (hin : ∀ w ∈ u_ws C T N, w ∈ Ts) (hown : s.vm.findClass own = some m.cls) (hK : va_K D cl tys s) (hc : cl[ci]? = some (C, T, N)) (k : Nat) (hk : k < N) (hlink : (Cond.fieldLink own index ref (T k).2.1 (T k).2.2.1).before args s = true) (hsame : ∀ x, s.fieldFound? (T k).1 (T k).2.1 (T k).2.2.1 = some x → s.fieldFound? ref (T k).2.1 (T k).2.2.1 = some x) (hdg : decode cc pc = .ok (.getfield index, 3)) (kk : vx_NoteN p l e R s m args below meth c H locs cells slots Q (F0 m pc ls rest)) : W p l e R s m args below meth c H locs cells slots Q (F0 m pc ls (.null :: rest)) := by
  obtain ⟨hS, hfc, kC, hkC, -⟩ := hK.1 ci _ hc
  obtain ⟨cf, kf, fi, f, hi, -⟩ := hS k hk
  intro U hU X
  obtain ⟨vm', X1, st1⟩ := X.getfieldNull hexec hown hlink (hsame _ hi) (u_facts hfc hkC (u_lays hts hin hk) hi).1 (g := F0 m pc ls (.null :: rest)) rfl (rest := rest) rfl (by rw [hb]; exact hdg)
  obtain ⟨t, st, q⟩ := kk (U.setVm vm') hU X1
  exact ⟨t, st1 t st, q⟩
theorem vx_getfNN {D cl tys} {own ref C host : String} {T : u_T} {N ci index : Nat} {Ts : List Cond} (hexec : p.tables.exec = Jvm.exec) (hb : c.code = cc) (hts : ∀ w ∈ Ts, w.before args s = true) (hin : ∀ w ∈ u_ws C T N, w ∈ Ts) (hown : s.vm.findClass own = some m.cls) (hK : va_K D cl tys s) (hc : cl[ci]? = some (C, T, N)) (k : Nat) (hk : k < N) (hlink : (Cond.fieldLinkNest own index ref (T k).2.1 (T k).2.2.1 host).before args s = true) (hsame : ∀ x, s.fieldFound? (T k).1 (T k).2.1 (T k).2.2.1 = some x → s.fieldFound? ref (T k).2.1 (T k).2.2.1 = some x) (hdg : decode cc pc = .ok (.getfield index, 3)) (kk : vx_NoteN p l e R s m args below meth c H locs cells slots Q (F0 m pc ls rest)) : W p l e R s m args below meth c H locs cells slots Q (F0 m pc ls (.null :: rest)) := by
  obtain ⟨hS, hfc, kC, hkC, -⟩ := hK.1 ci _ hc
  obtain ⟨cf, kf, fi, f, hi, -⟩ := hS k hk
  intro U hU X
  obtain ⟨vm', X1, st1⟩ := X.getfieldNullNest hexec hown hlink (hsame _ hi) (u_facts hfc hkC (u_lays hts hin hk) hi).1 (g := F0 m pc ls (.null :: rest)) rfl (rest := rest) rfl (by rw [hb]; exact hdg)
  obtain ⟨t, st, q⟩ := kk (U.setVm vm') hU X1
  exact ⟨t, st1 t st, q⟩
theorem vx_putfN {D cl tys} {own ref C : String} {T : u_T} {N ci index : Nat} {Ts : List Cond} (hexec : p.tables.exec = Jvm.exec) (hb : c.code = cc) (hts : ∀ w ∈ Ts, w.before args s = true) (hin : ∀ w ∈ u_ws C T N, w ∈ Ts) (hown : s.vm.findClass own = some m.cls) (hK : va_K D cl tys s) (hc : cl[ci]? = some (C, T, N)) (k : Nat) (hk : k < N) (hlink : (Cond.fieldLink own index ref (T k).2.1 (T k).2.2.1).before args s = true) (hsame : ∀ x, s.fieldFound? (T k).1 (T k).2.1 (T k).2.2.1 = some x → s.fieldFound? ref (T k).2.1 (T k).2.2.1 = some x) (hfin : (T k).2.2.2 = false) {v : Value} (hdg : decode cc pc = .ok (.putfield index, 3)) (kk : vx_NoteN p l e R s m args below meth c H locs cells slots Q (F0 m pc ls rest)) : W p l e R s m args below meth c H locs cells slots Q (F0 m pc ls (v :: .null :: rest)) := by
  obtain ⟨hS, hfc, kC, hkC, -⟩ := hK.1 ci _ hc
  obtain ⟨cf, kf, fi, f, hi, -⟩ := hS k hk
  have hlay := hts _ (hin _ (u_in_lay hk))
  unfold u_lay at hlay
  rw [if_neg (by rw [hfin]; decide)] at hlay
  obtain ⟨c9, k9, cf9, kf9, fi9, f9, -, -, hi9, hst9, hnf9, -⟩ := Cond.lays_spec hlay
  cases hi.symm.trans hi9
  intro U hU X
  obtain ⟨vm', X1, st1⟩ := X.putfieldNull hexec hown hlink (hsame _ hi) hst9 hnf9 (g := F0 m pc ls (v :: .null :: rest)) rfl (v := v) (rest := rest) rfl (by rw [hb]; exact hdg)
  obtain ⟨t, st, q⟩ := kk (U.setVm vm') hU X1
  exact ⟨t, st1 t st, q⟩
theorem vx_putfNN {D cl tys} {own ref C host : String} {T : u_T} {N ci index : Nat} {Ts : List Cond} (hexec : p.tables.exec = Jvm.exec) (hb : c.code = cc) (hts : ∀ w ∈ Ts, w.before args s = true) (hin : ∀ w ∈ u_ws C T N, w ∈ Ts) (hown : s.vm.findClass own = some m.cls) (hK : va_K D cl tys s) (hc : cl[ci]? = some (C, T, N)) (k : Nat) (hk : k < N) (hlink : (Cond.fieldLinkNest own index ref (T k).2.1 (T k).2.2.1 host).before args s = true) (hsame : ∀ x, s.fieldFound? (T k).1 (T k).2.1 (T k).2.2.1 = some x → s.fieldFound? ref (T k).2.1 (T k).2.2.1 = some x) (hfin : (T k).2.2.2 = false) {v : Value} (hdg : decode cc pc = .ok (.putfield index, 3)) (kk : vx_NoteN p l e R s m args below meth c H locs cells slots Q (F0 m pc ls rest)) : W p l e R s m args below meth c H locs cells slots Q (F0 m pc ls (v :: .null :: rest)) := by
  obtain ⟨hS, hfc, kC, hkC, -⟩ := hK.1 ci _ hc
  obtain ⟨cf, kf, fi, f, hi, -⟩ := hS k hk
  have hlay := hts _ (hin _ (u_in_lay hk))
  unfold u_lay at hlay
  rw [if_neg (by rw [hfin]; decide)] at hlay
  obtain ⟨c9, k9, cf9, kf9, fi9, f9, -, -, hi9, hst9, hnf9, -⟩ := Cond.lays_spec hlay
  cases hi.symm.trans hi9
  intro U hU X
  obtain ⟨vm', X1, st1⟩ := X.putfieldNullNest hexec hown hlink (hsame _ hi) hst9 hnf9 (g := F0 m pc ls (v :: .null :: rest)) rfl (v := v) (rest := rest) rfl (by rw [hb]; exact hdg)
  obtain ⟨t, st, q⟩ := kk (U.setVm vm') hU X1
  exact ⟨t, st1 t st, q⟩
theorem vx_athrowN (hexec : p.tables.exec = Jvm.exec) (hb : c.code = cc) (hdg : decode cc pc = .ok (.athrow, 1)) (k : vx_NoteN p l e R s m args below meth c H locs cells slots Q (F0 m pc ls rest)) : W p l e R s m args below meth c H locs cells slots Q (F0 m pc ls (.null :: rest)) := by
  intro T hT X
  obtain ⟨t, st, q⟩ := k T hT X
  exact ⟨t, X.athrowNull hexec (g := F0 m pc ls (.null :: rest)) rfl (rest := rest) rfl (by rw [hb]; exact hdg) t st, q⟩
end VXM2
/-! ===== END ===== -/
def RX0 : String := "Switchyard$Flow"
def TX0 : u_T := fun k => match k with
  | 0 => ("Switchyard$Flow", "router", "I", false)
  | 1 => ("Switchyard$Flow", "address", "I", false)
  | 2 => ("Switchyard$Flow", "size", "I", false)
  | 3 => ("Switchyard$Flow", "ofClass", "I", false)
  | 4 => ("Switchyard$Flow", "start", "I", false)
  | 5 => ("Switchyard$Flow", "period", "I", false)
  | 6 => ("Switchyard$Flow", "count", "I", false)
  | 7 => ("Switchyard$Flow", "rate", "I", false)
  | 8 => ("Switchyard$Flow", "burst", "I", false)
  | 9 => ("Switchyard$Flow", "tokens", "I", false)
  | 10 => ("Switchyard$Flow", "shaper", "[I", true)
  | 11 => ("Switchyard$Flow", "shaperLength", "I", false)
  | 12 => ("Switchyard$Flow", "offered", "I", false)
  | 13 => ("Switchyard$Flow", "delivered", "I", false)
  | 14 => ("Switchyard$Flow", "drops", "[I", true)
  | 15 => ("Switchyard$Flow", "sumLate", "I", false)
  | 16 => ("Switchyard$Flow", "mostLate", "I", false)
  | 17 => ("Switchyard$Flow", "newest", "I", false)
  | _ => ("Switchyard$Flow", "overtaken", "I", false)
def tyX0 : Nat → FieldType := fun k => match k with
  | 0 => .int
  | 1 => .int
  | 2 => .int
  | 3 => .int
  | 4 => .int
  | 5 => .int
  | 6 => .int
  | 7 => .int
  | 8 => .int
  | 9 => .int
  | 10 => .array .int
  | 11 => .int
  | 12 => .int
  | 13 => .int
  | 14 => .array .int
  | 15 => .int
  | 16 => .int
  | 17 => .int
  | _ => .int
abbrev wsX00 : List Cond := u_ws RX0 TX0 19
theorem nmX0 : ∀ a, a < 19 → ∀ b, b < 19 → a ≠ b → (TX0 a).2.1 ≠ (TX0 b).2.1 := by decide +kernel
theorem tyX0_ok : ∀ k, k < 19 → parseFieldDescriptor (TX0 k).2.2.1 = some (tyX0 k) := by decide +kernel
abbrev cX0_init : ByteArray := prog_2_method_1_code
def yX0_init : MethodName := ⟨RX0, "<init>", "()V"⟩
abbrev cX0_dueIn : ByteArray := prog_2_method_2_code
def yX0_dueIn : MethodName := ⟨RX0, "dueIn", "(I)I"⟩
abbrev cX0_isShaped : ByteArray := prog_2_method_3_code
def yX0_isShaped : MethodName := ⟨RX0, "isShaped", "()Z"⟩
abbrev cX0_gainTokens : ByteArray := prog_2_method_4_code
def yX0_gainTokens : MethodName := ⟨RX0, "gainTokens", "()V"⟩
abbrev cX0_push : ByteArray := prog_2_method_5_code
def yX0_push : MethodName := ⟨RX0, "push", "(I)V"⟩
abbrev cX0_pull : ByteArray := prog_2_method_6_code
def yX0_pull : MethodName := ⟨RX0, "pull", "()I"⟩
abbrev cX0_deliver : ByteArray := prog_2_method_7_code
def yX0_deliver : MethodName := ⟨RX0, "deliver", "(II)V"⟩
abbrev cX0_copyFrom : ByteArray := prog_2_method_8_code
def yX0_copyFrom : MethodName := ⟨RX0, "copyFrom", "(LSwitchyard$Flow;)V"⟩
def RX1 : String := "Switchyard$Letter"
def TX1 : u_T := fun k => match k with
  | 0 => ("Switchyard$Letter", "of", "I", true)
  | 1 => ("Switchyard$Letter", "number", "I", true)
  | 2 => ("Switchyard$Letter", "linkSet", "I", true)
  | 3 => ("Switchyard$Letter", "costs", "[I", true)
  | _ => ("Switchyard$Letter", "networks", "[I", true)
def tyX1 : Nat → FieldType := fun k => match k with
  | 0 => .int
  | 1 => .int
  | 2 => .int
  | 3 => .array .int
  | _ => .array .int
abbrev wsX10 : List Cond := u_ws RX1 TX1 5
theorem nmX1 : ∀ a, a < 5 → ∀ b, b < 5 → a ≠ b → (TX1 a).2.1 ≠ (TX1 b).2.1 := by decide +kernel
theorem tyX1_ok : ∀ k, k < 5 → parseFieldDescriptor (TX1 k).2.2.1 = some (tyX1 k) := by decide +kernel
abbrev cX1_init : ByteArray := prog_3_method_1_code
def yX1_init : MethodName := ⟨RX1, "<init>", "(III[I[I)V"⟩
abbrev cX1_hasLink : ByteArray := prog_3_method_2_code
def yX1_hasLink : MethodName := ⟨RX1, "hasLink", "(I)Z"⟩
def RX2 : String := "Switchyard$Line"
def TX2 : u_T := fun k => match k with
  | 0 => ("Switchyard$Line", "letters", "[LSwitchyard$Letter;", false)
  | 1 => ("Switchyard$Line", "letterTicks", "[I", false)
  | 2 => ("Switchyard$Line", "letterCount", "I", false)
  | 3 => ("Switchyard$Line", "packets", "[I", true)
  | _ => ("Switchyard$Line", "packetCount", "I", false)
def tyX2 : Nat → FieldType := fun k => match k with
  | 0 => .array (.object "Switchyard$Letter")
  | 1 => .array .int
  | 2 => .int
  | 3 => .array .int
  | _ => .int
abbrev wsX20 : List Cond := u_ws RX2 TX2 5
theorem nmX2 : ∀ a, a < 5 → ∀ b, b < 5 → a ≠ b → (TX2 a).2.1 ≠ (TX2 b).2.1 := by decide +kernel
theorem tyX2_ok : ∀ k, k < 5 → parseFieldDescriptor (TX2 k).2.2.1 = some (tyX2 k) := by decide +kernel
abbrev cX2_init : ByteArray := prog_4_method_1_code
def yX2_init : MethodName := ⟨RX2, "<init>", "()V"⟩
abbrev cX2_putLetter : ByteArray := prog_4_method_2_code
def yX2_putLetter : MethodName := ⟨RX2, "putLetter", "(LSwitchyard$Letter;I)V"⟩
abbrev cX2_makeRoom : ByteArray := prog_4_method_3_code
def yX2_makeRoom : MethodName := ⟨RX2, "makeRoom", "(I)V"⟩
abbrev cX2_lettersDue : ByteArray := prog_4_method_4_code
def yX2_lettersDue : MethodName := ⟨RX2, "lettersDue", "(I)I"⟩
abbrev cX2_removeLetters : ByteArray := prog_4_method_5_code
def yX2_removeLetters : MethodName := ⟨RX2, "removeLetters", "(I)V"⟩
abbrev cX2_putPacket : ByteArray := prog_4_method_6_code
def yX2_putPacket : MethodName := ⟨RX2, "putPacket", "(II)V"⟩
abbrev cX2_takePacket : ByteArray := prog_4_method_7_code
def yX2_takePacket : MethodName := ⟨RX2, "takePacket", "(I)I"⟩
abbrev cX2_copyFrom : ByteArray := prog_4_method_8_code
def yX2_copyFrom : MethodName := ⟨RX2, "copyFrom", "(LSwitchyard$Line;)V"⟩
def RX3 : String := "Switchyard$Link"
def TX3 : u_T := fun k => match k with
  | 0 => ("Switchyard$Link", "a", "I", false)
  | 1 => ("Switchyard$Link", "b", "I", false)
  | 2 => ("Switchyard$Link", "cost", "I", false)
  | 3 => ("Switchyard$Link", "rate", "I", false)
  | 4 => ("Switchyard$Link", "delay", "I", false)
  | 5 => ("Switchyard$Link", "isUp", "Z", false)
  | 6 => ("Switchyard$Link", "atA", "LSwitchyard$Port;", true)
  | _ => ("Switchyard$Link", "atB", "LSwitchyard$Port;", true)
def tyX3 : Nat → FieldType := fun k => match k with
  | 0 => .int
  | 1 => .int
  | 2 => .int
  | 3 => .int
  | 4 => .int
  | 5 => .boolean
  | 6 => .object "Switchyard$Port"
  | _ => .object "Switchyard$Port"
abbrev wsX30 : List Cond := u_ws RX3 TX3 8
theorem nmX3 : ∀ a, a < 8 → ∀ b, b < 8 → a ≠ b → (TX3 a).2.1 ≠ (TX3 b).2.1 := by decide +kernel
theorem tyX3_ok : ∀ k, k < 8 → parseFieldDescriptor (TX3 k).2.2.1 = some (tyX3 k) := by decide +kernel
abbrev cX3_init : ByteArray := prog_5_method_1_code
def yX3_init : MethodName := ⟨RX3, "<init>", "()V"⟩
abbrev cX3_touches : ByteArray := prog_5_method_2_code
def yX3_touches : MethodName := ⟨RX3, "touches", "(I)Z"⟩
abbrev cX3_otherEnd : ByteArray := prog_5_method_3_code
def yX3_otherEnd : MethodName := ⟨RX3, "otherEnd", "(I)I"⟩
abbrev cX3_portAt : ByteArray := prog_5_method_4_code
def yX3_portAt : MethodName := ⟨RX3, "portAt", "(I)LSwitchyard$Port;"⟩
abbrev cX3_countPackets : ByteArray := prog_5_method_5_code
def yX3_countPackets : MethodName := ⟨RX3, "countPackets", "()I"⟩
abbrev cX3_copyFrom : ByteArray := prog_5_method_6_code
def yX3_copyFrom : MethodName := ⟨RX3, "copyFrom", "(LSwitchyard$Link;)V"⟩
def RX4 : String := "Switchyard$Net"
def TX4 : u_T := fun k => match k with
  | 0 => ("Switchyard$Net", "time", "I", false)
  | 1 => ("Switchyard$Net", "routerCount", "I", false)
  | 2 => ("Switchyard$Net", "linkCount", "I", false)
  | 3 => ("Switchyard$Net", "flowCount", "I", false)
  | 4 => ("Switchyard$Net", "routers", "[LSwitchyard$Router;", true)
  | 5 => ("Switchyard$Net", "links", "[LSwitchyard$Link;", true)
  | 6 => ("Switchyard$Net", "flows", "[LSwitchyard$Flow;", true)
  | 7 => ("Switchyard$Net", "networks", "LSwitchyard$PrefixList;", true)
  | _ => ("Switchyard$Net", "statics", "LSwitchyard$PrefixList;", true)
def tyX4 : Nat → FieldType := fun k => match k with
  | 0 => .int
  | 1 => .int
  | 2 => .int
  | 3 => .int
  | 4 => .array (.object "Switchyard$Router")
  | 5 => .array (.object "Switchyard$Link")
  | 6 => .array (.object "Switchyard$Flow")
  | 7 => .object "Switchyard$PrefixList"
  | _ => .object "Switchyard$PrefixList"
abbrev wsX40 : List Cond := u_ws RX4 TX4 9
theorem nmX4 : ∀ a, a < 9 → ∀ b, b < 9 → a ≠ b → (TX4 a).2.1 ≠ (TX4 b).2.1 := by decide +kernel
theorem tyX4_ok : ∀ k, k < 9 → parseFieldDescriptor (TX4 k).2.2.1 = some (tyX4 k) := by decide +kernel
abbrev cX4_init : ByteArray := prog_6_method_1_code
def yX4_init : MethodName := ⟨RX4, "<init>", "()V"⟩
abbrev cX4_newRouter : ByteArray := prog_6_method_2_code
def yX4_newRouter : MethodName := ⟨RX4, "newRouter", "()I"⟩
abbrev cX4_newLink : ByteArray := prog_6_method_3_code
def yX4_newLink : MethodName := ⟨RX4, "newLink", "(IIIII)I"⟩
abbrev cX4_changeCost : ByteArray := prog_6_method_4_code
def yX4_changeCost : MethodName := ⟨RX4, "changeCost", "(II)I"⟩
abbrev cX4_raise : ByteArray := prog_6_method_5_code
def yX4_raise : MethodName := ⟨RX4, "raise", "(I)V"⟩
abbrev cX4_cut : ByteArray := prog_6_method_6_code
def yX4_cut : MethodName := ⟨RX4, "cut", "(I)V"⟩
abbrev cX4_newNetwork : ByteArray := prog_6_method_7_code
def yX4_newNetwork : MethodName := ⟨RX4, "newNetwork", "(II)I"⟩
abbrev cX4_loseNetwork : ByteArray := prog_6_method_8_code
def yX4_loseNetwork : MethodName := ⟨RX4, "loseNetwork", "(I)I"⟩
abbrev cX4_newStatic : ByteArray := prog_6_method_9_code
def yX4_newStatic : MethodName := ⟨RX4, "newStatic", "(III)I"⟩
abbrev cX4_loseStatic : ByteArray := prog_6_method_10_code
def yX4_loseStatic : MethodName := ⟨RX4, "loseStatic", "(I)I"⟩
abbrev cX4_newFlow : ByteArray := prog_6_method_11_code
def yX4_newFlow : MethodName := ⟨RX4, "newFlow", "(IIII)I"⟩
abbrev cX4_writeLetter : ByteArray := prog_6_method_12_code
def yX4_writeLetter : MethodName := ⟨RX4, "writeLetter", "(I)V"⟩
abbrev cX4_tellOthers : ByteArray := prog_6_method_13_code
def yX4_tellOthers : MethodName := ⟨RX4, "tellOthers", "(ILSwitchyard$Letter;I)V"⟩
abbrev cX4_tellKept : ByteArray := prog_6_method_14_code
def yX4_tellKept : MethodName := ⟨RX4, "tellKept", "(ILSwitchyard$Link;)V"⟩
abbrev cX4_tell : ByteArray := prog_6_method_15_code
def yX4_tell : MethodName := ⟨RX4, "tell", "(ILSwitchyard$Letter;LSwitchyard$Link;)V"⟩
abbrev cX4_lettersOnTheirWay : ByteArray := prog_6_method_16_code
def yX4_lettersOnTheirWay : MethodName := ⟨RX4, "lettersOnTheirWay", "()I"⟩
abbrev cX4_tick : ByteArray := prog_6_method_17_code
def yX4_tick : MethodName := ⟨RX4, "tick", "()V"⟩
abbrev cX4_takeLetters : ByteArray := prog_6_method_18_code
def yX4_takeLetters : MethodName := ⟨RX4, "takeLetters", "(ILSwitchyard$Line;I)V"⟩
abbrev cX4_runFlow : ByteArray := prog_6_method_19_code
def yX4_runFlow : MethodName := ⟨RX4, "runFlow", "(I)V"⟩
abbrev cX4_deal : ByteArray := prog_6_method_20_code
def yX4_deal : MethodName := ⟨RX4, "deal", "(II)V"⟩
abbrev cX4_sendOn : ByteArray := prog_6_method_21_code
def yX4_sendOn : MethodName := ⟨RX4, "sendOn", "(IILSwitchyard$Link;)I"⟩
abbrev cX4_linkToward : ByteArray := prog_6_method_22_code
def yX4_linkToward : MethodName := ⟨RX4, "linkToward", "(II)I"⟩
abbrev cX4_linkAt : ByteArray := prog_6_method_23_code
def yX4_linkAt : MethodName := ⟨RX4, "linkAt", "(II)I"⟩
abbrev cX4_follow : ByteArray := prog_6_method_24_code
def yX4_follow : MethodName := ⟨RX4, "follow", "(I)I"⟩
abbrev cX4_copyFrom : ByteArray := prog_6_method_25_code
def yX4_copyFrom : MethodName := ⟨RX4, "copyFrom", "(LSwitchyard$Net;)V"⟩
def RX5 : String := "Switchyard$Packet"
def TX5 : u_T := fun k => match k with
  | _ => ("", "", "", false)
def tyX5 : Nat → FieldType := fun k => match k with
  | _ => .int
abbrev wsX50 : List Cond := u_ws RX5 TX5 0
theorem nmX5 : ∀ a, a < 0 → ∀ b, b < 0 → a ≠ b → (TX5 a).2.1 ≠ (TX5 b).2.1 := by decide +kernel
theorem tyX5_ok : ∀ k, k < 0 → parseFieldDescriptor (TX5 k).2.2.1 = some (tyX5 k) := by decide +kernel
abbrev cX5_of : ByteArray := prog_7_method_2_code
def yX5_of : MethodName := ⟨RX5, "of", "(IIII)I"⟩
abbrev cX5_flowOf : ByteArray := prog_7_method_3_code
def yX5_flowOf : MethodName := ⟨RX5, "flowOf", "(I)I"⟩
abbrev cX5_numberOf : ByteArray := prog_7_method_4_code
def yX5_numberOf : MethodName := ⟨RX5, "numberOf", "(I)I"⟩
abbrev cX5_classOf : ByteArray := prog_7_method_5_code
def yX5_classOf : MethodName := ⟨RX5, "classOf", "(I)I"⟩
abbrev cX5_sizeOf : ByteArray := prog_7_method_6_code
def yX5_sizeOf : MethodName := ⟨RX5, "sizeOf", "(I)I"⟩
abbrev cX5_lifeOf : ByteArray := prog_7_method_7_code
def yX5_lifeOf : MethodName := ⟨RX5, "lifeOf", "(I)I"⟩
abbrev cX5_older : ByteArray := prog_7_method_8_code
def yX5_older : MethodName := ⟨RX5, "older", "(I)I"⟩
def RX6 : String := "Switchyard$Port"
def TX6 : u_T := fun k => match k with
  | 0 => ("Switchyard$Port", "line", "LSwitchyard$Line;", true)
  | 1 => ("Switchyard$Port", "discipline", "I", false)
  | 2 => ("Switchyard$Port", "limit", "I", false)
  | 3 => ("Switchyard$Port", "isEarly", "Z", false)
  | 4 => ("Switchyard$Port", "earlyCount", "I", false)
  | 5 => ("Switchyard$Port", "weights", "[I", true)
  | 6 => ("Switchyard$Port", "deficits", "[I", true)
  | 7 => ("Switchyard$Port", "turn", "I", false)
  | 8 => ("Switchyard$Port", "hasShare", "Z", false)
  | 9 => ("Switchyard$Port", "queue", "[I", true)
  | 10 => ("Switchyard$Port", "queueLength", "I", false)
  | 11 => ("Switchyard$Port", "bytes", "I", false)
  | 12 => ("Switchyard$Port", "packet", "I", false)
  | _ => ("Switchyard$Port", "bytesLeft", "I", false)
def tyX6 : Nat → FieldType := fun k => match k with
  | 0 => .object "Switchyard$Line"
  | 1 => .int
  | 2 => .int
  | 3 => .boolean
  | 4 => .int
  | 5 => .array .int
  | 6 => .array .int
  | 7 => .int
  | 8 => .boolean
  | 9 => .array .int
  | 10 => .int
  | 11 => .int
  | 12 => .int
  | _ => .int
abbrev wsX60 : List Cond := u_ws RX6 TX6 14
theorem nmX6 : ∀ a, a < 14 → ∀ b, b < 14 → a ≠ b → (TX6 a).2.1 ≠ (TX6 b).2.1 := by decide +kernel
theorem tyX6_ok : ∀ k, k < 14 → parseFieldDescriptor (TX6 k).2.2.1 = some (tyX6 k) := by decide +kernel
abbrev cX6_init : ByteArray := prog_8_method_1_code
def yX6_init : MethodName := ⟨RX6, "<init>", "()V"⟩
abbrev cX6_configure : ByteArray := prog_8_method_2_code
def yX6_configure : MethodName := ⟨RX6, "configure", "(IIZ)V"⟩
abbrev cX6_clearTurns : ByteArray := prog_8_method_3_code
def yX6_clearTurns : MethodName := ⟨RX6, "clearTurns", "()V"⟩
abbrev cX6_accept : ByteArray := prog_8_method_4_code
def yX6_accept : MethodName := ⟨RX6, "accept", "(I)I"⟩
abbrev cX6_send : ByteArray := prog_8_method_5_code
def yX6_send : MethodName := ⟨RX6, "send", "(II)V"⟩
abbrev cX6_takeNext : ByteArray := prog_8_method_6_code
def yX6_takeNext : MethodName := ⟨RX6, "takeNext", "()V"⟩
abbrev cX6_nextPlace : ByteArray := prog_8_method_7_code
def yX6_nextPlace : MethodName := ⟨RX6, "nextPlace", "()I"⟩
abbrev cX6_placeByClasses : ByteArray := prog_8_method_8_code
def yX6_placeByClasses : MethodName := ⟨RX6, "placeByClasses", "()I"⟩
abbrev cX6_placeByTurns : ByteArray := prog_8_method_9_code
def yX6_placeByTurns : MethodName := ⟨RX6, "placeByTurns", "()I"⟩
abbrev cX6_firstOf : ByteArray := prog_8_method_10_code
def yX6_firstOf : MethodName := ⟨RX6, "firstOf", "(I)I"⟩
abbrev cX6_countOf : ByteArray := prog_8_method_11_code
def yX6_countOf : MethodName := ⟨RX6, "countOf", "(I)I"⟩
abbrev cX6_lose : ByteArray := prog_8_method_12_code
def yX6_lose : MethodName := ⟨RX6, "lose", "([LSwitchyard$Flow;)V"⟩
abbrev cX6_loseOne : ByteArray := prog_8_method_13_code
def yX6_loseOne : MethodName := ⟨RX6, "loseOne", "([LSwitchyard$Flow;I)V"⟩
abbrev cX6_copyFrom : ByteArray := prog_8_method_14_code
def yX6_copyFrom : MethodName := ⟨RX6, "copyFrom", "(LSwitchyard$Port;)V"⟩
def RX7 : String := "Switchyard$Prefix"
def TX7 : u_T := fun k => match k with
  | _ => ("", "", "", false)
def tyX7 : Nat → FieldType := fun k => match k with
  | _ => .int
abbrev wsX70 : List Cond := u_ws RX7 TX7 0
theorem nmX7 : ∀ a, a < 0 → ∀ b, b < 0 → a ≠ b → (TX7 a).2.1 ≠ (TX7 b).2.1 := by decide +kernel
theorem tyX7_ok : ∀ k, k < 0 → parseFieldDescriptor (TX7 k).2.2.1 = some (tyX7 k) := by decide +kernel
abbrev cX7_of : ByteArray := prog_9_method_2_code
def yX7_of : MethodName := ⟨RX7, "of", "(II)I"⟩
abbrev cX7_addressOf : ByteArray := prog_9_method_3_code
def yX7_addressOf : MethodName := ⟨RX7, "addressOf", "(I)I"⟩
abbrev cX7_lengthOf : ByteArray := prog_9_method_4_code
def yX7_lengthOf : MethodName := ⟨RX7, "lengthOf", "(I)I"⟩
abbrev cX7_hasMore : ByteArray := prog_9_method_5_code
def yX7_hasMore : MethodName := ⟨RX7, "hasMore", "(II)Z"⟩
abbrev cX7_fits : ByteArray := prog_9_method_6_code
def yX7_fits : MethodName := ⟨RX7, "fits", "(II)Z"⟩
abbrev cX7_commonLength : ByteArray := prog_9_method_7_code
def yX7_commonLength : MethodName := ⟨RX7, "commonLength", "(II)I"⟩
abbrev cX7_hasBit : ByteArray := prog_9_method_8_code
def yX7_hasBit : MethodName := ⟨RX7, "hasBit", "(II)Z"⟩
def RX8 : String := "Switchyard$PrefixList"
def TX8 : u_T := fun k => match k with
  | 0 => ("Switchyard$PrefixList", "routers", "[I", true)
  | 1 => ("Switchyard$PrefixList", "prefixes", "[I", true)
  | 2 => ("Switchyard$PrefixList", "links", "[I", true)
  | _ => ("Switchyard$PrefixList", "count", "I", false)
def tyX8 : Nat → FieldType := fun k => match k with
  | 0 => .array .int
  | 1 => .array .int
  | 2 => .array .int
  | _ => .int
abbrev wsX80 : List Cond := u_ws RX8 TX8 4
theorem nmX8 : ∀ a, a < 4 → ∀ b, b < 4 → a ≠ b → (TX8 a).2.1 ≠ (TX8 b).2.1 := by decide +kernel
theorem tyX8_ok : ∀ k, k < 4 → parseFieldDescriptor (TX8 k).2.2.1 = some (tyX8 k) := by decide +kernel
abbrev cX8_init : ByteArray := prog_10_method_1_code
def yX8_init : MethodName := ⟨RX8, "<init>", "(I)V"⟩
abbrev cX8_add : ByteArray := prog_10_method_2_code
def yX8_add : MethodName := ⟨RX8, "add", "(III)I"⟩
abbrev cX8_remove : ByteArray := prog_10_method_3_code
def yX8_remove : MethodName := ⟨RX8, "remove", "(I)V"⟩
abbrev cX8_has : ByteArray := prog_10_method_4_code
def yX8_has : MethodName := ⟨RX8, "has", "(II)Z"⟩
abbrev cX8_prefixesAt : ByteArray := prog_10_method_5_code
def yX8_prefixesAt : MethodName := ⟨RX8, "prefixesAt", "(I)[I"⟩
abbrev cX8_copyFrom : ByteArray := prog_10_method_6_code
def yX8_copyFrom : MethodName := ⟨RX8, "copyFrom", "(LSwitchyard$PrefixList;)V"⟩
def RX9 : String := "Switchyard$Router"
def TX9 : u_T := fun k => match k with
  | 0 => ("Switchyard$Router", "number", "I", true)
  | 1 => ("Switchyard$Router", "letters", "[LSwitchyard$Letter;", true)
  | 2 => ("Switchyard$Router", "distances", "[I", true)
  | 3 => ("Switchyard$Router", "firsts", "[I", true)
  | 4 => ("Switchyard$Router", "table", "LSwitchyard$Table;", true)
  | _ => ("Switchyard$Router", "isStale", "Z", false)
def tyX9 : Nat → FieldType := fun k => match k with
  | 0 => .int
  | 1 => .array (.object "Switchyard$Letter")
  | 2 => .array .int
  | 3 => .array .int
  | 4 => .object "Switchyard$Table"
  | _ => .boolean
abbrev wsX90 : List Cond := u_ws RX9 TX9 6
theorem nmX9 : ∀ a, a < 6 → ∀ b, b < 6 → a ≠ b → (TX9 a).2.1 ≠ (TX9 b).2.1 := by decide +kernel
theorem tyX9_ok : ∀ k, k < 6 → parseFieldDescriptor (TX9 k).2.2.1 = some (tyX9 k) := by decide +kernel
abbrev cX9_init : ByteArray := prog_11_method_1_code
def yX9_init : MethodName := ⟨RX9, "<init>", "(ILSwitchyard$Letter;)V"⟩
abbrev cX9_keep : ByteArray := prog_11_method_2_code
def yX9_keep : MethodName := ⟨RX9, "keep", "(LSwitchyard$Letter;)V"⟩
abbrev cX9_reckon : ByteArray := prog_11_method_3_code
def yX9_reckon : MethodName := ⟨RX9, "reckon", "([LSwitchyard$Link;LSwitchyard$PrefixList;LSwitchyard$PrefixList;)V"⟩
abbrev cX9_reckonWays : ByteArray := prog_11_method_4_code
def yX9_reckonWays : MethodName := ⟨RX9, "reckonWays", "([LSwitchyard$Link;)V"⟩
abbrev cX9_goOn : ByteArray := prog_11_method_5_code
def yX9_goOn : MethodName := ⟨RX9, "goOn", "(III)V"⟩
abbrev cX9_nearestBut : ByteArray := prog_11_method_6_code
def yX9_nearestBut : MethodName := ⟨RX9, "nearestBut", "(I)I"⟩
abbrev cX9_enterNetworks : ByteArray := prog_11_method_7_code
def yX9_enterNetworks : MethodName := ⟨RX9, "enterNetworks", "(LSwitchyard$PrefixList;)V"⟩
abbrev cX9_enterStatics : ByteArray := prog_11_method_8_code
def yX9_enterStatics : MethodName := ⟨RX9, "enterStatics", "(LSwitchyard$PrefixList;[LSwitchyard$Link;)V"⟩
abbrev cX9_enterLearned : ByteArray := prog_11_method_9_code
def yX9_enterLearned : MethodName := ⟨RX9, "enterLearned", "()V"⟩
abbrev cX9_copyFrom : ByteArray := prog_11_method_10_code
def yX9_copyFrom : MethodName := ⟨RX9, "copyFrom", "(LSwitchyard$Router;)V"⟩
def RX10 : String := "Switchyard$Table"
def TX10 : u_T := fun k => match k with
  | 0 => ("Switchyard$Table", "prefixes", "[I", true)
  | 1 => ("Switchyard$Table", "sorts", "[I", true)
  | 2 => ("Switchyard$Table", "linkSets", "[I", true)
  | _ => ("Switchyard$Table", "count", "I", false)
def tyX10 : Nat → FieldType := fun k => match k with
  | 0 => .array .int
  | 1 => .array .int
  | 2 => .array .int
  | _ => .int
abbrev wsX100 : List Cond := u_ws RX10 TX10 4
theorem nmX10 : ∀ a, a < 4 → ∀ b, b < 4 → a ≠ b → (TX10 a).2.1 ≠ (TX10 b).2.1 := by decide +kernel
theorem tyX10_ok : ∀ k, k < 4 → parseFieldDescriptor (TX10 k).2.2.1 = some (tyX10 k) := by decide +kernel
abbrev cX10_init : ByteArray := prog_12_method_1_code
def yX10_init : MethodName := ⟨RX10, "<init>", "()V"⟩
abbrev cX10_enter : ByteArray := prog_12_method_2_code
def yX10_enter : MethodName := ⟨RX10, "enter", "(III)V"⟩
abbrev cX10_find : ByteArray := prog_12_method_3_code
def yX10_find : MethodName := ⟨RX10, "find", "(I)I"⟩
abbrev cX10_countNodes : ByteArray := prog_12_method_4_code
def yX10_countNodes : MethodName := ⟨RX10, "countNodes", "()I"⟩
abbrev cX10_countLevels : ByteArray := prog_12_method_5_code
def yX10_countLevels : MethodName := ⟨RX10, "countLevels", "()I"⟩
abbrev cX10_countLooks : ByteArray := prog_12_method_6_code
def yX10_countLooks : MethodName := ⟨RX10, "countLooks", "(I)I"⟩
abbrev cX10_nodesOf : ByteArray := prog_12_method_7_code
def yX10_nodesOf : MethodName := ⟨RX10, "nodesOf", "([IIIII)I"⟩
abbrev cX10_levelsOf : ByteArray := prog_12_method_8_code
def yX10_levelsOf : MethodName := ⟨RX10, "levelsOf", "([IIIII)I"⟩
abbrev cX10_nodeLength : ByteArray := prog_12_method_9_code
def yX10_nodeLength : MethodName := ⟨RX10, "nodeLength", "([III)I"⟩
abbrev cX10_behindNode : ByteArray := prog_12_method_10_code
def yX10_behindNode : MethodName := ⟨RX10, "behindNode", "([IIII)I"⟩
abbrev cX10_firstWithBit : ByteArray := prog_12_method_11_code
def yX10_firstWithBit : MethodName := ⟨RX10, "firstWithBit", "([IIII)I"⟩
abbrev cX10_copyFrom : ByteArray := prog_12_method_12_code
def yX10_copyFrom : MethodName := ⟨RX10, "copyFrom", "(LSwitchyard$Table;)V"⟩
def RX11 : String := "Switchyard"
def TX11 : u_T := fun k => match k with
  | 0 => ("Switchyard", "net", "LSwitchyard$Net;", true)
  | _ => ("Switchyard", "ahead", "LSwitchyard$Net;", true)
def tyX11 : Nat → FieldType := fun k => match k with
  | 0 => .object "Switchyard$Net"
  | _ => .object "Switchyard$Net"
abbrev wsX110 : List Cond := u_ws RX11 TX11 2
theorem nmX11 : ∀ a, a < 2 → ∀ b, b < 2 → a ≠ b → (TX11 a).2.1 ≠ (TX11 b).2.1 := by decide +kernel
theorem tyX11_ok : ∀ k, k < 2 → parseFieldDescriptor (TX11 k).2.2.1 = some (tyX11 k) := by decide +kernel
abbrev cX11_init : ByteArray := prog_1_method_1_code
def yX11_init : MethodName := ⟨RX11, "<init>", "()V"⟩
abbrev cX11_addRouter : ByteArray := prog_1_method_2_code
def yX11_addRouter : MethodName := ⟨RX11, "addRouter", "()I"⟩
abbrev cX11_addLink : ByteArray := prog_1_method_3_code
def yX11_addLink : MethodName := ⟨RX11, "addLink", "(IIIII)I"⟩
abbrev cX11_setCost : ByteArray := prog_1_method_4_code
def yX11_setCost : MethodName := ⟨RX11, "setCost", "(II)I"⟩
abbrev cX11_setUp : ByteArray := prog_1_method_5_code
def yX11_setUp : MethodName := ⟨RX11, "setUp", "(IZ)Z"⟩
abbrev cX11_addNetwork : ByteArray := prog_1_method_6_code
def yX11_addNetwork : MethodName := ⟨RX11, "addNetwork", "(III)I"⟩
abbrev cX11_dropNetwork : ByteArray := prog_1_method_7_code
def yX11_dropNetwork : MethodName := ⟨RX11, "dropNetwork", "(I)I"⟩
abbrev cX11_addStatic : ByteArray := prog_1_method_8_code
def yX11_addStatic : MethodName := ⟨RX11, "addStatic", "(IIII)I"⟩
abbrev cX11_dropStatic : ByteArray := prog_1_method_9_code
def yX11_dropStatic : MethodName := ⟨RX11, "dropStatic", "(I)I"⟩
abbrev cX11_setPort : ByteArray := prog_1_method_10_code
def yX11_setPort : MethodName := ⟨RX11, "setPort", "(IZIIZ)I"⟩
abbrev cX11_setWeight : ByteArray := prog_1_method_11_code
def yX11_setWeight : MethodName := ⟨RX11, "setWeight", "(IZII)I"⟩
abbrev cX11_addFlow : ByteArray := prog_1_method_12_code
def yX11_addFlow : MethodName := ⟨RX11, "addFlow", "(IIII)I"⟩
abbrev cX11_schedule : ByteArray := prog_1_method_13_code
def yX11_schedule : MethodName := ⟨RX11, "schedule", "(IIII)I"⟩
abbrev cX11_shape : ByteArray := prog_1_method_14_code
def yX11_shape : MethodName := ⟨RX11, "shape", "(III)I"⟩
abbrev cX11_step : ByteArray := prog_1_method_15_code
def yX11_step : MethodName := ⟨RX11, "step", "(I)I"⟩
abbrev cX11_time : ByteArray := prog_1_method_16_code
def yX11_time : MethodName := ⟨RX11, "time", "()I"⟩
abbrev cX11_routers : ByteArray := prog_1_method_17_code
def yX11_routers : MethodName := ⟨RX11, "routers", "()I"⟩
abbrev cX11_links : ByteArray := prog_1_method_18_code
def yX11_links : MethodName := ⟨RX11, "links", "()I"⟩
abbrev cX11_networks : ByteArray := prog_1_method_19_code
def yX11_networks : MethodName := ⟨RX11, "networks", "()I"⟩
abbrev cX11_statics : ByteArray := prog_1_method_20_code
def yX11_statics : MethodName := ⟨RX11, "statics", "()I"⟩
abbrev cX11_flows : ByteArray := prog_1_method_21_code
def yX11_flows : MethodName := ⟨RX11, "flows", "()I"⟩
abbrev cX11_isUp : ByteArray := prog_1_method_22_code
def yX11_isUp : MethodName := ⟨RX11, "isUp", "(I)Z"⟩
abbrev cX11_letterOf : ByteArray := prog_1_method_23_code
def yX11_letterOf : MethodName := ⟨RX11, "letterOf", "(II)I"⟩
abbrev cX11_letters : ByteArray := prog_1_method_24_code
def yX11_letters : MethodName := ⟨RX11, "letters", "()I"⟩
abbrev cX11_isSettled : ByteArray := prog_1_method_25_code
def yX11_isSettled : MethodName := ⟨RX11, "isSettled", "()Z"⟩
abbrev cX11_distance : ByteArray := prog_1_method_26_code
def yX11_distance : MethodName := ⟨RX11, "distance", "(II)I"⟩
abbrev cX11_firstLinks : ByteArray := prog_1_method_27_code
def yX11_firstLinks : MethodName := ⟨RX11, "firstLinks", "(II)I"⟩
abbrev cX11_entries : ByteArray := prog_1_method_28_code
def yX11_entries : MethodName := ⟨RX11, "entries", "(I)I"⟩
abbrev cX11_trieNodes : ByteArray := prog_1_method_29_code
def yX11_trieNodes : MethodName := ⟨RX11, "trieNodes", "(I)I"⟩
abbrev cX11_trieDepth : ByteArray := prog_1_method_30_code
def yX11_trieDepth : MethodName := ⟨RX11, "trieDepth", "(I)I"⟩
abbrev cX11_looks : ByteArray := prog_1_method_31_code
def yX11_looks : MethodName := ⟨RX11, "looks", "(II)I"⟩
abbrev cX11_found : ByteArray := prog_1_method_32_code
def yX11_found : MethodName := ⟨RX11, "found", "(II)I"⟩
abbrev cX11_sortOf : ByteArray := prog_1_method_33_code
def yX11_sortOf : MethodName := ⟨RX11, "sortOf", "(II)I"⟩
abbrev cX11_nextLink : ByteArray := prog_1_method_34_code
def yX11_nextLink : MethodName := ⟨RX11, "nextLink", "(II)I"⟩
abbrev cX11_route : ByteArray := prog_1_method_35_code
def yX11_route : MethodName := ⟨RX11, "route", "(I)I"⟩
abbrev cX11_waiting : ByteArray := prog_1_method_36_code
def yX11_waiting : MethodName := ⟨RX11, "waiting", "(IZ)I"⟩
abbrev cX11_queued : ByteArray := prog_1_method_37_code
def yX11_queued : MethodName := ⟨RX11, "queued", "(IZI)I"⟩
abbrev cX11_sending : ByteArray := prog_1_method_38_code
def yX11_sending : MethodName := ⟨RX11, "sending", "(IZ)I"⟩
abbrev cX11_deficit : ByteArray := prog_1_method_39_code
def yX11_deficit : MethodName := ⟨RX11, "deficit", "(IZI)I"⟩
abbrev cX11_onLink : ByteArray := prog_1_method_40_code
def yX11_onLink : MethodName := ⟨RX11, "onLink", "(I)I"⟩
abbrev cX11_offered : ByteArray := prog_1_method_41_code
def yX11_offered : MethodName := ⟨RX11, "offered", "(I)I"⟩
abbrev cX11_shaping : ByteArray := prog_1_method_42_code
def yX11_shaping : MethodName := ⟨RX11, "shaping", "(I)I"⟩
abbrev cX11_tokens : ByteArray := prog_1_method_43_code
def yX11_tokens : MethodName := ⟨RX11, "tokens", "(I)I"⟩
abbrev cX11_delivered : ByteArray := prog_1_method_44_code
def yX11_delivered : MethodName := ⟨RX11, "delivered", "(I)I"⟩
abbrev cX11_dropped : ByteArray := prog_1_method_45_code
def yX11_dropped : MethodName := ⟨RX11, "dropped", "(II)I"⟩
abbrev cX11_latest : ByteArray := prog_1_method_46_code
def yX11_latest : MethodName := ⟨RX11, "latest", "(I)I"⟩
abbrev cX11_meanLate : ByteArray := prog_1_method_47_code
def yX11_meanLate : MethodName := ⟨RX11, "meanLate", "(I)D"⟩
abbrev cX11_outOfOrder : ByteArray := prog_1_method_48_code
def yX11_outOfOrder : MethodName := ⟨RX11, "outOfOrder", "(I)I"⟩
abbrev cX11_deliveredIn : ByteArray := prog_1_method_49_code
def yX11_deliveredIn : MethodName := ⟨RX11, "deliveredIn", "(II)I"⟩
abbrev cX11_settledIn : ByteArray := prog_1_method_50_code
def yX11_settledIn : MethodName := ⟨RX11, "settledIn", "(I)I"⟩
abbrev cX11_digest : ByteArray := prog_1_method_51_code
def yX11_digest : MethodName := ⟨RX11, "digest", "()J"⟩
abbrev cX11_digestRouter : ByteArray := prog_1_method_52_code
def yX11_digestRouter : MethodName := ⟨RX11, "digestRouter", "(JLSwitchyard$Router;)J"⟩
abbrev cX11_digestLink : ByteArray := prog_1_method_53_code
def yX11_digestLink : MethodName := ⟨RX11, "digestLink", "(JLSwitchyard$Link;)J"⟩
abbrev cX11_digestPort : ByteArray := prog_1_method_54_code
def yX11_digestPort : MethodName := ⟨RX11, "digestPort", "(JLSwitchyard$Port;)J"⟩
abbrev cX11_digestFlow : ByteArray := prog_1_method_55_code
def yX11_digestFlow : MethodName := ⟨RX11, "digestFlow", "(JI)J"⟩
abbrev cX11_portOf : ByteArray := prog_1_method_56_code
def yX11_portOf : MethodName := ⟨RX11, "portOf", "(IZ)LSwitchyard$Port;"⟩
abbrev cX11_checkIndex : ByteArray := prog_1_method_57_code
def yX11_checkIndex : MethodName := ⟨RX11, "checkIndex", "(II)V"⟩
abbrev cX11_checkRouter : ByteArray := prog_1_method_58_code
def yX11_checkRouter : MethodName := ⟨RX11, "checkRouter", "(I)V"⟩
abbrev cX11_checkLink : ByteArray := prog_1_method_59_code
def yX11_checkLink : MethodName := ⟨RX11, "checkLink", "(I)V"⟩
abbrev cX11_checkFlow : ByteArray := prog_1_method_60_code
def yX11_checkFlow : MethodName := ⟨RX11, "checkFlow", "(I)V"⟩
abbrev cX11_checkRange : ByteArray := prog_1_method_61_code
def yX11_checkRange : MethodName := ⟨RX11, "checkRange", "(III)V"⟩
abbrev cX11_checkAddress : ByteArray := prog_1_method_62_code
def yX11_checkAddress : MethodName := ⟨RX11, "checkAddress", "(I)V"⟩
abbrev cX11_checkPrefix : ByteArray := prog_1_method_63_code
def yX11_checkPrefix : MethodName := ⟨RX11, "checkPrefix", "(II)V"⟩
def RX12 : String := "SwitchyardModel$Entry"
def TX12 : u_T := fun k => match k with
  | 0 => ("SwitchyardModel$Entry", "address", "I", true)
  | 1 => ("SwitchyardModel$Entry", "length", "I", true)
  | 2 => ("SwitchyardModel$Entry", "sort", "I", true)
  | _ => ("SwitchyardModel$Entry", "links", "[I", true)
def tyX12 : Nat → FieldType := fun k => match k with
  | 0 => .int
  | 1 => .int
  | 2 => .int
  | _ => .array .int
abbrev wsX120 : List Cond := u_ws RX12 TX12 4
theorem nmX12 : ∀ a, a < 4 → ∀ b, b < 4 → a ≠ b → (TX12 a).2.1 ≠ (TX12 b).2.1 := by decide +kernel
theorem tyX12_ok : ∀ k, k < 4 → parseFieldDescriptor (TX12 k).2.2.1 = some (tyX12 k) := by decide +kernel
abbrev cX12_init : ByteArray := prog_15_method_1_code
def yX12_init : MethodName := ⟨RX12, "<init>", "(III[I)V"⟩
def RX13 : String := "SwitchyardModel$Flow"
def TX13 : u_T := fun k => match k with
  | 0 => ("SwitchyardModel$Flow", "router", "I", false)
  | 1 => ("SwitchyardModel$Flow", "address", "I", false)
  | 2 => ("SwitchyardModel$Flow", "size", "I", false)
  | 3 => ("SwitchyardModel$Flow", "sort", "I", false)
  | 4 => ("SwitchyardModel$Flow", "isTold", "Z", false)
  | 5 => ("SwitchyardModel$Flow", "start", "I", false)
  | 6 => ("SwitchyardModel$Flow", "period", "I", false)
  | 7 => ("SwitchyardModel$Flow", "count", "I", false)
  | 8 => ("SwitchyardModel$Flow", "isShaped", "Z", false)
  | 9 => ("SwitchyardModel$Flow", "rate", "I", false)
  | 10 => ("SwitchyardModel$Flow", "burst", "I", false)
  | 11 => ("SwitchyardModel$Flow", "tokens", "I", false)
  | 12 => ("SwitchyardModel$Flow", "shaper", "Ljava/util/ArrayList;", true)
  | 13 => ("SwitchyardModel$Flow", "offered", "I", false)
  | 14 => ("SwitchyardModel$Flow", "delivered", "I", false)
  | 15 => ("SwitchyardModel$Flow", "greatest", "I", false)
  | 16 => ("SwitchyardModel$Flow", "turned", "I", false)
  | 17 => ("SwitchyardModel$Flow", "latest", "I", false)
  | 18 => ("SwitchyardModel$Flow", "late", "J", false)
  | _ => ("SwitchyardModel$Flow", "dropped", "[I", true)
def tyX13 : Nat → FieldType := fun k => match k with
  | 0 => .int
  | 1 => .int
  | 2 => .int
  | 3 => .int
  | 4 => .boolean
  | 5 => .int
  | 6 => .int
  | 7 => .int
  | 8 => .boolean
  | 9 => .int
  | 10 => .int
  | 11 => .int
  | 12 => .object "java/util/ArrayList"
  | 13 => .int
  | 14 => .int
  | 15 => .int
  | 16 => .int
  | 17 => .int
  | 18 => .long
  | _ => .array .int
abbrev wsX130 : List Cond := u_ws RX13 TX13 20
theorem nmX13 : ∀ a, a < 20 → ∀ b, b < 20 → a ≠ b → (TX13 a).2.1 ≠ (TX13 b).2.1 := by decide +kernel
theorem tyX13_ok : ∀ k, k < 20 → parseFieldDescriptor (TX13 k).2.2.1 = some (tyX13 k) := by decide +kernel
abbrev cX13_init : ByteArray := prog_16_method_1_code
def yX13_init : MethodName := ⟨RX13, "<init>", "()V"⟩
abbrev cX13_copy : ByteArray := prog_16_method_2_code
def yX13_copy : MethodName := ⟨RX13, "copy", "()LSwitchyardModel$Flow;"⟩
def RX14 : String := "SwitchyardModel$Letter"
def TX14 : u_T := fun k => match k with
  | 0 => ("SwitchyardModel$Letter", "router", "I", true)
  | 1 => ("SwitchyardModel$Letter", "number", "I", true)
  | 2 => ("SwitchyardModel$Letter", "links", "[I", true)
  | 3 => ("SwitchyardModel$Letter", "costs", "[I", true)
  | 4 => ("SwitchyardModel$Letter", "addresses", "[I", true)
  | _ => ("SwitchyardModel$Letter", "lengths", "[I", true)
def tyX14 : Nat → FieldType := fun k => match k with
  | 0 => .int
  | 1 => .int
  | 2 => .array .int
  | 3 => .array .int
  | 4 => .array .int
  | _ => .array .int
abbrev wsX140 : List Cond := u_ws RX14 TX14 6
theorem nmX14 : ∀ a, a < 6 → ∀ b, b < 6 → a ≠ b → (TX14 a).2.1 ≠ (TX14 b).2.1 := by decide +kernel
theorem tyX14_ok : ∀ k, k < 6 → parseFieldDescriptor (TX14 k).2.2.1 = some (tyX14 k) := by decide +kernel
abbrev cX14_init : ByteArray := prog_17_method_1_code
def yX14_init : MethodName := ⟨RX14, "<init>", "(II[I[I[I[I)V"⟩
abbrev cX14_cost : ByteArray := prog_17_method_2_code
def yX14_cost : MethodName := ⟨RX14, "cost", "(I)I"⟩
def RX15 : String := "SwitchyardModel$Net"
def TX15 : u_T := fun k => match k with
  | 0 => ("SwitchyardModel$Net", "time", "I", false)
  | 1 => ("SwitchyardModel$Net", "routers", "I", false)
  | 2 => ("SwitchyardModel$Net", "links", "I", false)
  | 3 => ("SwitchyardModel$Net", "a", "[I", true)
  | 4 => ("SwitchyardModel$Net", "b", "[I", true)
  | 5 => ("SwitchyardModel$Net", "cost", "[I", true)
  | 6 => ("SwitchyardModel$Net", "rate", "[I", true)
  | 7 => ("SwitchyardModel$Net", "delay", "[I", true)
  | 8 => ("SwitchyardModel$Net", "isUp", "[Z", true)
  | 9 => ("SwitchyardModel$Net", "ports", "[LSwitchyardModel$Port;", true)
  | 10 => ("SwitchyardModel$Net", "networks", "I", false)
  | 11 => ("SwitchyardModel$Net", "netRouter", "[I", true)
  | 12 => ("SwitchyardModel$Net", "netAddress", "[I", true)
  | 13 => ("SwitchyardModel$Net", "netLength", "[I", true)
  | 14 => ("SwitchyardModel$Net", "statics", "I", false)
  | 15 => ("SwitchyardModel$Net", "wayRouter", "[I", true)
  | 16 => ("SwitchyardModel$Net", "wayAddress", "[I", true)
  | 17 => ("SwitchyardModel$Net", "wayLength", "[I", true)
  | 18 => ("SwitchyardModel$Net", "wayLink", "[I", true)
  | 19 => ("SwitchyardModel$Net", "flows", "Ljava/util/ArrayList;", true)
  | 20 => ("SwitchyardModel$Net", "kept", "[LSwitchyardModel$Letter;", true)
  | 21 => ("SwitchyardModel$Net", "distance", "[I", true)
  | 22 => ("SwitchyardModel$Net", "firsts", "[[I", true)
  | _ => ("SwitchyardModel$Net", "tables", "Ljava/util/ArrayList;", true)
def tyX15 : Nat → FieldType := fun k => match k with
  | 0 => .int
  | 1 => .int
  | 2 => .int
  | 3 => .array .int
  | 4 => .array .int
  | 5 => .array .int
  | 6 => .array .int
  | 7 => .array .int
  | 8 => .array .boolean
  | 9 => .array (.object "SwitchyardModel$Port")
  | 10 => .int
  | 11 => .array .int
  | 12 => .array .int
  | 13 => .array .int
  | 14 => .int
  | 15 => .array .int
  | 16 => .array .int
  | 17 => .array .int
  | 18 => .array .int
  | 19 => .object "java/util/ArrayList"
  | 20 => .array (.object "SwitchyardModel$Letter")
  | 21 => .array .int
  | 22 => .array (.array .int)
  | _ => .object "java/util/ArrayList"
abbrev wsX150 : List Cond := u_ws RX15 TX15 24
theorem nmX15 : ∀ a, a < 24 → ∀ b, b < 24 → a ≠ b → (TX15 a).2.1 ≠ (TX15 b).2.1 := by decide +kernel
theorem tyX15_ok : ∀ k, k < 24 → parseFieldDescriptor (TX15 k).2.2.1 = some (tyX15 k) := by decide +kernel
abbrev cX15_init : ByteArray := prog_18_method_1_code
def yX15_init : MethodName := ⟨RX15, "<init>", "()V"⟩
abbrev cX15_copy : ByteArray := prog_18_method_2_code
def yX15_copy : MethodName := ⟨RX15, "copy", "()LSwitchyardModel$Net;"⟩
abbrev cX15_other : ByteArray := prog_18_method_3_code
def yX15_other : MethodName := ⟨RX15, "other", "(II)I"⟩
abbrev cX15_isOf : ByteArray := prog_18_method_4_code
def yX15_isOf : MethodName := ⟨RX15, "isOf", "(II)Z"⟩
abbrev cX15_port : ByteArray := prog_18_method_5_code
def yX15_port : MethodName := ⟨RX15, "port", "(II)LSwitchyardModel$Port;"⟩
abbrev cX15_send : ByteArray := prog_18_method_6_code
def yX15_send : MethodName := ⟨RX15, "send", "(LSwitchyardModel$Letter;II)V"⟩
abbrev cX15_sendAll : ByteArray := prog_18_method_7_code
def yX15_sendAll : MethodName := ⟨RX15, "sendAll", "(LSwitchyardModel$Letter;II)V"⟩
abbrev cX15_write : ByteArray := prog_18_method_8_code
def yX15_write : MethodName := ⟨RX15, "write", "(I)V"⟩
abbrev cX15_number : ByteArray := prog_18_method_9_code
def yX15_number : MethodName := ⟨RX15, "number", "(II)I"⟩
abbrev cX15_greet : ByteArray := prog_18_method_10_code
def yX15_greet : MethodName := ⟨RX15, "greet", "(II)V"⟩
abbrev cX15_comeUp : ByteArray := prog_18_method_11_code
def yX15_comeUp : MethodName := ⟨RX15, "comeUp", "(I)V"⟩
abbrev cX15_goDown : ByteArray := prog_18_method_12_code
def yX15_goDown : MethodName := ⟨RX15, "goDown", "(I)V"⟩
abbrev cX15_letters : ByteArray := prog_18_method_13_code
def yX15_letters : MethodName := ⟨RX15, "letters", "()I"⟩
abbrev cX15_come : ByteArray := prog_18_method_14_code
def yX15_come : MethodName := ⟨RX15, "come", "(LSwitchyardModel$Letter;II)V"⟩
abbrev cX15_reckon : ByteArray := prog_18_method_15_code
def yX15_reckon : MethodName := ⟨RX15, "reckon", "(I)V"⟩
abbrev cX15_with : ByteArray := prog_18_method_16_code
def yX15_with : MethodName := ⟨RX15, "with", "([II)[I"⟩
abbrev cX15_has : ByteArray := prog_18_method_17_code
def yX15_has : MethodName := ⟨RX15, "has", "(Ljava/util/ArrayList;II)Z"⟩
abbrev cX15_table : ByteArray := prog_18_method_18_code
def yX15_table : MethodName := ⟨RX15, "table", "(I)V"⟩
abbrev cX15_find : ByteArray := prog_18_method_19_code
def yX15_find : MethodName := ⟨RX15, "find", "(II)LSwitchyardModel$Entry;"⟩
abbrev cX15_link : ByteArray := prog_18_method_20_code
def yX15_link : MethodName := ⟨RX15, "link", "(LSwitchyardModel$Entry;II)I"⟩
abbrev cX15_drop : ByteArray := prog_18_method_21_code
def yX15_drop : MethodName := ⟨RX15, "drop", "(LSwitchyardModel$Packet;I)V"⟩
abbrev cX15_deal : ByteArray := prog_18_method_22_code
def yX15_deal : MethodName := ⟨RX15, "deal", "(LSwitchyardModel$Packet;I)V"⟩
abbrev cX15_waiting : ByteArray := prog_18_method_23_code
def yX15_waiting : MethodName := ⟨RX15, "waiting", "(LSwitchyardModel$Port;)I"⟩
abbrev cX15_queue : ByteArray := prog_18_method_24_code
def yX15_queue : MethodName := ⟨RX15, "queue", "(LSwitchyardModel$Packet;LSwitchyardModel$Port;)V"⟩
abbrev cX15_first : ByteArray := prog_18_method_25_code
def yX15_first : MethodName := ⟨RX15, "first", "(LSwitchyardModel$Port;I)I"⟩
abbrev cX15_next : ByteArray := prog_18_method_26_code
def yX15_next : MethodName := ⟨RX15, "next", "(LSwitchyardModel$Port;)I"⟩
abbrev cX15_serve : ByteArray := prog_18_method_27_code
def yX15_serve : MethodName := ⟨RX15, "serve", "(I)V"⟩
abbrev cX15_tick : ByteArray := prog_18_method_28_code
def yX15_tick : MethodName := ⟨RX15, "tick", "()V"⟩
abbrev cX15_offer : ByteArray := prog_18_method_29_code
def yX15_offer : MethodName := ⟨RX15, "offer", "(I)V"⟩
abbrev cX15_route : ByteArray := prog_18_method_30_code
def yX15_route : MethodName := ⟨RX15, "route", "(I)I"⟩
abbrev cX15_nextLink : ByteArray := prog_18_method_31_code
def yX15_nextLink : MethodName := ⟨RX15, "nextLink", "(II)I"⟩
def RX16 : String := "SwitchyardModel$Packet"
def TX16 : u_T := fun k => match k with
  | 0 => ("SwitchyardModel$Packet", "flow", "I", true)
  | 1 => ("SwitchyardModel$Packet", "number", "I", true)
  | 2 => ("SwitchyardModel$Packet", "born", "I", true)
  | 3 => ("SwitchyardModel$Packet", "life", "I", false)
  | _ => ("SwitchyardModel$Packet", "comes", "I", false)
def tyX16 : Nat → FieldType := fun k => match k with
  | 0 => .int
  | 1 => .int
  | 2 => .int
  | 3 => .int
  | _ => .int
abbrev wsX160 : List Cond := u_ws RX16 TX16 5
theorem nmX16 : ∀ a, a < 5 → ∀ b, b < 5 → a ≠ b → (TX16 a).2.1 ≠ (TX16 b).2.1 := by decide +kernel
theorem tyX16_ok : ∀ k, k < 5 → parseFieldDescriptor (TX16 k).2.2.1 = some (tyX16 k) := by decide +kernel
abbrev cX16_init : ByteArray := prog_19_method_1_code
def yX16_init : MethodName := ⟨RX16, "<init>", "(III)V"⟩
abbrev cX16_copy : ByteArray := prog_19_method_2_code
def yX16_copy : MethodName := ⟨RX16, "copy", "()LSwitchyardModel$Packet;"⟩
def RX17 : String := "SwitchyardModel$Port"
def TX17 : u_T := fun k => match k with
  | 0 => ("SwitchyardModel$Port", "discipline", "I", false)
  | 1 => ("SwitchyardModel$Port", "limit", "I", false)
  | 2 => ("SwitchyardModel$Port", "isEarly", "Z", false)
  | 3 => ("SwitchyardModel$Port", "early", "I", false)
  | 4 => ("SwitchyardModel$Port", "weights", "[I", true)
  | 5 => ("SwitchyardModel$Port", "deficits", "[I", true)
  | 6 => ("SwitchyardModel$Port", "turn", "I", false)
  | 7 => ("SwitchyardModel$Port", "hasShare", "Z", false)
  | 8 => ("SwitchyardModel$Port", "waits", "Ljava/util/ArrayList;", true)
  | 9 => ("SwitchyardModel$Port", "sent", "LSwitchyardModel$Packet;", false)
  | 10 => ("SwitchyardModel$Port", "left", "I", false)
  | 11 => ("SwitchyardModel$Port", "away", "Ljava/util/ArrayList;", true)
  | _ => ("SwitchyardModel$Port", "post", "Ljava/util/ArrayList;", true)
def tyX17 : Nat → FieldType := fun k => match k with
  | 0 => .int
  | 1 => .int
  | 2 => .boolean
  | 3 => .int
  | 4 => .array .int
  | 5 => .array .int
  | 6 => .int
  | 7 => .boolean
  | 8 => .object "java/util/ArrayList"
  | 9 => .object "SwitchyardModel$Packet"
  | 10 => .int
  | 11 => .object "java/util/ArrayList"
  | _ => .object "java/util/ArrayList"
abbrev wsX170 : List Cond := u_ws RX17 TX17 13
theorem nmX17 : ∀ a, a < 13 → ∀ b, b < 13 → a ≠ b → (TX17 a).2.1 ≠ (TX17 b).2.1 := by decide +kernel
theorem tyX17_ok : ∀ k, k < 13 → parseFieldDescriptor (TX17 k).2.2.1 = some (tyX17 k) := by decide +kernel
abbrev cX17_init : ByteArray := prog_20_method_1_code
def yX17_init : MethodName := ⟨RX17, "<init>", "()V"⟩
abbrev cX17_rest : ByteArray := prog_20_method_2_code
def yX17_rest : MethodName := ⟨RX17, "rest", "()V"⟩
abbrev cX17_copy : ByteArray := prog_20_method_3_code
def yX17_copy : MethodName := ⟨RX17, "copy", "()LSwitchyardModel$Port;"⟩
def RX18 : String := "SwitchyardModel$Post"
def TX18 : u_T := fun k => match k with
  | 0 => ("SwitchyardModel$Post", "letter", "LSwitchyardModel$Letter;", true)
  | _ => ("SwitchyardModel$Post", "comes", "I", true)
def tyX18 : Nat → FieldType := fun k => match k with
  | 0 => .object "SwitchyardModel$Letter"
  | _ => .int
abbrev wsX180 : List Cond := u_ws RX18 TX18 2
theorem nmX18 : ∀ a, a < 2 → ∀ b, b < 2 → a ≠ b → (TX18 a).2.1 ≠ (TX18 b).2.1 := by decide +kernel
theorem tyX18_ok : ∀ k, k < 2 → parseFieldDescriptor (TX18 k).2.2.1 = some (tyX18 k) := by decide +kernel
abbrev cX18_init : ByteArray := prog_21_method_1_code
def yX18_init : MethodName := ⟨RX18, "<init>", "(LSwitchyardModel$Letter;I)V"⟩
def RX19 : String := "SwitchyardModel"
def TX19 : u_T := fun k => match k with
  | 0 => ("SwitchyardModel", "net", "LSwitchyardModel$Net;", true)
  | _ => ("SwitchyardModel", "thrown", "I", false)
def tyX19 : Nat → FieldType := fun k => match k with
  | 0 => .object "SwitchyardModel$Net"
  | _ => .int
abbrev wsX190 : List Cond := u_ws RX19 TX19 2
theorem nmX19 : ∀ a, a < 2 → ∀ b, b < 2 → a ≠ b → (TX19 a).2.1 ≠ (TX19 b).2.1 := by decide +kernel
theorem tyX19_ok : ∀ k, k < 2 → parseFieldDescriptor (TX19 k).2.2.1 = some (tyX19 k) := by decide +kernel
abbrev cX19_init : ByteArray := prog_14_method_1_code
def yX19_init : MethodName := ⟨RX19, "<init>", "()V"⟩
abbrev cX19_bits : ByteArray := prog_14_method_2_code
def yX19_bits : MethodName := ⟨RX19, "bits", "(II)I"⟩
abbrev cX19_fits : ByteArray := prog_14_method_3_code
def yX19_fits : MethodName := ⟨RX19, "fits", "(III)Z"⟩
abbrev cX19_trie : ByteArray := prog_14_method_4_code
def yX19_trie : MethodName := ⟨RX19, "trie", "(Ljava/util/ArrayList;)[I"⟩
abbrev cX19_added : ByteArray := prog_14_method_5_code
def yX19_added : MethodName := ⟨RX19, "added", "([III)[I"⟩
abbrev cX19_depth : ByteArray := prog_14_method_6_code
def yX19_depth : MethodName := ⟨RX19, "depth", "([I)I"⟩
abbrev cX19_looks : ByteArray := prog_14_method_7_code
def yX19_looks : MethodName := ⟨RX19, "looks", "([II)I"⟩
abbrev cX19_thrown : ByteArray := prog_14_method_8_code
def yX19_thrown : MethodName := ⟨RX19, "thrown", "()I"⟩
abbrev cX19_isIn : ByteArray := prog_14_method_9_code
def yX19_isIn : MethodName := ⟨RX19, "isIn", "(III)Z"⟩
abbrev cX19_refuse : ByteArray := prog_14_method_10_code
def yX19_refuse : MethodName := ⟨RX19, "refuse", "(ZI)Z"⟩
abbrev cX19_start : ByteArray := prog_14_method_11_code
def yX19_start : MethodName := ⟨RX19, "start", "(ZI)Z"⟩
abbrev cX19_plain : ByteArray := prog_14_method_12_code
def yX19_plain : MethodName := ⟨RX19, "plain", "(I)I"⟩
abbrev cX19_isNoRouter : ByteArray := prog_14_method_13_code
def yX19_isNoRouter : MethodName := ⟨RX19, "isNoRouter", "(I)Z"⟩
abbrev cX19_areNone : ByteArray := prog_14_method_14_code
def yX19_areNone : MethodName := ⟨RX19, "areNone", "(II)Z"⟩
abbrev cX19_isNoLink : ByteArray := prog_14_method_15_code
def yX19_isNoLink : MethodName := ⟨RX19, "isNoLink", "(I)Z"⟩
abbrev cX19_isNoFlow : ByteArray := prog_14_method_16_code
def yX19_isNoFlow : MethodName := ⟨RX19, "isNoFlow", "(I)Z"⟩
abbrev cX19_addRouter : ByteArray := prog_14_method_17_code
def yX19_addRouter : MethodName := ⟨RX19, "addRouter", "()I"⟩
abbrev cX19_addLink : ByteArray := prog_14_method_18_code
def yX19_addLink : MethodName := ⟨RX19, "addLink", "(IIIII)I"⟩
abbrev cX19_setCost : ByteArray := prog_14_method_19_code
def yX19_setCost : MethodName := ⟨RX19, "setCost", "(II)I"⟩
abbrev cX19_setUp : ByteArray := prog_14_method_20_code
def yX19_setUp : MethodName := ⟨RX19, "setUp", "(IZ)Z"⟩
abbrev cX19_isPrefix : ByteArray := prog_14_method_21_code
def yX19_isPrefix : MethodName := ⟨RX19, "isPrefix", "(II)Z"⟩
abbrev cX19_hasNetwork : ByteArray := prog_14_method_22_code
def yX19_hasNetwork : MethodName := ⟨RX19, "hasNetwork", "(III)Z"⟩
abbrev cX19_addNetwork : ByteArray := prog_14_method_23_code
def yX19_addNetwork : MethodName := ⟨RX19, "addNetwork", "(III)I"⟩
abbrev cX19_close : ByteArray := prog_14_method_24_code
def yX19_close : MethodName := ⟨RX19, "close", "([III)V"⟩
abbrev cX19_dropNetwork : ByteArray := prog_14_method_25_code
def yX19_dropNetwork : MethodName := ⟨RX19, "dropNetwork", "(I)I"⟩
abbrev cX19_addStatic : ByteArray := prog_14_method_26_code
def yX19_addStatic : MethodName := ⟨RX19, "addStatic", "(IIII)I"⟩
abbrev cX19_dropStatic : ByteArray := prog_14_method_27_code
def yX19_dropStatic : MethodName := ⟨RX19, "dropStatic", "(I)I"⟩
abbrev cX19_port : ByteArray := prog_14_method_28_code
def yX19_port : MethodName := ⟨RX19, "port", "(IZ)LSwitchyardModel$Port;"⟩
abbrev cX19_setPort : ByteArray := prog_14_method_29_code
def yX19_setPort : MethodName := ⟨RX19, "setPort", "(IZIIZ)I"⟩
abbrev cX19_setWeight : ByteArray := prog_14_method_30_code
def yX19_setWeight : MethodName := ⟨RX19, "setWeight", "(IZII)I"⟩
abbrev cX19_addFlow : ByteArray := prog_14_method_31_code
def yX19_addFlow : MethodName := ⟨RX19, "addFlow", "(IIII)I"⟩
abbrev cX19_schedule : ByteArray := prog_14_method_32_code
def yX19_schedule : MethodName := ⟨RX19, "schedule", "(IIII)I"⟩
abbrev cX19_shape : ByteArray := prog_14_method_33_code
def yX19_shape : MethodName := ⟨RX19, "shape", "(III)I"⟩
abbrev cX19_step : ByteArray := prog_14_method_34_code
def yX19_step : MethodName := ⟨RX19, "step", "(I)I"⟩
abbrev cX19_time : ByteArray := prog_14_method_35_code
def yX19_time : MethodName := ⟨RX19, "time", "()I"⟩
abbrev cX19_routers : ByteArray := prog_14_method_36_code
def yX19_routers : MethodName := ⟨RX19, "routers", "()I"⟩
abbrev cX19_links : ByteArray := prog_14_method_37_code
def yX19_links : MethodName := ⟨RX19, "links", "()I"⟩
abbrev cX19_networks : ByteArray := prog_14_method_38_code
def yX19_networks : MethodName := ⟨RX19, "networks", "()I"⟩
abbrev cX19_statics : ByteArray := prog_14_method_39_code
def yX19_statics : MethodName := ⟨RX19, "statics", "()I"⟩
abbrev cX19_flows : ByteArray := prog_14_method_40_code
def yX19_flows : MethodName := ⟨RX19, "flows", "()I"⟩
abbrev cX19_isUp : ByteArray := prog_14_method_41_code
def yX19_isUp : MethodName := ⟨RX19, "isUp", "(I)Z"⟩
abbrev cX19_letterOf : ByteArray := prog_14_method_42_code
def yX19_letterOf : MethodName := ⟨RX19, "letterOf", "(II)I"⟩
abbrev cX19_letters : ByteArray := prog_14_method_43_code
def yX19_letters : MethodName := ⟨RX19, "letters", "()I"⟩
abbrev cX19_isSettled : ByteArray := prog_14_method_44_code
def yX19_isSettled : MethodName := ⟨RX19, "isSettled", "()Z"⟩
abbrev cX19_distance : ByteArray := prog_14_method_45_code
def yX19_distance : MethodName := ⟨RX19, "distance", "(II)I"⟩
abbrev cX19_firstLinks : ByteArray := prog_14_method_46_code
def yX19_firstLinks : MethodName := ⟨RX19, "firstLinks", "(II)I"⟩
abbrev cX19_entries : ByteArray := prog_14_method_47_code
def yX19_entries : MethodName := ⟨RX19, "entries", "(I)I"⟩
abbrev cX19_trieNodes : ByteArray := prog_14_method_48_code
def yX19_trieNodes : MethodName := ⟨RX19, "trieNodes", "(I)I"⟩
abbrev cX19_trieDepth : ByteArray := prog_14_method_49_code
def yX19_trieDepth : MethodName := ⟨RX19, "trieDepth", "(I)I"⟩
abbrev cX19_isNoAddress : ByteArray := prog_14_method_50_code
def yX19_isNoAddress : MethodName := ⟨RX19, "isNoAddress", "(II)Z"⟩
abbrev cX19_looks_ : ByteArray := prog_14_method_51_code
def yX19_looks_ : MethodName := ⟨RX19, "looks", "(II)I"⟩
abbrev cX19_found : ByteArray := prog_14_method_52_code
def yX19_found : MethodName := ⟨RX19, "found", "(II)I"⟩
abbrev cX19_sortOf : ByteArray := prog_14_method_53_code
def yX19_sortOf : MethodName := ⟨RX19, "sortOf", "(II)I"⟩
abbrev cX19_nextLink : ByteArray := prog_14_method_54_code
def yX19_nextLink : MethodName := ⟨RX19, "nextLink", "(II)I"⟩
abbrev cX19_route : ByteArray := prog_14_method_55_code
def yX19_route : MethodName := ⟨RX19, "route", "(I)I"⟩
abbrev cX19_waiting : ByteArray := prog_14_method_56_code
def yX19_waiting : MethodName := ⟨RX19, "waiting", "(IZ)I"⟩
abbrev cX19_queuedAt : ByteArray := prog_14_method_57_code
def yX19_queuedAt : MethodName := ⟨RX19, "queuedAt", "(LSwitchyardModel$Port;I)I"⟩
abbrev cX19_isNoClass : ByteArray := prog_14_method_58_code
def yX19_isNoClass : MethodName := ⟨RX19, "isNoClass", "(II)Z"⟩
abbrev cX19_queued : ByteArray := prog_14_method_59_code
def yX19_queued : MethodName := ⟨RX19, "queued", "(IZI)I"⟩
abbrev cX19_sending : ByteArray := prog_14_method_60_code
def yX19_sending : MethodName := ⟨RX19, "sending", "(IZ)I"⟩
abbrev cX19_deficit : ByteArray := prog_14_method_61_code
def yX19_deficit : MethodName := ⟨RX19, "deficit", "(IZI)I"⟩
abbrev cX19_onLinkNow : ByteArray := prog_14_method_62_code
def yX19_onLinkNow : MethodName := ⟨RX19, "onLinkNow", "(I)I"⟩
abbrev cX19_onLink : ByteArray := prog_14_method_63_code
def yX19_onLink : MethodName := ⟨RX19, "onLink", "(I)I"⟩
abbrev cX19_offered : ByteArray := prog_14_method_64_code
def yX19_offered : MethodName := ⟨RX19, "offered", "(I)I"⟩
abbrev cX19_shaping : ByteArray := prog_14_method_65_code
def yX19_shaping : MethodName := ⟨RX19, "shaping", "(I)I"⟩
abbrev cX19_tokens : ByteArray := prog_14_method_66_code
def yX19_tokens : MethodName := ⟨RX19, "tokens", "(I)I"⟩
abbrev cX19_delivered : ByteArray := prog_14_method_67_code
def yX19_delivered : MethodName := ⟨RX19, "delivered", "(I)I"⟩
abbrev cX19_dropped : ByteArray := prog_14_method_68_code
def yX19_dropped : MethodName := ⟨RX19, "dropped", "(II)I"⟩
abbrev cX19_latest : ByteArray := prog_14_method_69_code
def yX19_latest : MethodName := ⟨RX19, "latest", "(I)I"⟩
abbrev cX19_meanLate : ByteArray := prog_14_method_70_code
def yX19_meanLate : MethodName := ⟨RX19, "meanLate", "(I)D"⟩
abbrev cX19_outOfOrder : ByteArray := prog_14_method_71_code
def yX19_outOfOrder : MethodName := ⟨RX19, "outOfOrder", "(I)I"⟩
abbrev cX19_deliveredIn : ByteArray := prog_14_method_72_code
def yX19_deliveredIn : MethodName := ⟨RX19, "deliveredIn", "(II)I"⟩
abbrev cX19_settledIn : ByteArray := prog_14_method_73_code
def yX19_settledIn : MethodName := ⟨RX19, "settledIn", "(I)I"⟩
abbrev cX19_add : ByteArray := prog_14_method_74_code
def yX19_add : MethodName := ⟨RX19, "add", "(JJ)J"⟩
abbrev cX19_digest : ByteArray := prog_14_method_75_code
def yX19_digest : MethodName := ⟨RX19, "digest", "()J"⟩
def RJx145de : String := "java/io/Serializable"
def TJx145de : u_T := fun k => match k with
  | _ => ("", "", "", false)
def tyJx145de : Nat → FieldType := fun k => match k with
  | _ => .int
abbrev wsJx145de0 : List Cond := u_ws RJx145de TJx145de 0
theorem nmJx145de : ∀ a, a < 0 → ∀ b, b < 0 → a ≠ b → (TJx145de a).2.1 ≠ (TJx145de b).2.1 := by decide +kernel
theorem tyJx145de_ok : ∀ k, k < 0 → parseFieldDescriptor (TJx145de k).2.2.1 = some (tyJx145de k) := by decide +kernel
def RJx8e188 : String := "java/lang/Cloneable"
def TJx8e188 : u_T := fun k => match k with
  | _ => ("", "", "", false)
def tyJx8e188 : Nat → FieldType := fun k => match k with
  | _ => .int
abbrev wsJx8e1880 : List Cond := u_ws RJx8e188 TJx8e188 0
theorem nmJx8e188 : ∀ a, a < 0 → ∀ b, b < 0 → a ≠ b → (TJx8e188 a).2.1 ≠ (TJx8e188 b).2.1 := by decide +kernel
theorem tyJx8e188_ok : ∀ k, k < 0 → parseFieldDescriptor (TJx8e188 k).2.2.1 = some (tyJx8e188 k) := by decide +kernel
def RJ6 : String := "java/lang/Integer"
def TJ6 : u_T := fun k => match k with
  | _ => ("", "", "", false)
def tyJ6 : Nat → FieldType := fun k => match k with
  | _ => .int
abbrev wsJ60 : List Cond := u_ws RJ6 TJ6 0
theorem nmJ6 : ∀ a, a < 0 → ∀ b, b < 0 → a ≠ b → (TJ6 a).2.1 ≠ (TJ6 b).2.1 := by decide +kernel
theorem tyJ6_ok : ∀ k, k < 0 → parseFieldDescriptor (TJ6 k).2.2.1 = some (tyJ6 k) := by decide +kernel
abbrev cJ6_bitCount_0f7a4 : ByteArray := prog_28_method_49_code
def yJ6_bitCount_0f7a4 : MethodName := ⟨RJ6, "bitCount", "(I)I"⟩
def RJxab1ab : String := "java/lang/Iterable"
def TJxab1ab : u_T := fun k => match k with
  | _ => ("", "", "", false)
def tyJxab1ab : Nat → FieldType := fun k => match k with
  | _ => .int
abbrev wsJxab1ab0 : List Cond := u_ws RJxab1ab TJxab1ab 0
theorem nmJxab1ab : ∀ a, a < 0 → ∀ b, b < 0 → a ≠ b → (TJxab1ab a).2.1 ≠ (TJxab1ab b).2.1 := by decide +kernel
theorem tyJxab1ab_ok : ∀ k, k < 0 → parseFieldDescriptor (TJxab1ab k).2.2.1 = some (tyJxab1ab k) := by decide +kernel
def RJ9 : String := "java/lang/Math"
def TJ9 : u_T := fun k => match k with
  | _ => ("", "", "", false)
def tyJ9 : Nat → FieldType := fun k => match k with
  | _ => .int
abbrev wsJ90 : List Cond := u_ws RJ9 TJ9 0
theorem nmJ9 : ∀ a, a < 0 → ∀ b, b < 0 → a ≠ b → (TJ9 a).2.1 ≠ (TJ9 b).2.1 := by decide +kernel
theorem tyJ9_ok : ∀ k, k < 0 → parseFieldDescriptor (TJ9 k).2.2.1 = some (tyJ9 k) := by decide +kernel
abbrev cJ9_floorMod_7cf53 : ByteArray := prog_30_method_50_code
def yJ9_floorMod_7cf53 : MethodName := ⟨RJ9, "floorMod", "(II)I"⟩
abbrev cJ9_max_7cf53 : ByteArray := prog_30_method_65_code
def yJ9_max_7cf53 : MethodName := ⟨RJ9, "max", "(II)I"⟩
abbrev cJ9_min_7cf53 : ByteArray := prog_30_method_69_code
def yJ9_min_7cf53 : MethodName := ⟨RJ9, "min", "(II)I"⟩
def RJ0 : String := "java/lang/String"
def TJ0 : u_T := fun k => match k with
  | _ => ("", "", "", false)
def tyJ0 : Nat → FieldType := fun k => match k with
  | _ => .int
abbrev wsJ00 : List Cond := u_ws RJ0 TJ0 0
theorem nmJ0 : ∀ a, a < 0 → ∀ b, b < 0 → a ≠ b → (TJ0 a).2.1 ≠ (TJ0 b).2.1 := by decide +kernel
theorem tyJ0_ok : ∀ k, k < 0 → parseFieldDescriptor (TJ0 k).2.2.1 = some (tyJ0 k) := by decide +kernel
def RJ10 : String := "java/lang/System"
def TJ10 : u_T := fun k => match k with
  | _ => ("", "", "", false)
def tyJ10 : Nat → FieldType := fun k => match k with
  | _ => .int
abbrev wsJ100 : List Cond := u_ws RJ10 TJ10 0
theorem nmJ10 : ∀ a, a < 0 → ∀ b, b < 0 → a ≠ b → (TJ10 a).2.1 ≠ (TJ10 b).2.1 := by decide +kernel
theorem tyJ10_ok : ∀ k, k < 0 → parseFieldDescriptor (TJ10 k).2.2.1 = some (tyJ10 k) := by decide +kernel
def RJxa1e45 : String := "java/util/AbstractCollection"
def TJxa1e45 : u_T := fun k => match k with
  | _ => ("", "", "", false)
def tyJxa1e45 : Nat → FieldType := fun k => match k with
  | _ => .int
abbrev wsJxa1e450 : List Cond := u_ws RJxa1e45 TJxa1e45 0
theorem nmJxa1e45 : ∀ a, a < 0 → ∀ b, b < 0 → a ≠ b → (TJxa1e45 a).2.1 ≠ (TJxa1e45 b).2.1 := by decide +kernel
theorem tyJxa1e45_ok : ∀ k, k < 0 → parseFieldDescriptor (TJxa1e45 k).2.2.1 = some (tyJxa1e45 k) := by decide +kernel
abbrev cJxa1e45_init_da8c8 : ByteArray := prog_35_method_1_code
def yJxa1e45_init_da8c8 : MethodName := ⟨RJxa1e45, "<init>", "()V"⟩
def RJxc12de : String := "java/util/AbstractList"
def TJxc12de : u_T := fun k => match k with
  | _ => ("", "", "", false)
def tyJxc12de : Nat → FieldType := fun k => match k with
  | _ => .int
abbrev wsJxc12de0 : List Cond := u_ws RJxc12de TJxc12de 0
theorem nmJxc12de : ∀ a, a < 0 → ∀ b, b < 0 → a ≠ b → (TJxc12de a).2.1 ≠ (TJxc12de b).2.1 := by decide +kernel
theorem tyJxc12de_ok : ∀ k, k < 0 → parseFieldDescriptor (TJxc12de k).2.2.1 = some (tyJxc12de k) := by decide +kernel
abbrev cJxc12de_init_da8c8 : ByteArray := prog_36_method_1_code
def yJxc12de_init_da8c8 : MethodName := ⟨RJxc12de, "<init>", "()V"⟩
def RJx4a65c : String := "java/util/ArrayList"
def TJx4a65c : u_T := fun k => match k with
  | 0 => ("java/util/AbstractList", "modCount", "I", false)
  | 1 => ("java/util/ArrayList", "elementData", "[Ljava/lang/Object;", false)
  | _ => ("java/util/ArrayList", "size", "I", false)
def tyJx4a65c : Nat → FieldType := fun k => match k with
  | 0 => .int
  | 1 => .array (.object "java/lang/Object")
  | _ => .int
abbrev wsJx4a65c0 : List Cond := u_ws RJx4a65c TJx4a65c 3
theorem nmJx4a65c : ∀ a, a < 3 → ∀ b, b < 3 → a ≠ b → (TJx4a65c a).2.1 ≠ (TJx4a65c b).2.1 := by decide +kernel
theorem tyJx4a65c_ok : ∀ k, k < 3 → parseFieldDescriptor (TJx4a65c k).2.2.1 = some (tyJx4a65c k) := by decide +kernel
abbrev cJx4a65c_init_da8c8 : ByteArray := prog_37_method_2_code
def yJx4a65c_init_da8c8 : MethodName := ⟨RJx4a65c, "<init>", "()V"⟩
abbrev cJx4a65c_grow_92f84 : ByteArray := prog_37_method_6_code
def yJx4a65c_grow_92f84 : MethodName := ⟨RJx4a65c, "grow", "(I)[Ljava/lang/Object;"⟩
abbrev cJx4a65c_grow_d5877 : ByteArray := prog_37_method_7_code
def yJx4a65c_grow_d5877 : MethodName := ⟨RJx4a65c, "grow", "()[Ljava/lang/Object;"⟩
abbrev cJx4a65c_size_8abf5 : ByteArray := prog_37_method_8_code
def yJx4a65c_size_8abf5 : MethodName := ⟨RJx4a65c, "size", "()I"⟩
abbrev cJx4a65c_isEmpty_aae02 : ByteArray := prog_37_method_9_code
def yJx4a65c_isEmpty_aae02 : MethodName := ⟨RJx4a65c, "isEmpty", "()Z"⟩
abbrev cJx4a65c_toArray_d5877 : ByteArray := prog_37_method_16_code
def yJx4a65c_toArray_d5877 : MethodName := ⟨RJx4a65c, "toArray", "()[Ljava/lang/Object;"⟩
abbrev cJx4a65c_elementData_915e3 : ByteArray := prog_37_method_18_code
def yJx4a65c_elementData_915e3 : MethodName := ⟨RJx4a65c, "elementData", "(I)Ljava/lang/Object;"⟩
abbrev cJx4a65c_get_915e3 : ByteArray := prog_37_method_20_code
def yJx4a65c_get_915e3 : MethodName := ⟨RJx4a65c, "get", "(I)Ljava/lang/Object;"⟩
abbrev cJx4a65c_add_72be8 : ByteArray := prog_37_method_24_code
def yJx4a65c_add_72be8 : MethodName := ⟨RJx4a65c, "add", "(Ljava/lang/Object;[Ljava/lang/Object;I)V"⟩
abbrev cJx4a65c_add_9ea2d : ByteArray := prog_37_method_25_code
def yJx4a65c_add_9ea2d : MethodName := ⟨RJx4a65c, "add", "(Ljava/lang/Object;)Z"⟩
abbrev cJx4a65c_remove_915e3 : ByteArray := prog_37_method_29_code
def yJx4a65c_remove_915e3 : MethodName := ⟨RJx4a65c, "remove", "(I)Ljava/lang/Object;"⟩
abbrev cJx4a65c_fastRemove_b59b0 : ByteArray := prog_37_method_39_code
def yJx4a65c_fastRemove_b59b0 : MethodName := ⟨RJx4a65c, "fastRemove", "([Ljava/lang/Object;I)V"⟩
abbrev cJx4a65c_clear_da8c8 : ByteArray := prog_37_method_40_code
def yJx4a65c_clear_da8c8 : MethodName := ⟨RJx4a65c, "clear", "()V"⟩
abbrev cJx4a65c_addAll_f0b43 : ByteArray := prog_37_method_41_code
def yJx4a65c_addAll_f0b43 : MethodName := ⟨RJx4a65c, "addAll", "(Ljava/util/Collection;)Z"⟩
def RJ7 : String := "java/util/Arrays"
def TJ7 : u_T := fun k => match k with
  | _ => ("", "", "", false)
def tyJ7 : Nat → FieldType := fun k => match k with
  | _ => .int
abbrev wsJ70 : List Cond := u_ws RJ7 TJ7 0
theorem nmJ7 : ∀ a, a < 0 → ∀ b, b < 0 → a ≠ b → (TJ7 a).2.1 ≠ (TJ7 b).2.1 := by decide +kernel
theorem tyJ7_ok : ∀ k, k < 0 → parseFieldDescriptor (TJ7 k).2.2.1 = some (tyJ7 k) := by decide +kernel
abbrev cJ7_copyOf_1904c : ByteArray := prog_38_method_119_code
def yJ7_copyOf_1904c : MethodName := ⟨RJ7, "copyOf", "([Ljava/lang/Object;I)[Ljava/lang/Object;"⟩
abbrev cJ7_copyOf_6403c : ByteArray := prog_38_method_120_code
def yJ7_copyOf_6403c : MethodName := ⟨RJ7, "copyOf", "([Ljava/lang/Object;ILjava/lang/Class;)[Ljava/lang/Object;"⟩
def RJx5ef63 : String := "java/util/Collection"
def TJx5ef63 : u_T := fun k => match k with
  | _ => ("", "", "", false)
def tyJx5ef63 : Nat → FieldType := fun k => match k with
  | _ => .int
abbrev wsJx5ef630 : List Cond := u_ws RJx5ef63 TJx5ef63 0
theorem nmJx5ef63 : ∀ a, a < 0 → ∀ b, b < 0 → a ≠ b → (TJx5ef63 a).2.1 ≠ (TJx5ef63 b).2.1 := by decide +kernel
theorem tyJx5ef63_ok : ∀ k, k < 0 → parseFieldDescriptor (TJx5ef63 k).2.2.1 = some (tyJx5ef63 k) := by decide +kernel
def RJxbd725 : String := "java/util/List"
def TJxbd725 : u_T := fun k => match k with
  | _ => ("", "", "", false)
def tyJxbd725 : Nat → FieldType := fun k => match k with
  | _ => .int
abbrev wsJxbd7250 : List Cond := u_ws RJxbd725 TJxbd725 0
theorem nmJxbd725 : ∀ a, a < 0 → ∀ b, b < 0 → a ≠ b → (TJxbd725 a).2.1 ≠ (TJxbd725 b).2.1 := by decide +kernel
theorem tyJxbd725_ok : ∀ k, k < 0 → parseFieldDescriptor (TJxbd725 k).2.2.1 = some (tyJxbd725 k) := by decide +kernel
def RJ15 : String := "java/util/Objects"
def TJ15 : u_T := fun k => match k with
  | _ => ("", "", "", false)
def tyJ15 : Nat → FieldType := fun k => match k with
  | _ => .int
abbrev wsJ150 : List Cond := u_ws RJ15 TJ15 0
theorem nmJ15 : ∀ a, a < 0 → ∀ b, b < 0 → a ≠ b → (TJ15 a).2.1 ≠ (TJ15 b).2.1 := by decide +kernel
theorem tyJ15_ok : ∀ k, k < 0 → parseFieldDescriptor (TJ15 k).2.2.1 = some (tyJ15 k) := by decide +kernel
abbrev cJ15_checkIndex_7cf53 : ByteArray := prog_41_method_17_code
def yJ15_checkIndex_7cf53 : MethodName := ⟨RJ15, "checkIndex", "(II)I"⟩
def RJxf0a74 : String := "java/util/RandomAccess"
def TJxf0a74 : u_T := fun k => match k with
  | _ => ("", "", "", false)
def tyJxf0a74 : Nat → FieldType := fun k => match k with
  | _ => .int
abbrev wsJxf0a740 : List Cond := u_ws RJxf0a74 TJxf0a74 0
theorem nmJxf0a74 : ∀ a, a < 0 → ∀ b, b < 0 → a ≠ b → (TJxf0a74 a).2.1 ≠ (TJxf0a74 b).2.1 := by decide +kernel
theorem tyJxf0a74_ok : ∀ k, k < 0 → parseFieldDescriptor (TJxf0a74 k).2.2.1 = some (tyJxf0a74 k) := by decide +kernel
def RJxa66e6 : String := "java/util/SequencedCollection"
def TJxa66e6 : u_T := fun k => match k with
  | _ => ("", "", "", false)
def tyJxa66e6 : Nat → FieldType := fun k => match k with
  | _ => .int
abbrev wsJxa66e60 : List Cond := u_ws RJxa66e6 TJxa66e6 0
theorem nmJxa66e6 : ∀ a, a < 0 → ∀ b, b < 0 → a ≠ b → (TJxa66e6 a).2.1 ≠ (TJxa66e6 b).2.1 := by decide +kernel
theorem tyJxa66e6_ok : ∀ k, k < 0 → parseFieldDescriptor (TJxa66e6 k).2.2.1 = some (tyJxa66e6 k) := by decide +kernel
def RJ8 : String := "jdk/internal/util/ArraysSupport"
def TJ8 : u_T := fun k => match k with
  | _ => ("", "", "", false)
def tyJ8 : Nat → FieldType := fun k => match k with
  | _ => .int
abbrev wsJ80 : List Cond := u_ws RJ8 TJ8 0
theorem nmJ8 : ∀ a, a < 0 → ∀ b, b < 0 → a ≠ b → (TJ8 a).2.1 ≠ (TJ8 b).2.1 := by decide +kernel
theorem tyJ8_ok : ∀ k, k < 0 → parseFieldDescriptor (TJ8 k).2.2.1 = some (tyJ8 k) := by decide +kernel
abbrev cJ8_newLength_cabcc : ByteArray := prog_44_method_27_code
def yJ8_newLength_cabcc : MethodName := ⟨RJ8, "newLength", "(III)I"⟩
abbrev cJ8_hugeLength_7cf53 : ByteArray := prog_44_method_28_code
def yJ8_hugeLength_7cf53 : MethodName := ⟨RJ8, "hugeLength", "(II)I"⟩
def RJ3 : String := "jdk/internal/util/Preconditions"
def TJ3 : u_T := fun k => match k with
  | _ => ("", "", "", false)
def tyJ3 : Nat → FieldType := fun k => match k with
  | _ => .int
abbrev wsJ30 : List Cond := u_ws RJ3 TJ3 0
theorem nmJ3 : ∀ a, a < 0 → ∀ b, b < 0 → a ≠ b → (TJ3 a).2.1 ≠ (TJ3 b).2.1 := by decide +kernel
theorem tyJ3_ok : ∀ k, k < 0 → parseFieldDescriptor (TJ3 k).2.2.1 = some (tyJ3 k) := by decide +kernel
abbrev cJ3_checkIndex_8e157 : ByteArray := prog_45_method_11_code
def yJ3_checkIndex_8e157 : MethodName := ⟨RJ3, "checkIndex", "(IILjava/util/function/BiFunction;)I"⟩
def RL : String := "SwitchyardLaw"
abbrev cL_addRouter : ByteArray := method_3_code
def yL_addRouter : MethodName := ⟨RL, "addRouter", "(LSwitchyard;[J)I"⟩
abbrev cL_addLink : ByteArray := method_4_code
def yL_addLink : MethodName := ⟨RL, "addLink", "(LSwitchyard;IIIII[J)I"⟩
abbrev cL_setCost : ByteArray := method_5_code
def yL_setCost : MethodName := ⟨RL, "setCost", "(LSwitchyard;II[J)I"⟩
abbrev cL_setUp : ByteArray := method_6_code
def yL_setUp : MethodName := ⟨RL, "setUp", "(LSwitchyard;IZ[J)I"⟩
abbrev cL_addNetwork : ByteArray := method_7_code
def yL_addNetwork : MethodName := ⟨RL, "addNetwork", "(LSwitchyard;III[J)I"⟩
abbrev cL_dropNetwork : ByteArray := method_8_code
def yL_dropNetwork : MethodName := ⟨RL, "dropNetwork", "(LSwitchyard;I[J)I"⟩
abbrev cL_addStatic : ByteArray := method_9_code
def yL_addStatic : MethodName := ⟨RL, "addStatic", "(LSwitchyard;IIII[J)I"⟩
abbrev cL_dropStatic : ByteArray := method_10_code
def yL_dropStatic : MethodName := ⟨RL, "dropStatic", "(LSwitchyard;I[J)I"⟩
abbrev cL_setPort : ByteArray := method_11_code
def yL_setPort : MethodName := ⟨RL, "setPort", "(LSwitchyard;IZIIZ[J)I"⟩
abbrev cL_setWeight : ByteArray := method_12_code
def yL_setWeight : MethodName := ⟨RL, "setWeight", "(LSwitchyard;IZII[J)I"⟩
abbrev cL_addFlow : ByteArray := method_13_code
def yL_addFlow : MethodName := ⟨RL, "addFlow", "(LSwitchyard;IIII[J)I"⟩
abbrev cL_schedule : ByteArray := method_14_code
def yL_schedule : MethodName := ⟨RL, "schedule", "(LSwitchyard;IIII[J)I"⟩
abbrev cL_shape : ByteArray := method_15_code
def yL_shape : MethodName := ⟨RL, "shape", "(LSwitchyard;III[J)I"⟩
abbrev cL_step : ByteArray := method_16_code
def yL_step : MethodName := ⟨RL, "step", "(LSwitchyard;I[J)I"⟩
abbrev cL_isUp : ByteArray := method_17_code
def yL_isUp : MethodName := ⟨RL, "isUp", "(LSwitchyard;I[J)I"⟩
abbrev cL_letterOf : ByteArray := method_18_code
def yL_letterOf : MethodName := ⟨RL, "letterOf", "(LSwitchyard;II[J)I"⟩
abbrev cL_distance : ByteArray := method_19_code
def yL_distance : MethodName := ⟨RL, "distance", "(LSwitchyard;II[J)I"⟩
abbrev cL_firstLinks : ByteArray := method_20_code
def yL_firstLinks : MethodName := ⟨RL, "firstLinks", "(LSwitchyard;II[J)I"⟩
abbrev cL_entries : ByteArray := method_21_code
def yL_entries : MethodName := ⟨RL, "entries", "(LSwitchyard;I[J)I"⟩
abbrev cL_trieNodes : ByteArray := method_22_code
def yL_trieNodes : MethodName := ⟨RL, "trieNodes", "(LSwitchyard;I[J)I"⟩
abbrev cL_trieDepth : ByteArray := method_23_code
def yL_trieDepth : MethodName := ⟨RL, "trieDepth", "(LSwitchyard;I[J)I"⟩
abbrev cL_looks : ByteArray := method_24_code
def yL_looks : MethodName := ⟨RL, "looks", "(LSwitchyard;II[J)I"⟩
abbrev cL_found : ByteArray := method_25_code
def yL_found : MethodName := ⟨RL, "found", "(LSwitchyard;II[J)I"⟩
abbrev cL_sortOf : ByteArray := method_26_code
def yL_sortOf : MethodName := ⟨RL, "sortOf", "(LSwitchyard;II[J)I"⟩
abbrev cL_nextLink : ByteArray := method_27_code
def yL_nextLink : MethodName := ⟨RL, "nextLink", "(LSwitchyard;II[J)I"⟩
abbrev cL_route : ByteArray := method_28_code
def yL_route : MethodName := ⟨RL, "route", "(LSwitchyard;I[J)I"⟩
abbrev cL_waiting : ByteArray := method_29_code
def yL_waiting : MethodName := ⟨RL, "waiting", "(LSwitchyard;IZ[J)I"⟩
abbrev cL_queued : ByteArray := method_30_code
def yL_queued : MethodName := ⟨RL, "queued", "(LSwitchyard;IZI[J)I"⟩
abbrev cL_sending : ByteArray := method_31_code
def yL_sending : MethodName := ⟨RL, "sending", "(LSwitchyard;IZ[J)I"⟩
abbrev cL_deficit : ByteArray := method_32_code
def yL_deficit : MethodName := ⟨RL, "deficit", "(LSwitchyard;IZI[J)I"⟩
abbrev cL_onLink : ByteArray := method_33_code
def yL_onLink : MethodName := ⟨RL, "onLink", "(LSwitchyard;I[J)I"⟩
abbrev cL_offered : ByteArray := method_34_code
def yL_offered : MethodName := ⟨RL, "offered", "(LSwitchyard;I[J)I"⟩
abbrev cL_shaping : ByteArray := method_35_code
def yL_shaping : MethodName := ⟨RL, "shaping", "(LSwitchyard;I[J)I"⟩
abbrev cL_tokens : ByteArray := method_36_code
def yL_tokens : MethodName := ⟨RL, "tokens", "(LSwitchyard;I[J)I"⟩
abbrev cL_delivered : ByteArray := method_37_code
def yL_delivered : MethodName := ⟨RL, "delivered", "(LSwitchyard;I[J)I"⟩
abbrev cL_dropped : ByteArray := method_38_code
def yL_dropped : MethodName := ⟨RL, "dropped", "(LSwitchyard;II[J)I"⟩
abbrev cL_latest : ByteArray := method_39_code
def yL_latest : MethodName := ⟨RL, "latest", "(LSwitchyard;I[J)I"⟩
abbrev cL_meanLate : ByteArray := method_40_code
def yL_meanLate : MethodName := ⟨RL, "meanLate", "(LSwitchyard;I[D)I"⟩
abbrev cL_outOfOrder : ByteArray := method_41_code
def yL_outOfOrder : MethodName := ⟨RL, "outOfOrder", "(LSwitchyard;I[J)I"⟩
abbrev cL_deliveredIn : ByteArray := method_42_code
def yL_deliveredIn : MethodName := ⟨RL, "deliveredIn", "(LSwitchyard;II[J)I"⟩
abbrev cL_settledIn : ByteArray := method_43_code
def yL_settledIn : MethodName := ⟨RL, "settledIn", "(LSwitchyard;I[J)I"⟩
abbrev cL_law : ByteArray := code
def yL_law : MethodName := ⟨RL, "law", "([I)Z"⟩
abbrev vwCl : List vw_C := [(RJx4a65c, TJx4a65c, 3), (RX0, TX0, 19), (RX1, TX1, 5), (RX2, TX2, 5), (RX3, TX3, 8), (RX4, TX4, 9), (RX6, TX6, 14), (RX8, TX8, 4), (RX9, TX9, 6), (RX10, TX10, 4), (RX11, TX11, 2), (RX12, TX12, 4), (RX13, TX13, 20), (RX14, TX14, 6), (RX15, TX15, 24), (RX16, TX16, 5), (RX17, TX17, 13), (RX18, TX18, 2), (RX19, TX19, 2)]
end
section
/-- the methods that the reader knows, by their places: name, code, locals, answer, table -/
def ni_msL : List (MethodName × ByteArray × Nat × Option FieldType × List (Nat × Nat × Nat × Nat)) := [
  (yX11_init, cX11_init, 1, none, []),
  (yX11_addFlow, cX11_addFlow, 5, some .int, []),
  (yX11_addLink, cX11_addLink, 6, some .int, []),
  (yX11_addNetwork, cX11_addNetwork, 5, some .int, []),
  (yX11_addRouter, cX11_addRouter, 1, some .int, []),
  (yX11_addStatic, cX11_addStatic, 5, some .int, []),
  (yX11_checkFlow, cX11_checkFlow, 2, none, []),
  (yX11_checkIndex, cX11_checkIndex, 2, none, []),
  (yX11_checkLink, cX11_checkLink, 2, none, []),
  (yX11_checkRange, cX11_checkRange, 3, none, []),
  (yX11_checkRouter, cX11_checkRouter, 2, none, []),
  (yX11_deficit, cX11_deficit, 4, some .int, []),
  (yX11_delivered, cX11_delivered, 2, some .int, []),
  (yX11_deliveredIn, cX11_deliveredIn, 4, some .int, []),
  (yX11_digest, cX11_digest, 4, some .long, []),
  (yX11_distance, cX11_distance, 3, some .int, []),
  (yX11_dropNetwork, cX11_dropNetwork, 2, some .int, []),
  (yX11_dropStatic, cX11_dropStatic, 2, some .int, []),
  (yX11_dropped, cX11_dropped, 3, some .int, []),
  (yX11_entries, cX11_entries, 2, some .int, []),
  (yX11_firstLinks, cX11_firstLinks, 3, some .int, []),
  (yX11_flows, cX11_flows, 1, some .int, []),
  (yX11_found, cX11_found, 5, some .int, []),
  (yX11_isSettled, cX11_isSettled, 1, some .boolean, []),
  (yX11_isUp, cX11_isUp, 2, some .boolean, []),
  (yX11_latest, cX11_latest, 2, some .int, []),
  (yX11_letterOf, cX11_letterOf, 3, some .int, []),
  (yX11_letters, cX11_letters, 1, some .int, []),
  (yX11_links, cX11_links, 1, some .int, []),
  (yX11_looks, cX11_looks, 3, some .int, []),
  (yX11_meanLate, cX11_meanLate, 3, some .double, []),
  (yX11_networks, cX11_networks, 1, some .int, []),
  (yX11_nextLink, cX11_nextLink, 3, some .int, []),
  (yX11_offered, cX11_offered, 2, some .int, []),
  (yX11_onLink, cX11_onLink, 2, some .int, []),
  (yX11_outOfOrder, cX11_outOfOrder, 2, some .int, []),
  (yX11_queued, cX11_queued, 4, some .int, []),
  (yX11_route, cX11_route, 2, some .int, []),
  (yX11_routers, cX11_routers, 1, some .int, []),
  (yX11_schedule, cX11_schedule, 6, some .int, []),
  (yX11_sending, cX11_sending, 3, some .int, []),
  (yX11_setCost, cX11_setCost, 3, some .int, []),
  (yX11_setPort, cX11_setPort, 7, some .int, []),
  (yX11_setUp, cX11_setUp, 4, some .boolean, []),
  (yX11_setWeight, cX11_setWeight, 7, some .int, []),
  (yX11_settledIn, cX11_settledIn, 3, some .int, []),
  (yX11_shape, cX11_shape, 5, some .int, []),
  (yX11_shaping, cX11_shaping, 2, some .int, []),
  (yX11_sortOf, cX11_sortOf, 5, some .int, []),
  (yX11_statics, cX11_statics, 1, some .int, []),
  (yX11_step, cX11_step, 3, some .int, []),
  (yX11_time, cX11_time, 1, some .int, []),
  (yX11_tokens, cX11_tokens, 2, some .int, []),
  (yX11_trieDepth, cX11_trieDepth, 2, some .int, []),
  (yX11_trieNodes, cX11_trieNodes, 2, some .int, []),
  (yX11_waiting, cX11_waiting, 3, some .int, []),
  (yX0_init, cX0_init, 1, none, []),
  (yX1_init, cX1_init, 6, none, []),
  (yX2_init, cX2_init, 2, none, []),
  (yX3_init, cX3_init, 1, none, []),
  (yX4_init, cX4_init, 2, none, []),
  (yX4_lettersOnTheirWay, cX4_lettersOnTheirWay, 3, some .int, []),
  (yX4_newRouter, cX4_newRouter, 1, some .int, []),
  (yX4_tick, cX4_tick, 2, none, []),
  (yX6_init, cX6_init, 2, none, []),
  (yX8_init, cX8_init, 2, none, []),
  (yX9_init, cX9_init, 4, none, []),
  (yX10_init, cX10_init, 1, none, []),
  (yL_addFlow, cL_addFlow, 7, some .int, [(0, 14, 17, 19), (0, 14, 21, 21), (0, 14, 25, 13)]),
  (yL_addLink, cL_addLink, 8, some .int, [(0, 16, 19, 19), (0, 16, 23, 21), (0, 16, 27, 13)]),
  (yL_addNetwork, cL_addNetwork, 6, some .int, [(0, 12, 15, 19), (0, 12, 19, 21), (0, 12, 23, 13)]),
  (yL_addRouter, cL_addRouter, 3, some .int, [(0, 8, 11, 13)]),
  (yL_addStatic, cL_addStatic, 7, some .int, [(0, 14, 17, 19), (0, 14, 21, 21), (0, 14, 25, 13)]),
  (yL_deficit, cL_deficit, 6, some .int, [(0, 12, 15, 19)]),
  (yL_delivered, cL_delivered, 4, some .int, [(0, 9, 12, 19)]),
  (yL_deliveredIn, cL_deliveredIn, 5, some .int, [(0, 10, 13, 19), (0, 10, 17, 21)]),
  (yL_distance, cL_distance, 5, some .int, [(0, 10, 13, 19)]),
  (yL_dropNetwork, cL_dropNetwork, 4, some .int, [(0, 9, 12, 19)]),
  (yL_dropStatic, cL_dropStatic, 4, some .int, [(0, 9, 12, 19)]),
  (yL_dropped, cL_dropped, 5, some .int, [(0, 10, 13, 19)]),
  (yL_entries, cL_entries, 4, some .int, [(0, 9, 12, 19)]),
  (yL_firstLinks, cL_firstLinks, 5, some .int, [(0, 10, 13, 19)]),
  (yL_found, cL_found, 5, some .int, [(0, 10, 13, 19), (0, 10, 17, 21)]),
  (yL_isUp, cL_isUp, 4, some .int, [(0, 16, 19, 19)]),
  (yL_latest, cL_latest, 4, some .int, [(0, 9, 12, 19)]),
  (⟨"SwitchyardLaw", "law", "([I)Z"⟩, cL_law, 9, some .boolean, []),
  (yL_letterOf, cL_letterOf, 5, some .int, [(0, 10, 13, 19)]),
  (yL_looks, cL_looks, 5, some .int, [(0, 10, 13, 19), (0, 10, 17, 21)]),
  (yL_meanLate, cL_meanLate, 4, some .int, [(0, 8, 11, 19)]),
  (yL_nextLink, cL_nextLink, 5, some .int, [(0, 10, 13, 19)]),
  (yL_offered, cL_offered, 4, some .int, [(0, 9, 12, 19)]),
  (yL_onLink, cL_onLink, 4, some .int, [(0, 9, 12, 19)]),
  (yL_outOfOrder, cL_outOfOrder, 4, some .int, [(0, 9, 12, 19)]),
  (yL_queued, cL_queued, 6, some .int, [(0, 12, 15, 19)]),
  (yL_route, cL_route, 4, some .int, [(0, 9, 12, 19)]),
  (yL_schedule, cL_schedule, 7, some .int, [(0, 14, 17, 19), (0, 14, 21, 21), (0, 14, 25, 13)]),
  (yL_sending, cL_sending, 5, some .int, [(0, 10, 13, 19)]),
  (yL_setCost, cL_setCost, 5, some .int, [(0, 10, 13, 19), (0, 10, 17, 21)]),
  (yL_setPort, cL_setPort, 8, some .int, [(0, 16, 19, 19), (0, 16, 23, 21)]),
  (yL_setUp, cL_setUp, 5, some .int, [(0, 17, 20, 19)]),
  (yL_setWeight, cL_setWeight, 7, some .int, [(0, 14, 17, 19), (0, 14, 21, 21)]),
  (yL_settledIn, cL_settledIn, 4, some .int, [(0, 9, 12, 21)]),
  (yL_shape, cL_shape, 6, some .int, [(0, 12, 15, 19), (0, 12, 19, 21)]),
  (yL_shaping, cL_shaping, 4, some .int, [(0, 9, 12, 19)]),
  (yL_sortOf, cL_sortOf, 5, some .int, [(0, 10, 13, 19), (0, 10, 17, 21)]),
  (yL_step, cL_step, 4, some .int, [(0, 9, 12, 21)]),
  (yL_tokens, cL_tokens, 4, some .int, [(0, 9, 12, 19)]),
  (yL_trieDepth, cL_trieDepth, 4, some .int, [(0, 9, 12, 19)]),
  (yL_trieNodes, cL_trieNodes, 4, some .int, [(0, 9, 12, 19)]),
  (yL_waiting, cL_waiting, 5, some .int, [(0, 10, 13, 19)]),
  (yX19_init, cX19_init, 1, none, []),
  (yX19_add, cX19_add, 4, some .long, []),
  (yX19_addFlow, cX19_addFlow, 6, some .int, []),
  (yX19_addLink, cX19_addLink, 7, some .int, []),
  (yX19_addNetwork, cX19_addNetwork, 4, some .int, []),
  (yX19_addRouter, cX19_addRouter, 1, some .int, []),
  (yX19_addStatic, cX19_addStatic, 5, some .int, []),
  (yX19_areNone, cX19_areNone, 3, some .boolean, []),
  (yX19_deficit, cX19_deficit, 4, some .int, []),
  (yX19_delivered, cX19_delivered, 2, some .int, []),
  (yX19_deliveredIn, cX19_deliveredIn, 5, some .int, []),
  (yX19_digest, cX19_digest, 7, some .long, []),
  (yX19_distance, cX19_distance, 3, some .int, []),
  (yX19_dropNetwork, cX19_dropNetwork, 3, some .int, []),
  (yX19_dropStatic, cX19_dropStatic, 2, some .int, []),
  (yX19_dropped, cX19_dropped, 3, some .int, []),
  (yX19_entries, cX19_entries, 2, some .int, []),
  (yX19_firstLinks, cX19_firstLinks, 3, some .int, []),
  (yX19_flows, cX19_flows, 1, some .int, []),
  (yX19_found, cX19_found, 4, some .int, []),
  (yX19_isIn, cX19_isIn, 3, some .boolean, []),
  (yX19_isNoAddress, cX19_isNoAddress, 3, some .boolean, []),
  (yX19_isNoClass, cX19_isNoClass, 3, some .boolean, []),
  (yX19_isNoFlow, cX19_isNoFlow, 2, some .boolean, []),
  (yX19_isNoLink, cX19_isNoLink, 2, some .boolean, []),
  (yX19_isNoRouter, cX19_isNoRouter, 2, some .boolean, []),
  (yX19_isSettled, cX19_isSettled, 1, some .boolean, []),
  (yX19_isUp, cX19_isUp, 2, some .boolean, []),
  (yX19_latest, cX19_latest, 2, some .int, []),
  (yX19_letterOf, cX19_letterOf, 3, some .int, []),
  (yX19_letters, cX19_letters, 1, some .int, []),
  (yX19_links, cX19_links, 1, some .int, []),
  (yX19_looks_, cX19_looks_, 3, some .int, []),
  (yX19_meanLate, cX19_meanLate, 3, some .double, []),
  (yX19_networks, cX19_networks, 1, some .int, []),
  (yX19_nextLink, cX19_nextLink, 3, some .int, []),
  (yX19_offered, cX19_offered, 2, some .int, []),
  (yX19_onLink, cX19_onLink, 2, some .int, []),
  (yX19_outOfOrder, cX19_outOfOrder, 2, some .int, []),
  (yX19_plain, cX19_plain, 2, some .int, []),
  (yX19_queued, cX19_queued, 4, some .int, []),
  (yX19_refuse, cX19_refuse, 3, some .boolean, []),
  (yX19_route, cX19_route, 2, some .int, []),
  (yX19_routers, cX19_routers, 1, some .int, []),
  (yX19_schedule, cX19_schedule, 6, some .int, []),
  (yX19_sending, cX19_sending, 3, some .int, []),
  (yX19_setCost, cX19_setCost, 4, some .int, []),
  (yX19_setPort, cX19_setPort, 7, some .int, []),
  (yX19_setUp, cX19_setUp, 4, some .boolean, []),
  (yX19_setWeight, cX19_setWeight, 6, some .int, []),
  (yX19_settledIn, cX19_settledIn, 4, some .int, []),
  (yX19_shape, cX19_shape, 5, some .int, []),
  (yX19_shaping, cX19_shaping, 2, some .int, []),
  (yX19_sortOf, cX19_sortOf, 4, some .int, []),
  (yX19_start, cX19_start, 3, some .boolean, []),
  (yX19_statics, cX19_statics, 1, some .int, []),
  (yX19_step, cX19_step, 3, some .int, []),
  (yX19_thrown, cX19_thrown, 1, some .int, []),
  (yX19_time, cX19_time, 1, some .int, []),
  (yX19_tokens, cX19_tokens, 2, some .int, []),
  (yX19_trieDepth, cX19_trieDepth, 2, some .int, []),
  (yX19_trieNodes, cX19_trieNodes, 2, some .int, []),
  (yX19_waiting, cX19_waiting, 3, some .int, []),
  (yX15_init, cX15_init, 2, none, []),
  (yX15_copy, cX15_copy, 3, some (.object "SwitchyardModel$Net"), []),
  (yX15_letters, cX15_letters, 3, some .int, []),
  (yX15_tick, cX15_tick, 4, none, []),
  (yJxa1e45_init_da8c8, cJxa1e45_init_da8c8, 1, none, []),
  (yJxc12de_init_da8c8, cJxc12de_init_da8c8, 1, none, []),
  (yJx4a65c_init_da8c8, cJx4a65c_init_da8c8, 1, none, []),
  (yJx4a65c_add_9ea2d, cJx4a65c_add_9ea2d, 2, some .boolean, []),
  (yJx4a65c_add_72be8, cJx4a65c_add_72be8, 4, none, []),
  (yJx4a65c_addAll_f0b43, cJx4a65c_addAll_f0b43, 6, some .boolean, []),
  (yJx4a65c_elementData_915e3, cJx4a65c_elementData_915e3, 2, some (.object "java/lang/Object"), []),
  (yJx4a65c_get_915e3, cJx4a65c_get_915e3, 2, some (.object "java/lang/Object"), []),
  (yJx4a65c_grow_d5877, cJx4a65c_grow_d5877, 1, some (.array (.object "java/lang/Object")), []),
  (yJx4a65c_grow_92f84, cJx4a65c_grow_92f84, 4, some (.array (.object "java/lang/Object")), []),
  (yJx4a65c_size_8abf5, cJx4a65c_size_8abf5, 1, some .int, []),
  (yJx4a65c_toArray_d5877, cJx4a65c_toArray_d5877, 1, some (.array (.object "java/lang/Object")), []),
  (yJ7_copyOf_1904c, cJ7_copyOf_1904c, 2, some (.array (.object "java/lang/Object")), []),
  (yJ7_copyOf_6403c, cJ7_copyOf_6403c, 4, some (.array (.object "java/lang/Object")), []),
  (yJ15_checkIndex_7cf53, cJ15_checkIndex_7cf53, 2, some .int, []),
  (yJ3_checkIndex_8e157, cJ3_checkIndex_8e157, 3, some .int, [])]
end
section
section NB
/-- the words that stay true: the tables' and more -/
def ni_tb : List Cond := lw_tbl.filter goodWord
theorem ni_in {w : Cond} (i : Nat) (h : lw_tbl[i]? = some w) (hg : goodWord w = true) : w ∈ ni_tb := List.mem_filter.mpr ⟨List.mem_of_getElem? h, hg⟩
def ni_ms (y : Nat) : MethodName × ByteArray × Nat × Option FieldType × List (Nat × Nat × Nat × Nat) := ni_msL.getD y (objectInit, ⟨#[]⟩, 0, none, [])
/-- a method's code, with its table where it has one -/
def ni_cw (y : Nat) : Cond := match (ni_ms y).2.2.2.2 with
  | [] => .code (ni_ms y).1 (ni_ms y).2.1 (ni_ms y).2.2.1 (ni_ms y).2.2.2.1
  | hh => .codeWith (ni_ms y).1 (ni_ms y).2.1 (ni_ms y).2.2.1 (ni_ms y).2.2.2.1 hh
theorem ni_cw0 {y : Nat} (h : (ni_ms y).2.2.2.2 = []) : ni_cw y = .code (ni_ms y).1 (ni_ms y).2.1 (ni_ms y).2.2.1 (ni_ms y).2.2.2.1 := by
  unfold ni_cw
  rw [h]
theorem ni_cw1 {y : Nat} (h : (ni_ms y).2.2.2.2 ≠ []) : ni_cw y = .codeWith (ni_ms y).1 (ni_ms y).2.1 (ni_ms y).2.2.1 (ni_ms y).2.2.2.1 (ni_ms y).2.2.2.2 := by
  unfold ni_cw
  split
  next hz => exact absurd hz h
  next => rfl
end NB
end
section
section NIW
theorem ni_w3 : Cond.selects "Switchyard" yX11_checkRouter yX11_checkRouter ∈ ni_tb := ni_in 3 (by decide +kernel) (by decide +kernel)
theorem ni_w9 : Cond.selects "Switchyard" yX11_checkLink yX11_checkLink ∈ ni_tb := ni_in 9 (by decide +kernel) (by decide +kernel)
theorem ni_w11 : Cond.selects "Switchyard" yX11_checkFlow yX11_checkFlow ∈ ni_tb := ni_in 11 (by decide +kernel) (by decide +kernel)
theorem ni_w27 : Cond.selects "java/util/ArrayList" yJx4a65c_add_72be8 yJx4a65c_add_72be8 ∈ ni_tb := ni_in 27 (by decide +kernel) (by decide +kernel)
theorem ni_w28 : Cond.selects "java/util/ArrayList" yJx4a65c_grow_d5877 yJx4a65c_grow_d5877 ∈ ni_tb := ni_in 28 (by decide +kernel) (by decide +kernel)
theorem ni_w29 : Cond.selects "java/util/ArrayList" yJx4a65c_grow_92f84 yJx4a65c_grow_92f84 ∈ ni_tb := ni_in 29 (by decide +kernel) (by decide +kernel)
theorem ni_w30 : Cond.selects "SwitchyardModel" yX19_start yX19_start ∈ ni_tb := ni_in 30 (by decide +kernel) (by decide +kernel)
theorem ni_w31 : Cond.selects "SwitchyardModel" yX19_refuse yX19_refuse ∈ ni_tb := ni_in 31 (by decide +kernel) (by decide +kernel)
theorem ni_w32 : Cond.selects "SwitchyardModel" yX19_areNone yX19_areNone ∈ ni_tb := ni_in 32 (by decide +kernel) (by decide +kernel)
theorem ni_w33 : Cond.selects "SwitchyardModel" yX19_isNoRouter yX19_isNoRouter ∈ ni_tb := ni_in 33 (by decide +kernel) (by decide +kernel)
theorem ni_w39 : Cond.selects "SwitchyardModel" yX19_isNoLink yX19_isNoLink ∈ ni_tb := ni_in 39 (by decide +kernel) (by decide +kernel)
theorem ni_w43 : Cond.selects "SwitchyardModel" yX19_isNoFlow yX19_isNoFlow ∈ ni_tb := ni_in 43 (by decide +kernel) (by decide +kernel)
theorem ni_w55 : Cond.selects "SwitchyardModel" yX19_plain yX19_plain ∈ ni_tb := ni_in 55 (by decide +kernel) (by decide +kernel)
theorem ni_w56 : Cond.selects "SwitchyardModel" yX19_isNoAddress yX19_isNoAddress ∈ ni_tb := ni_in 56 (by decide +kernel) (by decide +kernel)
theorem ni_w57 : Cond.selects "SwitchyardModel" yX19_isNoClass yX19_isNoClass ∈ ni_tb := ni_in 57 (by decide +kernel) (by decide +kernel)
theorem ni_w60 : Cond.initialized "SwitchyardLaw" ∈ ni_tb := ni_in 60 (by decide +kernel) (by decide +kernel)
theorem ni_w61 : Cond.initialized "Switchyard" ∈ ni_tb := ni_in 61 (by decide +kernel) (by decide +kernel)
theorem ni_w62 : Cond.initialized "Switchyard$Net" ∈ ni_tb := ni_in 62 (by decide +kernel) (by decide +kernel)
theorem ni_w63 : Cond.initialized "Switchyard$PrefixList" ∈ ni_tb := ni_in 63 (by decide +kernel) (by decide +kernel)
theorem ni_w64 : Cond.initialized "Switchyard$Flow" ∈ ni_tb := ni_in 64 (by decide +kernel) (by decide +kernel)
theorem ni_w65 : Cond.initialized "Switchyard$Link" ∈ ni_tb := ni_in 65 (by decide +kernel) (by decide +kernel)
theorem ni_w66 : Cond.initialized "Switchyard$Port" ∈ ni_tb := ni_in 66 (by decide +kernel) (by decide +kernel)
theorem ni_w67 : Cond.initialized "Switchyard$Line" ∈ ni_tb := ni_in 67 (by decide +kernel) (by decide +kernel)
theorem ni_w68 : Cond.initialized "Switchyard$Router" ∈ ni_tb := ni_in 68 (by decide +kernel) (by decide +kernel)
theorem ni_w69 : Cond.initialized "Switchyard$Letter" ∈ ni_tb := ni_in 69 (by decide +kernel) (by decide +kernel)
theorem ni_w70 : Cond.initialized "Switchyard$Table" ∈ ni_tb := ni_in 70 (by decide +kernel) (by decide +kernel)
theorem ni_w71 : Cond.initialized "SwitchyardModel" ∈ ni_tb := ni_in 71 (by decide +kernel) (by decide +kernel)
theorem ni_w72 : Cond.initialized "SwitchyardModel$Net" ∈ ni_tb := ni_in 72 (by decide +kernel) (by decide +kernel)
theorem ni_w73 : Cond.initialized "java/util/AbstractCollection" ∈ ni_tb := ni_in 73 (by decide +kernel) (by decide +kernel)
theorem ni_w74 : Cond.initialized "java/util/AbstractList" ∈ ni_tb := ni_in 74 (by decide +kernel) (by decide +kernel)
theorem ni_w75 : Cond.initialized "java/util/ArrayList" ∈ ni_tb := ni_in 75 (by decide +kernel) (by decide +kernel)
theorem ni_w77 : Cond.initialized "java/lang/Math" ∈ ni_tb := ni_in 77 (by decide +kernel) (by decide +kernel)
theorem ni_w78 : Cond.initialized "java/util/Arrays" ∈ ni_tb := ni_in 78 (by decide +kernel) (by decide +kernel)
theorem ni_w79 : Cond.initialized "java/lang/System" ∈ ni_tb := ni_in 79 (by decide +kernel) (by decide +kernel)
theorem ni_w84 : Cond.initialized "java/lang/IndexOutOfBoundsException" ∈ ni_tb := ni_in 84 (by decide +kernel) (by decide +kernel)
theorem ni_w85 : Cond.initialized "java/lang/IllegalArgumentException" ∈ ni_tb := ni_in 85 (by decide +kernel) (by decide +kernel)
theorem ni_w90 : Cond.initialized "java/util/Objects" ∈ ni_tb := ni_in 90 (by decide +kernel) (by decide +kernel)
theorem ni_w91 : Cond.initialized "jdk/internal/util/Preconditions" ∈ ni_tb := ni_in 91 (by decide +kernel) (by decide +kernel)
theorem ni_w97 : Cond.classLink "SwitchyardLaw" 8 "Switchyard" ∈ ni_tb := ni_in 97 (by decide +kernel) (by decide +kernel)
theorem ni_w98 : Cond.instantiable "Switchyard" 2 ∈ ni_tb := ni_in 98 (by decide +kernel) (by decide +kernel)
theorem ni_w99 : Cond.methodLink "SwitchyardLaw" 151 yX11_init ∈ ni_tb := ni_in 99 (by decide +kernel) (by decide +kernel)
theorem ni_w100 : Cond.instanceMethod yX11_init ∈ ni_tb := ni_in 100 (by decide +kernel) (by decide +kernel)
theorem ni_w101 : ni_cw 0 ∈ ni_tb := ni_in 101 (by decide +kernel) (by decide +kernel)
theorem ni_w102 : Cond.methodLink "Switchyard" 1 objectInit ∈ ni_tb := ni_in 102 (by decide +kernel) (by decide +kernel)
theorem ni_w103 : Cond.instanceMethod objectInit ∈ ni_tb := ni_in 103 (by decide +kernel) (by decide +kernel)
theorem ni_w104 : Cond.code objectInit ⟨#[0xb1]⟩ 1 none ∈ ni_tb := ni_in 104 (by decide +kernel) (by decide +kernel)
theorem ni_w105 : Cond.classLink "Switchyard" 7 "Switchyard$Net" ∈ ni_tb := ni_in 105 (by decide +kernel) (by decide +kernel)
theorem ni_w106 : Cond.instantiable "Switchyard$Net" 9 ∈ ni_tb := ni_in 106 (by decide +kernel) (by decide +kernel)
theorem ni_w107 : Cond.methodLink "Switchyard" 9 yX4_init ∈ ni_tb := ni_in 107 (by decide +kernel) (by decide +kernel)
theorem ni_w108 : Cond.instanceMethod yX4_init ∈ ni_tb := ni_in 108 (by decide +kernel) (by decide +kernel)
theorem ni_w109 : ni_cw 60 ∈ ni_tb := ni_in 109 (by decide +kernel) (by decide +kernel)
theorem ni_w110 : Cond.methodLink "Switchyard$Net" 3 objectInit ∈ ni_tb := ni_in 110 (by decide +kernel) (by decide +kernel)
theorem ni_w111 : Cond.classLink "Switchyard$Net" 9 "Switchyard$Router" ∈ ni_tb := ni_in 111 (by decide +kernel) (by decide +kernel)
theorem ni_w113 : Cond.classLink "Switchyard$Net" 17 "Switchyard$Link" ∈ ni_tb := ni_in 113 (by decide +kernel) (by decide +kernel)
theorem ni_w115 : Cond.classLink "Switchyard$Net" 23 "Switchyard$Flow" ∈ ni_tb := ni_in 115 (by decide +kernel) (by decide +kernel)
theorem ni_w117 : Cond.classLink "Switchyard$Net" 29 "Switchyard$PrefixList" ∈ ni_tb := ni_in 117 (by decide +kernel) (by decide +kernel)
theorem ni_w118 : Cond.instantiable "Switchyard$PrefixList" 4 ∈ ni_tb := ni_in 118 (by decide +kernel) (by decide +kernel)
theorem ni_w119 : Cond.methodLink "Switchyard$Net" 31 yX8_init ∈ ni_tb := ni_in 119 (by decide +kernel) (by decide +kernel)
theorem ni_w120 : Cond.instanceMethod yX8_init ∈ ni_tb := ni_in 120 (by decide +kernel) (by decide +kernel)
theorem ni_w121 : ni_cw 65 ∈ ni_tb := ni_in 121 (by decide +kernel) (by decide +kernel)
theorem ni_w122 : Cond.methodLink "Switchyard$PrefixList" 3 objectInit ∈ ni_tb := ni_in 122 (by decide +kernel) (by decide +kernel)
theorem ni_w123 : Cond.fieldLink "Switchyard$PrefixList" 9 "Switchyard$PrefixList" "routers" "[I" ∈ ni_tb := ni_in 123 (by decide +kernel) (by decide +kernel)
theorem ni_w126 : Cond.fieldLink "Switchyard$PrefixList" 15 "Switchyard$PrefixList" "prefixes" "[I" ∈ ni_tb := ni_in 126 (by decide +kernel) (by decide +kernel)
theorem ni_w128 : Cond.fieldLink "Switchyard$PrefixList" 18 "Switchyard$PrefixList" "links" "[I" ∈ ni_tb := ni_in 128 (by decide +kernel) (by decide +kernel)
theorem ni_w131 : Cond.fieldLink "Switchyard" 92 "Switchyard$PrefixList" "count" "I" ∈ ni_tb := ni_in 131 (by decide +kernel) (by decide +kernel)
theorem ni_w143 : Cond.arrayClass .int ∈ ni_tb := ni_in 143 (by decide +kernel) (by decide +kernel)
theorem ni_w144 : Cond.instantiable "Switchyard$Flow" 19 ∈ ni_tb := ni_in 144 (by decide +kernel) (by decide +kernel)
theorem ni_w146 : Cond.instanceMethod yX0_init ∈ ni_tb := ni_in 146 (by decide +kernel) (by decide +kernel)
theorem ni_w147 : ni_cw 56 ∈ ni_tb := ni_in 147 (by decide +kernel) (by decide +kernel)
theorem ni_w148 : Cond.methodLink "Switchyard$Flow" 3 objectInit ∈ ni_tb := ni_in 148 (by decide +kernel) (by decide +kernel)
theorem ni_w158 : Cond.fieldLink "Switchyard$Flow" 9 "Switchyard$Flow" "start" "I" ∈ ni_tb := ni_in 158 (by decide +kernel) (by decide +kernel)
theorem ni_w170 : Cond.fieldLink "Switchyard$Flow" 15 "Switchyard$Flow" "shaper" "[I" ∈ ni_tb := ni_in 170 (by decide +kernel) (by decide +kernel)
theorem ni_w178 : Cond.fieldLink "Switchyard$Flow" 19 "Switchyard$Flow" "drops" "[I" ∈ ni_tb := ni_in 178 (by decide +kernel) (by decide +kernel)
theorem ni_w184 : Cond.fieldLink "Switchyard$Flow" 22 "Switchyard$Flow" "mostLate" "I" ∈ ni_tb := ni_in 184 (by decide +kernel) (by decide +kernel)
theorem ni_w186 : Cond.fieldLink "Switchyard$Flow" 25 "Switchyard$Flow" "newest" "I" ∈ ni_tb := ni_in 186 (by decide +kernel) (by decide +kernel)
theorem ni_w228 : Cond.instantiable "Switchyard$Link" 8 ∈ ni_tb := ni_in 228 (by decide +kernel) (by decide +kernel)
theorem ni_w230 : Cond.instanceMethod yX3_init ∈ ni_tb := ni_in 230 (by decide +kernel) (by decide +kernel)
theorem ni_w231 : ni_cw 59 ∈ ni_tb := ni_in 231 (by decide +kernel) (by decide +kernel)
theorem ni_w232 : Cond.methodLink "Switchyard$Link" 1 objectInit ∈ ni_tb := ni_in 232 (by decide +kernel) (by decide +kernel)
theorem ni_w233 : Cond.classLink "Switchyard$Link" 7 "Switchyard$Port" ∈ ni_tb := ni_in 233 (by decide +kernel) (by decide +kernel)
theorem ni_w234 : Cond.instantiable "Switchyard$Port" 14 ∈ ni_tb := ni_in 234 (by decide +kernel) (by decide +kernel)
theorem ni_w235 : Cond.methodLink "Switchyard$Link" 9 yX6_init ∈ ni_tb := ni_in 235 (by decide +kernel) (by decide +kernel)
theorem ni_w236 : Cond.instanceMethod yX6_init ∈ ni_tb := ni_in 236 (by decide +kernel) (by decide +kernel)
theorem ni_w237 : ni_cw 64 ∈ ni_tb := ni_in 237 (by decide +kernel) (by decide +kernel)
theorem ni_w238 : Cond.methodLink "Switchyard$Port" 3 objectInit ∈ ni_tb := ni_in 238 (by decide +kernel) (by decide +kernel)
theorem ni_w239 : Cond.classLink "Switchyard$Port" 9 "Switchyard$Line" ∈ ni_tb := ni_in 239 (by decide +kernel) (by decide +kernel)
theorem ni_w240 : Cond.instantiable "Switchyard$Line" 5 ∈ ni_tb := ni_in 240 (by decide +kernel) (by decide +kernel)
theorem ni_w241 : Cond.methodLink "Switchyard$Port" 11 yX2_init ∈ ni_tb := ni_in 241 (by decide +kernel) (by decide +kernel)
theorem ni_w242 : Cond.instanceMethod yX2_init ∈ ni_tb := ni_in 242 (by decide +kernel) (by decide +kernel)
theorem ni_w243 : ni_cw 58 ∈ ni_tb := ni_in 243 (by decide +kernel) (by decide +kernel)
theorem ni_w244 : Cond.methodLink "Switchyard$Line" 3 objectInit ∈ ni_tb := ni_in 244 (by decide +kernel) (by decide +kernel)
theorem ni_w245 : Cond.classLink "Switchyard$Line" 9 "Switchyard$Letter" ∈ ni_tb := ni_in 245 (by decide +kernel) (by decide +kernel)
theorem ni_w247 : Cond.fieldLink "Switchyard$Line" 11 "Switchyard$Line" "letters" "[LSwitchyard$Letter;" ∈ ni_tb := ni_in 247 (by decide +kernel) (by decide +kernel)
theorem ni_w249 : Cond.fieldLink "Switchyard$Line" 17 "Switchyard$Line" "letterTicks" "[I" ∈ ni_tb := ni_in 249 (by decide +kernel) (by decide +kernel)
theorem ni_w253 : Cond.fieldLink "Switchyard$Line" 21 "Switchyard$Line" "packets" "[I" ∈ ni_tb := ni_in 253 (by decide +kernel) (by decide +kernel)
theorem ni_w267 : Cond.fieldLink "Switchyard$Port" 12 "Switchyard$Port" "line" "LSwitchyard$Line;" ∈ ni_tb := ni_in 267 (by decide +kernel) (by decide +kernel)
theorem ni_w270 : Cond.fieldLink "Switchyard$Port" 18 "Switchyard$Port" "discipline" "I" ∈ ni_tb := ni_in 270 (by decide +kernel) (by decide +kernel)
theorem ni_w271 : Cond.fieldLink "Switchyard$Port" 22 "Switchyard$Port" "limit" "I" ∈ ni_tb := ni_in 271 (by decide +kernel) (by decide +kernel)
theorem ni_w274 : Cond.fieldLink "Switchyard$Port" 25 "Switchyard$Port" "weights" "[I" ∈ ni_tb := ni_in 274 (by decide +kernel) (by decide +kernel)
theorem ni_w276 : Cond.fieldLink "Switchyard$Port" 29 "Switchyard$Port" "deficits" "[I" ∈ ni_tb := ni_in 276 (by decide +kernel) (by decide +kernel)
theorem ni_w280 : Cond.fieldLink "Switchyard$Port" 32 "Switchyard$Port" "queue" "[I" ∈ ni_tb := ni_in 280 (by decide +kernel) (by decide +kernel)
theorem ni_w285 : Cond.fieldLink "Switchyard$Port" 35 "Switchyard$Port" "packet" "I" ∈ ni_tb := ni_in 285 (by decide +kernel) (by decide +kernel)
theorem ni_w331 : Cond.fieldLink "Switchyard$Link" 10 "Switchyard$Link" "atA" "LSwitchyard$Port;" ∈ ni_tb := ni_in 331 (by decide +kernel) (by decide +kernel)
theorem ni_w334 : Cond.fieldLink "Switchyard$Link" 16 "Switchyard$Link" "atB" "LSwitchyard$Port;" ∈ ni_tb := ni_in 334 (by decide +kernel) (by decide +kernel)
theorem ni_w354 : Cond.instantiable "Switchyard$Router" 6 ∈ ni_tb := ni_in 354 (by decide +kernel) (by decide +kernel)
theorem ni_w355 : Cond.classLink "Switchyard$Net" 43 "Switchyard$Letter" ∈ ni_tb := ni_in 355 (by decide +kernel) (by decide +kernel)
theorem ni_w356 : Cond.instantiable "Switchyard$Letter" 5 ∈ ni_tb := ni_in 356 (by decide +kernel) (by decide +kernel)
theorem ni_w357 : Cond.methodLink "Switchyard$Net" 45 yX1_init ∈ ni_tb := ni_in 357 (by decide +kernel) (by decide +kernel)
theorem ni_w358 : Cond.instanceMethod yX1_init ∈ ni_tb := ni_in 358 (by decide +kernel) (by decide +kernel)
theorem ni_w359 : ni_cw 57 ∈ ni_tb := ni_in 359 (by decide +kernel) (by decide +kernel)
theorem ni_w360 : Cond.methodLink "Switchyard$Letter" 1 objectInit ∈ ni_tb := ni_in 360 (by decide +kernel) (by decide +kernel)
theorem ni_w361 : Cond.fieldLink "Switchyard$Letter" 7 "Switchyard$Letter" "of" "I" ∈ ni_tb := ni_in 361 (by decide +kernel) (by decide +kernel)
theorem ni_w364 : Cond.fieldLink "Switchyard$Letter" 13 "Switchyard$Letter" "number" "I" ∈ ni_tb := ni_in 364 (by decide +kernel) (by decide +kernel)
theorem ni_w367 : Cond.fieldLink "Switchyard$Letter" 16 "Switchyard$Letter" "linkSet" "I" ∈ ni_tb := ni_in 367 (by decide +kernel) (by decide +kernel)
theorem ni_w368 : Cond.fieldLink "Switchyard$Letter" 19 "Switchyard$Letter" "costs" "[I" ∈ ni_tb := ni_in 368 (by decide +kernel) (by decide +kernel)
theorem ni_w370 : Cond.fieldLink "Switchyard$Letter" 23 "Switchyard$Letter" "networks" "[I" ∈ ni_tb := ni_in 370 (by decide +kernel) (by decide +kernel)
theorem ni_w383 : Cond.methodLink "Switchyard$Net" 48 yX9_init ∈ ni_tb := ni_in 383 (by decide +kernel) (by decide +kernel)
theorem ni_w384 : Cond.instanceMethod yX9_init ∈ ni_tb := ni_in 384 (by decide +kernel) (by decide +kernel)
theorem ni_w385 : ni_cw 66 ∈ ni_tb := ni_in 385 (by decide +kernel) (by decide +kernel)
theorem ni_w386 : Cond.methodLink "Switchyard$Router" 3 objectInit ∈ ni_tb := ni_in 386 (by decide +kernel) (by decide +kernel)
theorem ni_w387 : Cond.classLink "Switchyard$Router" 9 "Switchyard$Letter" ∈ ni_tb := ni_in 387 (by decide +kernel) (by decide +kernel)
theorem ni_w388 : Cond.classLink "Switchyard$Router" 24 "Switchyard$Table" ∈ ni_tb := ni_in 388 (by decide +kernel) (by decide +kernel)
theorem ni_w389 : Cond.instantiable "Switchyard$Table" 4 ∈ ni_tb := ni_in 389 (by decide +kernel) (by decide +kernel)
theorem ni_w391 : Cond.instanceMethod yX10_init ∈ ni_tb := ni_in 391 (by decide +kernel) (by decide +kernel)
theorem ni_w392 : ni_cw 67 ∈ ni_tb := ni_in 392 (by decide +kernel) (by decide +kernel)
theorem ni_w393 : Cond.methodLink "Switchyard$Table" 3 objectInit ∈ ni_tb := ni_in 393 (by decide +kernel) (by decide +kernel)
theorem ni_w394 : Cond.fieldLink "Switchyard$Table" 11 "Switchyard$Table" "prefixes" "[I" ∈ ni_tb := ni_in 394 (by decide +kernel) (by decide +kernel)
theorem ni_w396 : Cond.fieldLink "Switchyard$Table" 15 "Switchyard$Table" "sorts" "[I" ∈ ni_tb := ni_in 396 (by decide +kernel) (by decide +kernel)
theorem ni_w399 : Cond.fieldLink "Switchyard$Table" 18 "Switchyard$Table" "linkSets" "[I" ∈ ni_tb := ni_in 399 (by decide +kernel) (by decide +kernel)
theorem ni_w413 : Cond.fieldLink "Switchyard$Router" 35 "Switchyard$Router" "number" "I" ∈ ni_tb := ni_in 413 (by decide +kernel) (by decide +kernel)
theorem ni_w414 : Cond.fieldLink "Switchyard$Router" 11 "Switchyard$Router" "letters" "[LSwitchyard$Letter;" ∈ ni_tb := ni_in 414 (by decide +kernel) (by decide +kernel)
theorem ni_w417 : Cond.fieldLink "Switchyard$Router" 17 "Switchyard$Router" "distances" "[I" ∈ ni_tb := ni_in 417 (by decide +kernel) (by decide +kernel)
theorem ni_w419 : Cond.fieldLink "Switchyard$Router" 21 "Switchyard$Router" "firsts" "[I" ∈ ni_tb := ni_in 419 (by decide +kernel) (by decide +kernel)
theorem ni_w421 : Cond.fieldLink "Switchyard$Router" 27 "Switchyard$Router" "table" "LSwitchyard$Table;" ∈ ni_tb := ni_in 421 (by decide +kernel) (by decide +kernel)
theorem ni_w424 : Cond.fieldLink "Switchyard$Router" 31 "Switchyard$Router" "isStale" "Z" ∈ ni_tb := ni_in 424 (by decide +kernel) (by decide +kernel)
theorem ni_w439 : Cond.fieldLink "Switchyard" 165 "Switchyard$Net" "time" "I" ∈ ni_tb := ni_in 439 (by decide +kernel) (by decide +kernel)
theorem ni_w440 : Cond.fieldLink "Switchyard$Net" 166 "Switchyard$Net" "time" "I" ∈ ni_tb := ni_in 440 (by decide +kernel) (by decide +kernel)
theorem ni_w441 : Cond.fieldLink "Switchyard$Net" 51 "Switchyard$Net" "routerCount" "I" ∈ ni_tb := ni_in 441 (by decide +kernel) (by decide +kernel)
theorem ni_w442 : Cond.fieldLink "Switchyard" 19 "Switchyard$Net" "routerCount" "I" ∈ ni_tb := ni_in 442 (by decide +kernel) (by decide +kernel)
theorem ni_w443 : Cond.fieldLink "Switchyard$Net" 55 "Switchyard$Net" "linkCount" "I" ∈ ni_tb := ni_in 443 (by decide +kernel) (by decide +kernel)
theorem ni_w444 : Cond.fieldLink "Switchyard" 47 "Switchyard$Net" "linkCount" "I" ∈ ni_tb := ni_in 444 (by decide +kernel) (by decide +kernel)
theorem ni_w445 : Cond.fieldLink "Switchyard$Net" 116 "Switchyard$Net" "flowCount" "I" ∈ ni_tb := ni_in 445 (by decide +kernel) (by decide +kernel)
theorem ni_w446 : Cond.fieldLink "Switchyard" 153 "Switchyard$Net" "flowCount" "I" ∈ ni_tb := ni_in 446 (by decide +kernel) (by decide +kernel)
theorem ni_w447 : Cond.fieldLink "Switchyard$Net" 11 "Switchyard$Net" "routers" "[LSwitchyard$Router;" ∈ ni_tb := ni_in 447 (by decide +kernel) (by decide +kernel)
theorem ni_w449 : Cond.fieldLink "Switchyard$Net" 19 "Switchyard$Net" "links" "[LSwitchyard$Link;" ∈ ni_tb := ni_in 449 (by decide +kernel) (by decide +kernel)
theorem ni_w451 : Cond.fieldLink "Switchyard$Net" 25 "Switchyard$Net" "flows" "[LSwitchyard$Flow;" ∈ ni_tb := ni_in 451 (by decide +kernel) (by decide +kernel)
theorem ni_w453 : Cond.fieldLink "Switchyard$Net" 34 "Switchyard$Net" "networks" "LSwitchyard$PrefixList;" ∈ ni_tb := ni_in 453 (by decide +kernel) (by decide +kernel)
theorem ni_w454 : Cond.fieldLink "Switchyard" 88 "Switchyard$Net" "networks" "LSwitchyard$PrefixList;" ∈ ni_tb := ni_in 454 (by decide +kernel) (by decide +kernel)
theorem ni_w455 : Cond.fieldLink "Switchyard$Net" 38 "Switchyard$Net" "statics" "LSwitchyard$PrefixList;" ∈ ni_tb := ni_in 455 (by decide +kernel) (by decide +kernel)
theorem ni_w456 : Cond.fieldLink "Switchyard" 121 "Switchyard$Net" "statics" "LSwitchyard$PrefixList;" ∈ ni_tb := ni_in 456 (by decide +kernel) (by decide +kernel)
theorem ni_w476 : Cond.fieldLink "Switchyard" 10 "Switchyard" "net" "LSwitchyard$Net;" ∈ ni_tb := ni_in 476 (by decide +kernel) (by decide +kernel)
theorem ni_w477 : Cond.fieldLink "Switchyard" 16 "Switchyard" "ahead" "LSwitchyard$Net;" ∈ ni_tb := ni_in 477 (by decide +kernel) (by decide +kernel)
theorem ni_w483 : Cond.methodLink "SwitchyardLaw" 211 yX11_time ∈ ni_tb := ni_in 483 (by decide +kernel) (by decide +kernel)
theorem ni_w484 : Cond.instanceMethod yX11_time ∈ ni_tb := ni_in 484 (by decide +kernel) (by decide +kernel)
theorem ni_w485 : Cond.selects "Switchyard" yX11_time yX11_time ∈ ni_tb := ni_in 485 (by decide +kernel) (by decide +kernel)
theorem ni_w486 : ni_cw 51 ∈ ni_tb := ni_in 486 (by decide +kernel) (by decide +kernel)
theorem ni_w487 : Cond.methodLink "SwitchyardLaw" 215 yX11_routers ∈ ni_tb := ni_in 487 (by decide +kernel) (by decide +kernel)
theorem ni_w488 : Cond.instanceMethod yX11_routers ∈ ni_tb := ni_in 488 (by decide +kernel) (by decide +kernel)
theorem ni_w489 : Cond.selects "Switchyard" yX11_routers yX11_routers ∈ ni_tb := ni_in 489 (by decide +kernel) (by decide +kernel)
theorem ni_w490 : ni_cw 38 ∈ ni_tb := ni_in 490 (by decide +kernel) (by decide +kernel)
theorem ni_w491 : Cond.methodLink "SwitchyardLaw" 219 yX11_links ∈ ni_tb := ni_in 491 (by decide +kernel) (by decide +kernel)
theorem ni_w492 : Cond.instanceMethod yX11_links ∈ ni_tb := ni_in 492 (by decide +kernel) (by decide +kernel)
theorem ni_w493 : Cond.selects "Switchyard" yX11_links yX11_links ∈ ni_tb := ni_in 493 (by decide +kernel) (by decide +kernel)
theorem ni_w494 : ni_cw 28 ∈ ni_tb := ni_in 494 (by decide +kernel) (by decide +kernel)
theorem ni_w495 : Cond.methodLink "SwitchyardLaw" 223 yX11_networks ∈ ni_tb := ni_in 495 (by decide +kernel) (by decide +kernel)
theorem ni_w496 : Cond.instanceMethod yX11_networks ∈ ni_tb := ni_in 496 (by decide +kernel) (by decide +kernel)
theorem ni_w497 : Cond.selects "Switchyard" yX11_networks yX11_networks ∈ ni_tb := ni_in 497 (by decide +kernel) (by decide +kernel)
theorem ni_w498 : ni_cw 31 ∈ ni_tb := ni_in 498 (by decide +kernel) (by decide +kernel)
theorem ni_w499 : Cond.methodLink "SwitchyardLaw" 227 yX11_statics ∈ ni_tb := ni_in 499 (by decide +kernel) (by decide +kernel)
theorem ni_w500 : Cond.instanceMethod yX11_statics ∈ ni_tb := ni_in 500 (by decide +kernel) (by decide +kernel)
theorem ni_w501 : Cond.selects "Switchyard" yX11_statics yX11_statics ∈ ni_tb := ni_in 501 (by decide +kernel) (by decide +kernel)
theorem ni_w502 : ni_cw 49 ∈ ni_tb := ni_in 502 (by decide +kernel) (by decide +kernel)
theorem ni_w503 : Cond.methodLink "SwitchyardLaw" 231 yX11_flows ∈ ni_tb := ni_in 503 (by decide +kernel) (by decide +kernel)
theorem ni_w504 : Cond.instanceMethod yX11_flows ∈ ni_tb := ni_in 504 (by decide +kernel) (by decide +kernel)
theorem ni_w505 : Cond.selects "Switchyard" yX11_flows yX11_flows ∈ ni_tb := ni_in 505 (by decide +kernel) (by decide +kernel)
theorem ni_w506 : ni_cw 21 ∈ ni_tb := ni_in 506 (by decide +kernel) (by decide +kernel)
theorem ni_w507 : Cond.methodLink "SwitchyardLaw" 241 yX11_letters ∈ ni_tb := ni_in 507 (by decide +kernel) (by decide +kernel)
theorem ni_w508 : Cond.instanceMethod yX11_letters ∈ ni_tb := ni_in 508 (by decide +kernel) (by decide +kernel)
theorem ni_w509 : Cond.selects "Switchyard" yX11_letters yX11_letters ∈ ni_tb := ni_in 509 (by decide +kernel) (by decide +kernel)
theorem ni_w510 : ni_cw 27 ∈ ni_tb := ni_in 510 (by decide +kernel) (by decide +kernel)
theorem ni_w511 : Cond.methodLink "Switchyard" 216 yX4_lettersOnTheirWay ∈ ni_tb := ni_in 511 (by decide +kernel) (by decide +kernel)
theorem ni_w512 : Cond.instanceMethod yX4_lettersOnTheirWay ∈ ni_tb := ni_in 512 (by decide +kernel) (by decide +kernel)
theorem ni_w513 : Cond.selects "Switchyard$Net" yX4_lettersOnTheirWay yX4_lettersOnTheirWay ∈ ni_tb := ni_in 513 (by decide +kernel) (by decide +kernel)
theorem ni_w514 : ni_cw 61 ∈ ni_tb := ni_in 514 (by decide +kernel) (by decide +kernel)
theorem ni_w515 : Cond.methodLink "SwitchyardLaw" 245 yX11_isSettled ∈ ni_tb := ni_in 515 (by decide +kernel) (by decide +kernel)
theorem ni_w516 : Cond.instanceMethod yX11_isSettled ∈ ni_tb := ni_in 516 (by decide +kernel) (by decide +kernel)
theorem ni_w517 : Cond.selects "Switchyard" yX11_isSettled yX11_isSettled ∈ ni_tb := ni_in 517 (by decide +kernel) (by decide +kernel)
theorem ni_w518 : ni_cw 23 ∈ ni_tb := ni_in 518 (by decide +kernel) (by decide +kernel)
theorem ni_w519 : Cond.methodLink "SwitchyardLaw" 327 yX11_digest ∈ ni_tb := ni_in 519 (by decide +kernel) (by decide +kernel)
theorem ni_w520 : Cond.instanceMethod yX11_digest ∈ ni_tb := ni_in 520 (by decide +kernel) (by decide +kernel)
theorem ni_w521 : Cond.selects "Switchyard" yX11_digest yX11_digest ∈ ni_tb := ni_in 521 (by decide +kernel) (by decide +kernel)
theorem ni_w522 : ni_cw 14 ∈ ni_tb := ni_in 522 (by decide +kernel) (by decide +kernel)
theorem ni_w523 : Cond.constantLong "Switchyard" 301 (58026) ∈ ni_tb := ni_in 523 (by decide +kernel) (by decide +kernel)
theorem ni_w524 : Cond.constantLong "Switchyard" 303 (31) ∈ ni_tb := ni_in 524 (by decide +kernel) (by decide +kernel)
theorem ni_w564 : Cond.static Lib.Math.min.name ∈ ni_tb := ni_in 564 (by decide +kernel) (by decide +kernel)
theorem ni_w565 : Cond.code Lib.Math.min.name Lib.Math.min.code 2 (some .int) ∈ ni_tb := ni_in 565 (by decide +kernel) (by decide +kernel)
theorem ni_w574 : Cond.static Lib.Math.max.name ∈ ni_tb := ni_in 574 (by decide +kernel) (by decide +kernel)
theorem ni_w575 : Cond.code Lib.Math.max.name Lib.Math.max.code 2 (some .int) ∈ ni_tb := ni_in 575 (by decide +kernel) (by decide +kernel)
theorem ni_w623 : Cond.methodLink "SwitchyardLaw" 155 yL_addRouter ∈ ni_tb := ni_in 623 (by decide +kernel) (by decide +kernel)
theorem ni_w624 : Cond.static yL_addRouter ∈ ni_tb := ni_in 624 (by decide +kernel) (by decide +kernel)
theorem ni_w625 : ni_cw 71 ∈ ni_tb := ni_in 625 (by decide +kernel) (by decide +kernel)
theorem ni_w626 : Cond.classLink "SwitchyardLaw" 13 "java/lang/IllegalStateException" ∈ ni_tb := ni_in 626 (by decide +kernel) (by decide +kernel)
theorem ni_w627 : Cond.methodLink "SwitchyardLaw" 7 yX11_addRouter ∈ ni_tb := ni_in 627 (by decide +kernel) (by decide +kernel)
theorem ni_w628 : Cond.instanceMethod yX11_addRouter ∈ ni_tb := ni_in 628 (by decide +kernel) (by decide +kernel)
theorem ni_w629 : Cond.selects "Switchyard" yX11_addRouter yX11_addRouter ∈ ni_tb := ni_in 629 (by decide +kernel) (by decide +kernel)
theorem ni_w630 : ni_cw 4 ∈ ni_tb := ni_in 630 (by decide +kernel) (by decide +kernel)
theorem ni_w699 : Cond.methodLink "Switchyard" 30 yX4_newRouter ∈ ni_tb := ni_in 699 (by decide +kernel) (by decide +kernel)
theorem ni_w700 : Cond.instanceMethod yX4_newRouter ∈ ni_tb := ni_in 700 (by decide +kernel) (by decide +kernel)
theorem ni_w701 : Cond.selects "Switchyard$Net" yX4_newRouter yX4_newRouter ∈ ni_tb := ni_in 701 (by decide +kernel) (by decide +kernel)
theorem ni_w702 : ni_cw 62 ∈ ni_tb := ni_in 702 (by decide +kernel) (by decide +kernel)
theorem ni_w703 : Cond.methodLink "SwitchyardLaw" 164 yL_addLink ∈ ni_tb := ni_in 703 (by decide +kernel) (by decide +kernel)
theorem ni_w704 : Cond.static yL_addLink ∈ ni_tb := ni_in 704 (by decide +kernel) (by decide +kernel)
theorem ni_w705 : ni_cw 69 ∈ ni_tb := ni_in 705 (by decide +kernel) (by decide +kernel)
theorem ni_w706 : Cond.classLink "SwitchyardLaw" 19 "java/lang/IndexOutOfBoundsException" ∈ ni_tb := ni_in 706 (by decide +kernel) (by decide +kernel)
theorem ni_w707 : Cond.classLink "SwitchyardLaw" 21 "java/lang/IllegalArgumentException" ∈ ni_tb := ni_in 707 (by decide +kernel) (by decide +kernel)
theorem ni_w708 : Cond.methodLink "SwitchyardLaw" 15 yX11_addLink ∈ ni_tb := ni_in 708 (by decide +kernel) (by decide +kernel)
theorem ni_w709 : Cond.instanceMethod yX11_addLink ∈ ni_tb := ni_in 709 (by decide +kernel) (by decide +kernel)
theorem ni_w710 : Cond.selects "Switchyard" yX11_addLink yX11_addLink ∈ ni_tb := ni_in 710 (by decide +kernel) (by decide +kernel)
theorem ni_w711 : ni_cw 2 ∈ ni_tb := ni_in 711 (by decide +kernel) (by decide +kernel)
theorem ni_w712 : Cond.methodLink "Switchyard" 34 yX11_checkRouter ∈ ni_tb := ni_in 712 (by decide +kernel) (by decide +kernel)
theorem ni_w714 : Cond.instanceMethod yX11_checkRouter ∈ ni_tb := ni_in 714 (by decide +kernel) (by decide +kernel)
theorem ni_w715 : ni_cw 10 ∈ ni_tb := ni_in 715 (by decide +kernel) (by decide +kernel)
theorem ni_w716 : Cond.methodLink "Switchyard" 108 yX11_checkIndex ∈ ni_tb := ni_in 716 (by decide +kernel) (by decide +kernel)
theorem ni_w717 : Cond.static yX11_checkIndex ∈ ni_tb := ni_in 717 (by decide +kernel) (by decide +kernel)
theorem ni_w718 : ni_cw 7 ∈ ni_tb := ni_in 718 (by decide +kernel) (by decide +kernel)
theorem ni_w719 : Cond.classLink "Switchyard" 328 "java/lang/IndexOutOfBoundsException" ∈ ni_tb := ni_in 719 (by decide +kernel) (by decide +kernel)
theorem ni_w735 : Cond.classLink "Switchyard" 38 "java/lang/IllegalArgumentException" ∈ ni_tb := ni_in 735 (by decide +kernel) (by decide +kernel)
theorem ni_w751 : Cond.methodLink "Switchyard" 43 yX11_checkRange ∈ ni_tb := ni_in 751 (by decide +kernel) (by decide +kernel)
theorem ni_w752 : Cond.static yX11_checkRange ∈ ni_tb := ni_in 752 (by decide +kernel) (by decide +kernel)
theorem ni_w753 : ni_cw 9 ∈ ni_tb := ni_in 753 (by decide +kernel) (by decide +kernel)
theorem ni_w804 : Cond.methodLink "SwitchyardLaw" 168 yL_setCost ∈ ni_tb := ni_in 804 (by decide +kernel) (by decide +kernel)
theorem ni_w805 : Cond.static yL_setCost ∈ ni_tb := ni_in 805 (by decide +kernel) (by decide +kernel)
theorem ni_w806 : ni_cw 97 ∈ ni_tb := ni_in 806 (by decide +kernel) (by decide +kernel)
theorem ni_w807 : Cond.methodLink "SwitchyardLaw" 23 yX11_setCost ∈ ni_tb := ni_in 807 (by decide +kernel) (by decide +kernel)
theorem ni_w808 : Cond.instanceMethod yX11_setCost ∈ ni_tb := ni_in 808 (by decide +kernel) (by decide +kernel)
theorem ni_w809 : Cond.selects "Switchyard" yX11_setCost yX11_setCost ∈ ni_tb := ni_in 809 (by decide +kernel) (by decide +kernel)
theorem ni_w810 : ni_cw 41 ∈ ni_tb := ni_in 810 (by decide +kernel) (by decide +kernel)
theorem ni_w811 : Cond.methodLink "Switchyard" 56 yX11_checkLink ∈ ni_tb := ni_in 811 (by decide +kernel) (by decide +kernel)
theorem ni_w813 : Cond.instanceMethod yX11_checkLink ∈ ni_tb := ni_in 813 (by decide +kernel) (by decide +kernel)
theorem ni_w814 : ni_cw 8 ∈ ni_tb := ni_in 814 (by decide +kernel) (by decide +kernel)
theorem ni_w819 : Cond.methodLink "SwitchyardLaw" 172 yL_setUp ∈ ni_tb := ni_in 819 (by decide +kernel) (by decide +kernel)
theorem ni_w820 : Cond.static yL_setUp ∈ ni_tb := ni_in 820 (by decide +kernel) (by decide +kernel)
theorem ni_w821 : ni_cw 99 ∈ ni_tb := ni_in 821 (by decide +kernel) (by decide +kernel)
theorem ni_w822 : Cond.methodLink "SwitchyardLaw" 27 yX11_setUp ∈ ni_tb := ni_in 822 (by decide +kernel) (by decide +kernel)
theorem ni_w823 : Cond.instanceMethod yX11_setUp ∈ ni_tb := ni_in 823 (by decide +kernel) (by decide +kernel)
theorem ni_w824 : Cond.selects "Switchyard" yX11_setUp yX11_setUp ∈ ni_tb := ni_in 824 (by decide +kernel) (by decide +kernel)
theorem ni_w825 : ni_cw 43 ∈ ni_tb := ni_in 825 (by decide +kernel) (by decide +kernel)
theorem ni_w852 : Cond.methodLink "SwitchyardLaw" 176 yL_addNetwork ∈ ni_tb := ni_in 852 (by decide +kernel) (by decide +kernel)
theorem ni_w853 : Cond.static yL_addNetwork ∈ ni_tb := ni_in 853 (by decide +kernel) (by decide +kernel)
theorem ni_w854 : ni_cw 70 ∈ ni_tb := ni_in 854 (by decide +kernel) (by decide +kernel)
theorem ni_w855 : Cond.methodLink "SwitchyardLaw" 31 yX11_addNetwork ∈ ni_tb := ni_in 855 (by decide +kernel) (by decide +kernel)
theorem ni_w856 : Cond.instanceMethod yX11_addNetwork ∈ ni_tb := ni_in 856 (by decide +kernel) (by decide +kernel)
theorem ni_w857 : Cond.selects "Switchyard" yX11_addNetwork yX11_addNetwork ∈ ni_tb := ni_in 857 (by decide +kernel) (by decide +kernel)
theorem ni_w858 : ni_cw 3 ∈ ni_tb := ni_in 858 (by decide +kernel) (by decide +kernel)
theorem ni_w887 : Cond.methodLink "SwitchyardLaw" 180 yL_dropNetwork ∈ ni_tb := ni_in 887 (by decide +kernel) (by decide +kernel)
theorem ni_w888 : Cond.static yL_dropNetwork ∈ ni_tb := ni_in 888 (by decide +kernel) (by decide +kernel)
theorem ni_w889 : ni_cw 77 ∈ ni_tb := ni_in 889 (by decide +kernel) (by decide +kernel)
theorem ni_w890 : Cond.methodLink "SwitchyardLaw" 35 yX11_dropNetwork ∈ ni_tb := ni_in 890 (by decide +kernel) (by decide +kernel)
theorem ni_w891 : Cond.instanceMethod yX11_dropNetwork ∈ ni_tb := ni_in 891 (by decide +kernel) (by decide +kernel)
theorem ni_w892 : Cond.selects "Switchyard" yX11_dropNetwork yX11_dropNetwork ∈ ni_tb := ni_in 892 (by decide +kernel) (by decide +kernel)
theorem ni_w893 : ni_cw 16 ∈ ni_tb := ni_in 893 (by decide +kernel) (by decide +kernel)
theorem ni_w902 : Cond.methodLink "SwitchyardLaw" 184 yL_addStatic ∈ ni_tb := ni_in 902 (by decide +kernel) (by decide +kernel)
theorem ni_w903 : Cond.static yL_addStatic ∈ ni_tb := ni_in 903 (by decide +kernel) (by decide +kernel)
theorem ni_w904 : ni_cw 72 ∈ ni_tb := ni_in 904 (by decide +kernel) (by decide +kernel)
theorem ni_w905 : Cond.methodLink "SwitchyardLaw" 39 yX11_addStatic ∈ ni_tb := ni_in 905 (by decide +kernel) (by decide +kernel)
theorem ni_w906 : Cond.instanceMethod yX11_addStatic ∈ ni_tb := ni_in 906 (by decide +kernel) (by decide +kernel)
theorem ni_w907 : Cond.selects "Switchyard" yX11_addStatic yX11_addStatic ∈ ni_tb := ni_in 907 (by decide +kernel) (by decide +kernel)
theorem ni_w908 : ni_cw 5 ∈ ni_tb := ni_in 908 (by decide +kernel) (by decide +kernel)
theorem ni_w916 : Cond.methodLink "SwitchyardLaw" 188 yL_dropStatic ∈ ni_tb := ni_in 916 (by decide +kernel) (by decide +kernel)
theorem ni_w917 : Cond.static yL_dropStatic ∈ ni_tb := ni_in 917 (by decide +kernel) (by decide +kernel)
theorem ni_w918 : ni_cw 78 ∈ ni_tb := ni_in 918 (by decide +kernel) (by decide +kernel)
theorem ni_w919 : Cond.methodLink "SwitchyardLaw" 43 yX11_dropStatic ∈ ni_tb := ni_in 919 (by decide +kernel) (by decide +kernel)
theorem ni_w920 : Cond.instanceMethod yX11_dropStatic ∈ ni_tb := ni_in 920 (by decide +kernel) (by decide +kernel)
theorem ni_w921 : Cond.selects "Switchyard" yX11_dropStatic yX11_dropStatic ∈ ni_tb := ni_in 921 (by decide +kernel) (by decide +kernel)
theorem ni_w922 : ni_cw 17 ∈ ni_tb := ni_in 922 (by decide +kernel) (by decide +kernel)
theorem ni_w927 : Cond.methodLink "SwitchyardLaw" 191 yL_setPort ∈ ni_tb := ni_in 927 (by decide +kernel) (by decide +kernel)
theorem ni_w928 : Cond.static yL_setPort ∈ ni_tb := ni_in 928 (by decide +kernel) (by decide +kernel)
theorem ni_w929 : ni_cw 98 ∈ ni_tb := ni_in 929 (by decide +kernel) (by decide +kernel)
theorem ni_w930 : Cond.methodLink "SwitchyardLaw" 46 yX11_setPort ∈ ni_tb := ni_in 930 (by decide +kernel) (by decide +kernel)
theorem ni_w931 : Cond.instanceMethod yX11_setPort ∈ ni_tb := ni_in 931 (by decide +kernel) (by decide +kernel)
theorem ni_w932 : Cond.selects "Switchyard" yX11_setPort yX11_setPort ∈ ni_tb := ni_in 932 (by decide +kernel) (by decide +kernel)
theorem ni_w933 : ni_cw 42 ∈ ni_tb := ni_in 933 (by decide +kernel) (by decide +kernel)
theorem ni_w942 : Cond.methodLink "SwitchyardLaw" 195 yL_setWeight ∈ ni_tb := ni_in 942 (by decide +kernel) (by decide +kernel)
theorem ni_w943 : Cond.static yL_setWeight ∈ ni_tb := ni_in 943 (by decide +kernel) (by decide +kernel)
theorem ni_w944 : ni_cw 100 ∈ ni_tb := ni_in 944 (by decide +kernel) (by decide +kernel)
theorem ni_w945 : Cond.methodLink "SwitchyardLaw" 50 yX11_setWeight ∈ ni_tb := ni_in 945 (by decide +kernel) (by decide +kernel)
theorem ni_w946 : Cond.instanceMethod yX11_setWeight ∈ ni_tb := ni_in 946 (by decide +kernel) (by decide +kernel)
theorem ni_w947 : Cond.selects "Switchyard" yX11_setWeight yX11_setWeight ∈ ni_tb := ni_in 947 (by decide +kernel) (by decide +kernel)
theorem ni_w948 : ni_cw 44 ∈ ni_tb := ni_in 948 (by decide +kernel) (by decide +kernel)
theorem ni_w949 : Cond.methodLink "SwitchyardLaw" 199 yL_addFlow ∈ ni_tb := ni_in 949 (by decide +kernel) (by decide +kernel)
theorem ni_w950 : Cond.static yL_addFlow ∈ ni_tb := ni_in 950 (by decide +kernel) (by decide +kernel)
theorem ni_w951 : ni_cw 68 ∈ ni_tb := ni_in 951 (by decide +kernel) (by decide +kernel)
theorem ni_w952 : Cond.methodLink "SwitchyardLaw" 54 yX11_addFlow ∈ ni_tb := ni_in 952 (by decide +kernel) (by decide +kernel)
theorem ni_w953 : Cond.instanceMethod yX11_addFlow ∈ ni_tb := ni_in 953 (by decide +kernel) (by decide +kernel)
theorem ni_w954 : Cond.selects "Switchyard" yX11_addFlow yX11_addFlow ∈ ni_tb := ni_in 954 (by decide +kernel) (by decide +kernel)
theorem ni_w955 : ni_cw 1 ∈ ni_tb := ni_in 955 (by decide +kernel) (by decide +kernel)
theorem ni_w961 : Cond.methodLink "SwitchyardLaw" 202 yL_schedule ∈ ni_tb := ni_in 961 (by decide +kernel) (by decide +kernel)
theorem ni_w962 : Cond.static yL_schedule ∈ ni_tb := ni_in 962 (by decide +kernel) (by decide +kernel)
theorem ni_w963 : ni_cw 95 ∈ ni_tb := ni_in 963 (by decide +kernel) (by decide +kernel)
theorem ni_w964 : Cond.methodLink "SwitchyardLaw" 57 yX11_schedule ∈ ni_tb := ni_in 964 (by decide +kernel) (by decide +kernel)
theorem ni_w965 : Cond.instanceMethod yX11_schedule ∈ ni_tb := ni_in 965 (by decide +kernel) (by decide +kernel)
theorem ni_w966 : Cond.selects "Switchyard" yX11_schedule yX11_schedule ∈ ni_tb := ni_in 966 (by decide +kernel) (by decide +kernel)
theorem ni_w967 : ni_cw 39 ∈ ni_tb := ni_in 967 (by decide +kernel) (by decide +kernel)
theorem ni_w968 : Cond.methodLink "Switchyard" 162 yX11_checkFlow ∈ ni_tb := ni_in 968 (by decide +kernel) (by decide +kernel)
theorem ni_w970 : Cond.instanceMethod yX11_checkFlow ∈ ni_tb := ni_in 970 (by decide +kernel) (by decide +kernel)
theorem ni_w971 : ni_cw 6 ∈ ni_tb := ni_in 971 (by decide +kernel) (by decide +kernel)
theorem ni_w973 : Cond.methodLink "SwitchyardLaw" 205 yL_shape ∈ ni_tb := ni_in 973 (by decide +kernel) (by decide +kernel)
theorem ni_w974 : Cond.static yL_shape ∈ ni_tb := ni_in 974 (by decide +kernel) (by decide +kernel)
theorem ni_w975 : ni_cw 102 ∈ ni_tb := ni_in 975 (by decide +kernel) (by decide +kernel)
theorem ni_w976 : Cond.methodLink "SwitchyardLaw" 60 yX11_shape ∈ ni_tb := ni_in 976 (by decide +kernel) (by decide +kernel)
theorem ni_w977 : Cond.instanceMethod yX11_shape ∈ ni_tb := ni_in 977 (by decide +kernel) (by decide +kernel)
theorem ni_w978 : Cond.selects "Switchyard" yX11_shape yX11_shape ∈ ni_tb := ni_in 978 (by decide +kernel) (by decide +kernel)
theorem ni_w979 : ni_cw 46 ∈ ni_tb := ni_in 979 (by decide +kernel) (by decide +kernel)
theorem ni_w980 : Cond.methodLink "SwitchyardLaw" 208 yL_step ∈ ni_tb := ni_in 980 (by decide +kernel) (by decide +kernel)
theorem ni_w981 : Cond.static yL_step ∈ ni_tb := ni_in 981 (by decide +kernel) (by decide +kernel)
theorem ni_w982 : ni_cw 105 ∈ ni_tb := ni_in 982 (by decide +kernel) (by decide +kernel)
theorem ni_w983 : Cond.methodLink "SwitchyardLaw" 63 yX11_step ∈ ni_tb := ni_in 983 (by decide +kernel) (by decide +kernel)
theorem ni_w984 : Cond.instanceMethod yX11_step ∈ ni_tb := ni_in 984 (by decide +kernel) (by decide +kernel)
theorem ni_w985 : Cond.selects "Switchyard" yX11_step yX11_step ∈ ni_tb := ni_in 985 (by decide +kernel) (by decide +kernel)
theorem ni_w986 : ni_cw 50 ∈ ni_tb := ni_in 986 (by decide +kernel) (by decide +kernel)
theorem ni_w987 : Cond.methodLink "Switchyard" 198 yX4_tick ∈ ni_tb := ni_in 987 (by decide +kernel) (by decide +kernel)
theorem ni_w988 : Cond.instanceMethod yX4_tick ∈ ni_tb := ni_in 988 (by decide +kernel) (by decide +kernel)
theorem ni_w989 : Cond.selects "Switchyard$Net" yX4_tick yX4_tick ∈ ni_tb := ni_in 989 (by decide +kernel) (by decide +kernel)
theorem ni_w990 : ni_cw 63 ∈ ni_tb := ni_in 990 (by decide +kernel) (by decide +kernel)
theorem ni_w1130 : Cond.methodLink "SwitchyardLaw" 235 yL_isUp ∈ ni_tb := ni_in 1130 (by decide +kernel) (by decide +kernel)
theorem ni_w1131 : Cond.static yL_isUp ∈ ni_tb := ni_in 1131 (by decide +kernel) (by decide +kernel)
theorem ni_w1132 : ni_cw 83 ∈ ni_tb := ni_in 1132 (by decide +kernel) (by decide +kernel)
theorem ni_w1133 : Cond.methodLink "SwitchyardLaw" 66 yX11_isUp ∈ ni_tb := ni_in 1133 (by decide +kernel) (by decide +kernel)
theorem ni_w1134 : Cond.instanceMethod yX11_isUp ∈ ni_tb := ni_in 1134 (by decide +kernel) (by decide +kernel)
theorem ni_w1135 : Cond.selects "Switchyard" yX11_isUp yX11_isUp ∈ ni_tb := ni_in 1135 (by decide +kernel) (by decide +kernel)
theorem ni_w1136 : ni_cw 24 ∈ ni_tb := ni_in 1136 (by decide +kernel) (by decide +kernel)
theorem ni_w1137 : Cond.methodLink "SwitchyardLaw" 238 yL_letterOf ∈ ni_tb := ni_in 1137 (by decide +kernel) (by decide +kernel)
theorem ni_w1138 : Cond.static yL_letterOf ∈ ni_tb := ni_in 1138 (by decide +kernel) (by decide +kernel)
theorem ni_w1139 : ni_cw 86 ∈ ni_tb := ni_in 1139 (by decide +kernel) (by decide +kernel)
theorem ni_w1140 : Cond.methodLink "SwitchyardLaw" 70 yX11_letterOf ∈ ni_tb := ni_in 1140 (by decide +kernel) (by decide +kernel)
theorem ni_w1141 : Cond.instanceMethod yX11_letterOf ∈ ni_tb := ni_in 1141 (by decide +kernel) (by decide +kernel)
theorem ni_w1142 : Cond.selects "Switchyard" yX11_letterOf yX11_letterOf ∈ ni_tb := ni_in 1142 (by decide +kernel) (by decide +kernel)
theorem ni_w1143 : ni_cw 26 ∈ ni_tb := ni_in 1143 (by decide +kernel) (by decide +kernel)
theorem ni_w1144 : Cond.methodLink "SwitchyardLaw" 250 yL_distance ∈ ni_tb := ni_in 1144 (by decide +kernel) (by decide +kernel)
theorem ni_w1145 : Cond.static yL_distance ∈ ni_tb := ni_in 1145 (by decide +kernel) (by decide +kernel)
theorem ni_w1146 : ni_cw 76 ∈ ni_tb := ni_in 1146 (by decide +kernel) (by decide +kernel)
theorem ni_w1147 : Cond.methodLink "SwitchyardLaw" 73 yX11_distance ∈ ni_tb := ni_in 1147 (by decide +kernel) (by decide +kernel)
theorem ni_w1148 : Cond.instanceMethod yX11_distance ∈ ni_tb := ni_in 1148 (by decide +kernel) (by decide +kernel)
theorem ni_w1149 : Cond.selects "Switchyard" yX11_distance yX11_distance ∈ ni_tb := ni_in 1149 (by decide +kernel) (by decide +kernel)
theorem ni_w1150 : ni_cw 15 ∈ ni_tb := ni_in 1150 (by decide +kernel) (by decide +kernel)
theorem ni_w1151 : Cond.methodLink "SwitchyardLaw" 253 yL_firstLinks ∈ ni_tb := ni_in 1151 (by decide +kernel) (by decide +kernel)
theorem ni_w1152 : Cond.static yL_firstLinks ∈ ni_tb := ni_in 1152 (by decide +kernel) (by decide +kernel)
theorem ni_w1153 : ni_cw 81 ∈ ni_tb := ni_in 1153 (by decide +kernel) (by decide +kernel)
theorem ni_w1154 : Cond.methodLink "SwitchyardLaw" 76 yX11_firstLinks ∈ ni_tb := ni_in 1154 (by decide +kernel) (by decide +kernel)
theorem ni_w1155 : Cond.instanceMethod yX11_firstLinks ∈ ni_tb := ni_in 1155 (by decide +kernel) (by decide +kernel)
theorem ni_w1156 : Cond.selects "Switchyard" yX11_firstLinks yX11_firstLinks ∈ ni_tb := ni_in 1156 (by decide +kernel) (by decide +kernel)
theorem ni_w1157 : ni_cw 20 ∈ ni_tb := ni_in 1157 (by decide +kernel) (by decide +kernel)
theorem ni_w1158 : Cond.methodLink "SwitchyardLaw" 256 yL_entries ∈ ni_tb := ni_in 1158 (by decide +kernel) (by decide +kernel)
theorem ni_w1159 : Cond.static yL_entries ∈ ni_tb := ni_in 1159 (by decide +kernel) (by decide +kernel)
theorem ni_w1160 : ni_cw 80 ∈ ni_tb := ni_in 1160 (by decide +kernel) (by decide +kernel)
theorem ni_w1161 : Cond.methodLink "SwitchyardLaw" 79 yX11_entries ∈ ni_tb := ni_in 1161 (by decide +kernel) (by decide +kernel)
theorem ni_w1162 : Cond.instanceMethod yX11_entries ∈ ni_tb := ni_in 1162 (by decide +kernel) (by decide +kernel)
theorem ni_w1163 : Cond.selects "Switchyard" yX11_entries yX11_entries ∈ ni_tb := ni_in 1163 (by decide +kernel) (by decide +kernel)
theorem ni_w1164 : ni_cw 19 ∈ ni_tb := ni_in 1164 (by decide +kernel) (by decide +kernel)
theorem ni_w1165 : Cond.methodLink "SwitchyardLaw" 259 yL_trieNodes ∈ ni_tb := ni_in 1165 (by decide +kernel) (by decide +kernel)
theorem ni_w1166 : Cond.static yL_trieNodes ∈ ni_tb := ni_in 1166 (by decide +kernel) (by decide +kernel)
theorem ni_w1167 : ni_cw 108 ∈ ni_tb := ni_in 1167 (by decide +kernel) (by decide +kernel)
theorem ni_w1168 : Cond.methodLink "SwitchyardLaw" 82 yX11_trieNodes ∈ ni_tb := ni_in 1168 (by decide +kernel) (by decide +kernel)
theorem ni_w1169 : Cond.instanceMethod yX11_trieNodes ∈ ni_tb := ni_in 1169 (by decide +kernel) (by decide +kernel)
theorem ni_w1170 : Cond.selects "Switchyard" yX11_trieNodes yX11_trieNodes ∈ ni_tb := ni_in 1170 (by decide +kernel) (by decide +kernel)
theorem ni_w1171 : ni_cw 54 ∈ ni_tb := ni_in 1171 (by decide +kernel) (by decide +kernel)
theorem ni_w1172 : Cond.methodLink "SwitchyardLaw" 262 yL_trieDepth ∈ ni_tb := ni_in 1172 (by decide +kernel) (by decide +kernel)
theorem ni_w1173 : Cond.static yL_trieDepth ∈ ni_tb := ni_in 1173 (by decide +kernel) (by decide +kernel)
theorem ni_w1174 : ni_cw 107 ∈ ni_tb := ni_in 1174 (by decide +kernel) (by decide +kernel)
theorem ni_w1175 : Cond.methodLink "SwitchyardLaw" 85 yX11_trieDepth ∈ ni_tb := ni_in 1175 (by decide +kernel) (by decide +kernel)
theorem ni_w1176 : Cond.instanceMethod yX11_trieDepth ∈ ni_tb := ni_in 1176 (by decide +kernel) (by decide +kernel)
theorem ni_w1177 : Cond.selects "Switchyard" yX11_trieDepth yX11_trieDepth ∈ ni_tb := ni_in 1177 (by decide +kernel) (by decide +kernel)
theorem ni_w1178 : ni_cw 53 ∈ ni_tb := ni_in 1178 (by decide +kernel) (by decide +kernel)
theorem ni_w1179 : Cond.methodLink "SwitchyardLaw" 265 yL_looks ∈ ni_tb := ni_in 1179 (by decide +kernel) (by decide +kernel)
theorem ni_w1180 : Cond.static yL_looks ∈ ni_tb := ni_in 1180 (by decide +kernel) (by decide +kernel)
theorem ni_w1181 : ni_cw 87 ∈ ni_tb := ni_in 1181 (by decide +kernel) (by decide +kernel)
theorem ni_w1182 : Cond.methodLink "SwitchyardLaw" 88 yX11_looks ∈ ni_tb := ni_in 1182 (by decide +kernel) (by decide +kernel)
theorem ni_w1183 : Cond.instanceMethod yX11_looks ∈ ni_tb := ni_in 1183 (by decide +kernel) (by decide +kernel)
theorem ni_w1184 : Cond.selects "Switchyard" yX11_looks yX11_looks ∈ ni_tb := ni_in 1184 (by decide +kernel) (by decide +kernel)
theorem ni_w1185 : ni_cw 29 ∈ ni_tb := ni_in 1185 (by decide +kernel) (by decide +kernel)
theorem ni_w1190 : Cond.methodLink "SwitchyardLaw" 268 yL_found ∈ ni_tb := ni_in 1190 (by decide +kernel) (by decide +kernel)
theorem ni_w1191 : Cond.static yL_found ∈ ni_tb := ni_in 1191 (by decide +kernel) (by decide +kernel)
theorem ni_w1192 : ni_cw 82 ∈ ni_tb := ni_in 1192 (by decide +kernel) (by decide +kernel)
theorem ni_w1193 : Cond.methodLink "SwitchyardLaw" 91 yX11_found ∈ ni_tb := ni_in 1193 (by decide +kernel) (by decide +kernel)
theorem ni_w1194 : Cond.instanceMethod yX11_found ∈ ni_tb := ni_in 1194 (by decide +kernel) (by decide +kernel)
theorem ni_w1195 : Cond.selects "Switchyard" yX11_found yX11_found ∈ ni_tb := ni_in 1195 (by decide +kernel) (by decide +kernel)
theorem ni_w1196 : ni_cw 22 ∈ ni_tb := ni_in 1196 (by decide +kernel) (by decide +kernel)
theorem ni_w1199 : Cond.methodLink "SwitchyardLaw" 271 yL_sortOf ∈ ni_tb := ni_in 1199 (by decide +kernel) (by decide +kernel)
theorem ni_w1200 : Cond.static yL_sortOf ∈ ni_tb := ni_in 1200 (by decide +kernel) (by decide +kernel)
theorem ni_w1201 : ni_cw 104 ∈ ni_tb := ni_in 1201 (by decide +kernel) (by decide +kernel)
theorem ni_w1202 : Cond.methodLink "SwitchyardLaw" 94 yX11_sortOf ∈ ni_tb := ni_in 1202 (by decide +kernel) (by decide +kernel)
theorem ni_w1203 : Cond.instanceMethod yX11_sortOf ∈ ni_tb := ni_in 1203 (by decide +kernel) (by decide +kernel)
theorem ni_w1204 : Cond.selects "Switchyard" yX11_sortOf yX11_sortOf ∈ ni_tb := ni_in 1204 (by decide +kernel) (by decide +kernel)
theorem ni_w1205 : ni_cw 48 ∈ ni_tb := ni_in 1205 (by decide +kernel) (by decide +kernel)
theorem ni_w1206 : Cond.methodLink "SwitchyardLaw" 274 yL_nextLink ∈ ni_tb := ni_in 1206 (by decide +kernel) (by decide +kernel)
theorem ni_w1207 : Cond.static yL_nextLink ∈ ni_tb := ni_in 1207 (by decide +kernel) (by decide +kernel)
theorem ni_w1208 : ni_cw 89 ∈ ni_tb := ni_in 1208 (by decide +kernel) (by decide +kernel)
theorem ni_w1209 : Cond.methodLink "SwitchyardLaw" 97 yX11_nextLink ∈ ni_tb := ni_in 1209 (by decide +kernel) (by decide +kernel)
theorem ni_w1210 : Cond.instanceMethod yX11_nextLink ∈ ni_tb := ni_in 1210 (by decide +kernel) (by decide +kernel)
theorem ni_w1211 : Cond.selects "Switchyard" yX11_nextLink yX11_nextLink ∈ ni_tb := ni_in 1211 (by decide +kernel) (by decide +kernel)
theorem ni_w1212 : ni_cw 32 ∈ ni_tb := ni_in 1212 (by decide +kernel) (by decide +kernel)
theorem ni_w1213 : Cond.methodLink "SwitchyardLaw" 277 yL_route ∈ ni_tb := ni_in 1213 (by decide +kernel) (by decide +kernel)
theorem ni_w1214 : Cond.static yL_route ∈ ni_tb := ni_in 1214 (by decide +kernel) (by decide +kernel)
theorem ni_w1215 : ni_cw 94 ∈ ni_tb := ni_in 1215 (by decide +kernel) (by decide +kernel)
theorem ni_w1216 : Cond.methodLink "SwitchyardLaw" 100 yX11_route ∈ ni_tb := ni_in 1216 (by decide +kernel) (by decide +kernel)
theorem ni_w1217 : Cond.instanceMethod yX11_route ∈ ni_tb := ni_in 1217 (by decide +kernel) (by decide +kernel)
theorem ni_w1218 : Cond.selects "Switchyard" yX11_route yX11_route ∈ ni_tb := ni_in 1218 (by decide +kernel) (by decide +kernel)
theorem ni_w1219 : ni_cw 37 ∈ ni_tb := ni_in 1219 (by decide +kernel) (by decide +kernel)
theorem ni_w1220 : Cond.methodLink "SwitchyardLaw" 280 yL_waiting ∈ ni_tb := ni_in 1220 (by decide +kernel) (by decide +kernel)
theorem ni_w1221 : Cond.static yL_waiting ∈ ni_tb := ni_in 1221 (by decide +kernel) (by decide +kernel)
theorem ni_w1222 : ni_cw 109 ∈ ni_tb := ni_in 1222 (by decide +kernel) (by decide +kernel)
theorem ni_w1223 : Cond.methodLink "SwitchyardLaw" 103 yX11_waiting ∈ ni_tb := ni_in 1223 (by decide +kernel) (by decide +kernel)
theorem ni_w1224 : Cond.instanceMethod yX11_waiting ∈ ni_tb := ni_in 1224 (by decide +kernel) (by decide +kernel)
theorem ni_w1225 : Cond.selects "Switchyard" yX11_waiting yX11_waiting ∈ ni_tb := ni_in 1225 (by decide +kernel) (by decide +kernel)
theorem ni_w1226 : ni_cw 55 ∈ ni_tb := ni_in 1226 (by decide +kernel) (by decide +kernel)
theorem ni_w1227 : Cond.methodLink "SwitchyardLaw" 283 yL_queued ∈ ni_tb := ni_in 1227 (by decide +kernel) (by decide +kernel)
theorem ni_w1228 : Cond.static yL_queued ∈ ni_tb := ni_in 1228 (by decide +kernel) (by decide +kernel)
theorem ni_w1229 : ni_cw 93 ∈ ni_tb := ni_in 1229 (by decide +kernel) (by decide +kernel)
theorem ni_w1230 : Cond.methodLink "SwitchyardLaw" 107 yX11_queued ∈ ni_tb := ni_in 1230 (by decide +kernel) (by decide +kernel)
theorem ni_w1231 : Cond.instanceMethod yX11_queued ∈ ni_tb := ni_in 1231 (by decide +kernel) (by decide +kernel)
theorem ni_w1232 : Cond.selects "Switchyard" yX11_queued yX11_queued ∈ ni_tb := ni_in 1232 (by decide +kernel) (by decide +kernel)
theorem ni_w1233 : ni_cw 36 ∈ ni_tb := ni_in 1233 (by decide +kernel) (by decide +kernel)
theorem ni_w1234 : Cond.methodLink "SwitchyardLaw" 287 yL_sending ∈ ni_tb := ni_in 1234 (by decide +kernel) (by decide +kernel)
theorem ni_w1235 : Cond.static yL_sending ∈ ni_tb := ni_in 1235 (by decide +kernel) (by decide +kernel)
theorem ni_w1236 : ni_cw 96 ∈ ni_tb := ni_in 1236 (by decide +kernel) (by decide +kernel)
theorem ni_w1237 : Cond.methodLink "SwitchyardLaw" 111 yX11_sending ∈ ni_tb := ni_in 1237 (by decide +kernel) (by decide +kernel)
theorem ni_w1238 : Cond.instanceMethod yX11_sending ∈ ni_tb := ni_in 1238 (by decide +kernel) (by decide +kernel)
theorem ni_w1239 : Cond.selects "Switchyard" yX11_sending yX11_sending ∈ ni_tb := ni_in 1239 (by decide +kernel) (by decide +kernel)
theorem ni_w1240 : ni_cw 40 ∈ ni_tb := ni_in 1240 (by decide +kernel) (by decide +kernel)
theorem ni_w1241 : Cond.methodLink "SwitchyardLaw" 290 yL_deficit ∈ ni_tb := ni_in 1241 (by decide +kernel) (by decide +kernel)
theorem ni_w1242 : Cond.static yL_deficit ∈ ni_tb := ni_in 1242 (by decide +kernel) (by decide +kernel)
theorem ni_w1243 : ni_cw 73 ∈ ni_tb := ni_in 1243 (by decide +kernel) (by decide +kernel)
theorem ni_w1244 : Cond.methodLink "SwitchyardLaw" 114 yX11_deficit ∈ ni_tb := ni_in 1244 (by decide +kernel) (by decide +kernel)
theorem ni_w1245 : Cond.instanceMethod yX11_deficit ∈ ni_tb := ni_in 1245 (by decide +kernel) (by decide +kernel)
theorem ni_w1246 : Cond.selects "Switchyard" yX11_deficit yX11_deficit ∈ ni_tb := ni_in 1246 (by decide +kernel) (by decide +kernel)
theorem ni_w1247 : ni_cw 11 ∈ ni_tb := ni_in 1247 (by decide +kernel) (by decide +kernel)
theorem ni_w1248 : Cond.methodLink "SwitchyardLaw" 293 yL_onLink ∈ ni_tb := ni_in 1248 (by decide +kernel) (by decide +kernel)
theorem ni_w1249 : Cond.static yL_onLink ∈ ni_tb := ni_in 1249 (by decide +kernel) (by decide +kernel)
theorem ni_w1250 : ni_cw 91 ∈ ni_tb := ni_in 1250 (by decide +kernel) (by decide +kernel)
theorem ni_w1251 : Cond.methodLink "SwitchyardLaw" 117 yX11_onLink ∈ ni_tb := ni_in 1251 (by decide +kernel) (by decide +kernel)
theorem ni_w1252 : Cond.instanceMethod yX11_onLink ∈ ni_tb := ni_in 1252 (by decide +kernel) (by decide +kernel)
theorem ni_w1253 : Cond.selects "Switchyard" yX11_onLink yX11_onLink ∈ ni_tb := ni_in 1253 (by decide +kernel) (by decide +kernel)
theorem ni_w1254 : ni_cw 34 ∈ ni_tb := ni_in 1254 (by decide +kernel) (by decide +kernel)
theorem ni_w1255 : Cond.methodLink "SwitchyardLaw" 296 yL_offered ∈ ni_tb := ni_in 1255 (by decide +kernel) (by decide +kernel)
theorem ni_w1256 : Cond.static yL_offered ∈ ni_tb := ni_in 1256 (by decide +kernel) (by decide +kernel)
theorem ni_w1257 : ni_cw 90 ∈ ni_tb := ni_in 1257 (by decide +kernel) (by decide +kernel)
theorem ni_w1258 : Cond.methodLink "SwitchyardLaw" 120 yX11_offered ∈ ni_tb := ni_in 1258 (by decide +kernel) (by decide +kernel)
theorem ni_w1259 : Cond.instanceMethod yX11_offered ∈ ni_tb := ni_in 1259 (by decide +kernel) (by decide +kernel)
theorem ni_w1260 : Cond.selects "Switchyard" yX11_offered yX11_offered ∈ ni_tb := ni_in 1260 (by decide +kernel) (by decide +kernel)
theorem ni_w1261 : ni_cw 33 ∈ ni_tb := ni_in 1261 (by decide +kernel) (by decide +kernel)
theorem ni_w1262 : Cond.methodLink "SwitchyardLaw" 299 yL_shaping ∈ ni_tb := ni_in 1262 (by decide +kernel) (by decide +kernel)
theorem ni_w1263 : Cond.static yL_shaping ∈ ni_tb := ni_in 1263 (by decide +kernel) (by decide +kernel)
theorem ni_w1264 : ni_cw 103 ∈ ni_tb := ni_in 1264 (by decide +kernel) (by decide +kernel)
theorem ni_w1265 : Cond.methodLink "SwitchyardLaw" 123 yX11_shaping ∈ ni_tb := ni_in 1265 (by decide +kernel) (by decide +kernel)
theorem ni_w1266 : Cond.instanceMethod yX11_shaping ∈ ni_tb := ni_in 1266 (by decide +kernel) (by decide +kernel)
theorem ni_w1267 : Cond.selects "Switchyard" yX11_shaping yX11_shaping ∈ ni_tb := ni_in 1267 (by decide +kernel) (by decide +kernel)
theorem ni_w1268 : ni_cw 47 ∈ ni_tb := ni_in 1268 (by decide +kernel) (by decide +kernel)
theorem ni_w1269 : Cond.methodLink "SwitchyardLaw" 302 yL_tokens ∈ ni_tb := ni_in 1269 (by decide +kernel) (by decide +kernel)
theorem ni_w1270 : Cond.static yL_tokens ∈ ni_tb := ni_in 1270 (by decide +kernel) (by decide +kernel)
theorem ni_w1271 : ni_cw 106 ∈ ni_tb := ni_in 1271 (by decide +kernel) (by decide +kernel)
theorem ni_w1272 : Cond.methodLink "SwitchyardLaw" 126 yX11_tokens ∈ ni_tb := ni_in 1272 (by decide +kernel) (by decide +kernel)
theorem ni_w1273 : Cond.instanceMethod yX11_tokens ∈ ni_tb := ni_in 1273 (by decide +kernel) (by decide +kernel)
theorem ni_w1274 : Cond.selects "Switchyard" yX11_tokens yX11_tokens ∈ ni_tb := ni_in 1274 (by decide +kernel) (by decide +kernel)
theorem ni_w1275 : ni_cw 52 ∈ ni_tb := ni_in 1275 (by decide +kernel) (by decide +kernel)
theorem ni_w1276 : Cond.methodLink "SwitchyardLaw" 305 yL_delivered ∈ ni_tb := ni_in 1276 (by decide +kernel) (by decide +kernel)
theorem ni_w1277 : Cond.static yL_delivered ∈ ni_tb := ni_in 1277 (by decide +kernel) (by decide +kernel)
theorem ni_w1278 : ni_cw 74 ∈ ni_tb := ni_in 1278 (by decide +kernel) (by decide +kernel)
theorem ni_w1279 : Cond.methodLink "SwitchyardLaw" 129 yX11_delivered ∈ ni_tb := ni_in 1279 (by decide +kernel) (by decide +kernel)
theorem ni_w1280 : Cond.instanceMethod yX11_delivered ∈ ni_tb := ni_in 1280 (by decide +kernel) (by decide +kernel)
theorem ni_w1281 : Cond.selects "Switchyard" yX11_delivered yX11_delivered ∈ ni_tb := ni_in 1281 (by decide +kernel) (by decide +kernel)
theorem ni_w1282 : ni_cw 12 ∈ ni_tb := ni_in 1282 (by decide +kernel) (by decide +kernel)
theorem ni_w1283 : Cond.methodLink "SwitchyardLaw" 308 yL_dropped ∈ ni_tb := ni_in 1283 (by decide +kernel) (by decide +kernel)
theorem ni_w1284 : Cond.static yL_dropped ∈ ni_tb := ni_in 1284 (by decide +kernel) (by decide +kernel)
theorem ni_w1285 : ni_cw 79 ∈ ni_tb := ni_in 1285 (by decide +kernel) (by decide +kernel)
theorem ni_w1286 : Cond.methodLink "SwitchyardLaw" 132 yX11_dropped ∈ ni_tb := ni_in 1286 (by decide +kernel) (by decide +kernel)
theorem ni_w1287 : Cond.instanceMethod yX11_dropped ∈ ni_tb := ni_in 1287 (by decide +kernel) (by decide +kernel)
theorem ni_w1288 : Cond.selects "Switchyard" yX11_dropped yX11_dropped ∈ ni_tb := ni_in 1288 (by decide +kernel) (by decide +kernel)
theorem ni_w1289 : ni_cw 18 ∈ ni_tb := ni_in 1289 (by decide +kernel) (by decide +kernel)
theorem ni_w1290 : Cond.methodLink "SwitchyardLaw" 311 yL_latest ∈ ni_tb := ni_in 1290 (by decide +kernel) (by decide +kernel)
theorem ni_w1291 : Cond.static yL_latest ∈ ni_tb := ni_in 1291 (by decide +kernel) (by decide +kernel)
theorem ni_w1292 : ni_cw 84 ∈ ni_tb := ni_in 1292 (by decide +kernel) (by decide +kernel)
theorem ni_w1293 : Cond.methodLink "SwitchyardLaw" 135 yX11_latest ∈ ni_tb := ni_in 1293 (by decide +kernel) (by decide +kernel)
theorem ni_w1294 : Cond.instanceMethod yX11_latest ∈ ni_tb := ni_in 1294 (by decide +kernel) (by decide +kernel)
theorem ni_w1295 : Cond.selects "Switchyard" yX11_latest yX11_latest ∈ ni_tb := ni_in 1295 (by decide +kernel) (by decide +kernel)
theorem ni_w1296 : ni_cw 25 ∈ ni_tb := ni_in 1296 (by decide +kernel) (by decide +kernel)
theorem ni_w1297 : Cond.methodLink "SwitchyardLaw" 314 yL_meanLate ∈ ni_tb := ni_in 1297 (by decide +kernel) (by decide +kernel)
theorem ni_w1298 : Cond.static yL_meanLate ∈ ni_tb := ni_in 1298 (by decide +kernel) (by decide +kernel)
theorem ni_w1299 : ni_cw 88 ∈ ni_tb := ni_in 1299 (by decide +kernel) (by decide +kernel)
theorem ni_w1300 : Cond.methodLink "SwitchyardLaw" 138 yX11_meanLate ∈ ni_tb := ni_in 1300 (by decide +kernel) (by decide +kernel)
theorem ni_w1301 : Cond.instanceMethod yX11_meanLate ∈ ni_tb := ni_in 1301 (by decide +kernel) (by decide +kernel)
theorem ni_w1302 : Cond.selects "Switchyard" yX11_meanLate yX11_meanLate ∈ ni_tb := ni_in 1302 (by decide +kernel) (by decide +kernel)
theorem ni_w1303 : ni_cw 30 ∈ ni_tb := ni_in 1303 (by decide +kernel) (by decide +kernel)
theorem ni_w1304 : Cond.methodLink "SwitchyardLaw" 318 yL_outOfOrder ∈ ni_tb := ni_in 1304 (by decide +kernel) (by decide +kernel)
theorem ni_w1305 : Cond.static yL_outOfOrder ∈ ni_tb := ni_in 1305 (by decide +kernel) (by decide +kernel)
theorem ni_w1306 : ni_cw 92 ∈ ni_tb := ni_in 1306 (by decide +kernel) (by decide +kernel)
theorem ni_w1307 : Cond.methodLink "SwitchyardLaw" 142 yX11_outOfOrder ∈ ni_tb := ni_in 1307 (by decide +kernel) (by decide +kernel)
theorem ni_w1308 : Cond.instanceMethod yX11_outOfOrder ∈ ni_tb := ni_in 1308 (by decide +kernel) (by decide +kernel)
theorem ni_w1309 : Cond.selects "Switchyard" yX11_outOfOrder yX11_outOfOrder ∈ ni_tb := ni_in 1309 (by decide +kernel) (by decide +kernel)
theorem ni_w1310 : ni_cw 35 ∈ ni_tb := ni_in 1310 (by decide +kernel) (by decide +kernel)
theorem ni_w1311 : Cond.methodLink "SwitchyardLaw" 321 yL_deliveredIn ∈ ni_tb := ni_in 1311 (by decide +kernel) (by decide +kernel)
theorem ni_w1312 : Cond.static yL_deliveredIn ∈ ni_tb := ni_in 1312 (by decide +kernel) (by decide +kernel)
theorem ni_w1313 : ni_cw 75 ∈ ni_tb := ni_in 1313 (by decide +kernel) (by decide +kernel)
theorem ni_w1314 : Cond.methodLink "SwitchyardLaw" 145 yX11_deliveredIn ∈ ni_tb := ni_in 1314 (by decide +kernel) (by decide +kernel)
theorem ni_w1315 : Cond.instanceMethod yX11_deliveredIn ∈ ni_tb := ni_in 1315 (by decide +kernel) (by decide +kernel)
theorem ni_w1316 : Cond.selects "Switchyard" yX11_deliveredIn yX11_deliveredIn ∈ ni_tb := ni_in 1316 (by decide +kernel) (by decide +kernel)
theorem ni_w1317 : ni_cw 13 ∈ ni_tb := ni_in 1317 (by decide +kernel) (by decide +kernel)
theorem ni_w1327 : Cond.static arraycopyName ∈ ni_tb := ni_in 1327 (by decide +kernel) (by decide +kernel)
theorem ni_w1328 : Cond.native arraycopyName ∈ ni_tb := ni_in 1328 (by decide +kernel) (by decide +kernel)
theorem ni_w1358 : Cond.methodLink "SwitchyardLaw" 324 yL_settledIn ∈ ni_tb := ni_in 1358 (by decide +kernel) (by decide +kernel)
theorem ni_w1359 : Cond.static yL_settledIn ∈ ni_tb := ni_in 1359 (by decide +kernel) (by decide +kernel)
theorem ni_w1360 : ni_cw 101 ∈ ni_tb := ni_in 1360 (by decide +kernel) (by decide +kernel)
theorem ni_w1361 : Cond.methodLink "SwitchyardLaw" 148 yX11_settledIn ∈ ni_tb := ni_in 1361 (by decide +kernel) (by decide +kernel)
theorem ni_w1362 : Cond.instanceMethod yX11_settledIn ∈ ni_tb := ni_in 1362 (by decide +kernel) (by decide +kernel)
theorem ni_w1363 : Cond.selects "Switchyard" yX11_settledIn yX11_settledIn ∈ ni_tb := ni_in 1363 (by decide +kernel) (by decide +kernel)
theorem ni_w1364 : ni_cw 45 ∈ ni_tb := ni_in 1364 (by decide +kernel) (by decide +kernel)
theorem ni_w1365 : Cond.classLink "SwitchyardLaw" 152 "SwitchyardModel" ∈ ni_tb := ni_in 1365 (by decide +kernel) (by decide +kernel)
theorem ni_w1366 : Cond.instantiable "SwitchyardModel" 2 ∈ ni_tb := ni_in 1366 (by decide +kernel) (by decide +kernel)
theorem ni_w1367 : Cond.methodLink "SwitchyardLaw" 154 yX19_init ∈ ni_tb := ni_in 1367 (by decide +kernel) (by decide +kernel)
theorem ni_w1368 : Cond.instanceMethod yX19_init ∈ ni_tb := ni_in 1368 (by decide +kernel) (by decide +kernel)
theorem ni_w1369 : ni_cw 110 ∈ ni_tb := ni_in 1369 (by decide +kernel) (by decide +kernel)
theorem ni_w1370 : Cond.methodLink "SwitchyardModel" 1 objectInit ∈ ni_tb := ni_in 1370 (by decide +kernel) (by decide +kernel)
theorem ni_w1371 : Cond.classLink "SwitchyardModel" 7 "SwitchyardModel$Net" ∈ ni_tb := ni_in 1371 (by decide +kernel) (by decide +kernel)
theorem ni_w1372 : Cond.instantiable "SwitchyardModel$Net" 24 ∈ ni_tb := ni_in 1372 (by decide +kernel) (by decide +kernel)
theorem ni_w1373 : Cond.methodLink "SwitchyardModel" 9 yX15_init ∈ ni_tb := ni_in 1373 (by decide +kernel) (by decide +kernel)
theorem ni_w1374 : Cond.instanceMethod yX15_init ∈ ni_tb := ni_in 1374 (by decide +kernel) (by decide +kernel)
theorem ni_w1375 : ni_cw 173 ∈ ni_tb := ni_in 1375 (by decide +kernel) (by decide +kernel)
theorem ni_w1376 : Cond.methodLink "SwitchyardModel$Net" 3 objectInit ∈ ni_tb := ni_in 1376 (by decide +kernel) (by decide +kernel)
theorem ni_w1377 : Cond.classLink "SwitchyardModel$Net" 31 "SwitchyardModel$Port" ∈ ni_tb := ni_in 1377 (by decide +kernel) (by decide +kernel)
theorem ni_w1379 : Cond.classLink "SwitchyardModel$Net" 58 "java/util/ArrayList" ∈ ni_tb := ni_in 1379 (by decide +kernel) (by decide +kernel)
theorem ni_w1380 : Cond.instantiable "java/util/ArrayList" 3 ∈ ni_tb := ni_in 1380 (by decide +kernel) (by decide +kernel)
theorem ni_w1381 : Cond.methodLink "SwitchyardModel$Net" 60 yJx4a65c_init_da8c8 ∈ ni_tb := ni_in 1381 (by decide +kernel) (by decide +kernel)
theorem ni_w1382 : Cond.instanceMethod yJx4a65c_init_da8c8 ∈ ni_tb := ni_in 1382 (by decide +kernel) (by decide +kernel)
theorem ni_w1383 : ni_cw 179 ∈ ni_tb := ni_in 1383 (by decide +kernel) (by decide +kernel)
theorem ni_w1384 : Cond.methodLink "java/util/ArrayList" 1 yJxc12de_init_da8c8 ∈ ni_tb := ni_in 1384 (by decide +kernel) (by decide +kernel)
theorem ni_w1385 : Cond.instanceMethod yJxc12de_init_da8c8 ∈ ni_tb := ni_in 1385 (by decide +kernel) (by decide +kernel)
theorem ni_w1386 : ni_cw 178 ∈ ni_tb := ni_in 1386 (by decide +kernel) (by decide +kernel)
theorem ni_w1387 : Cond.methodLink "java/util/AbstractList" 1 yJxa1e45_init_da8c8 ∈ ni_tb := ni_in 1387 (by decide +kernel) (by decide +kernel)
theorem ni_w1388 : Cond.instanceMethod yJxa1e45_init_da8c8 ∈ ni_tb := ni_in 1388 (by decide +kernel) (by decide +kernel)
theorem ni_w1389 : ni_cw 177 ∈ ni_tb := ni_in 1389 (by decide +kernel) (by decide +kernel)
theorem ni_w1390 : Cond.methodLink "java/util/AbstractCollection" 1 objectInit ∈ ni_tb := ni_in 1390 (by decide +kernel) (by decide +kernel)
theorem ni_w1391 : Cond.fieldLink "java/util/ArrayList" 39 "java/util/ArrayList" "DEFAULTCAPACITY_EMPTY_ELEMENTDATA" "[Ljava/lang/Object;" ∈ ni_tb := ni_in 1391 (by decide +kernel) (by decide +kernel)
theorem ni_w1393 : Cond.fieldLink "java/util/ArrayList" 9 "java/util/ArrayList" "elementData" "[Ljava/lang/Object;" ∈ ni_tb := ni_in 1393 (by decide +kernel) (by decide +kernel)
theorem ni_w1394 : Cond.fieldLink "java/util/ArrayList" 48 "java/util/ArrayList" "size" "I" ∈ ni_tb := ni_in 1394 (by decide +kernel) (by decide +kernel)
theorem ni_w1395 : Cond.fieldLink "java/util/AbstractList" 7 "java/util/AbstractList" "modCount" "I" ∈ ni_tb := ni_in 1395 (by decide +kernel) (by decide +kernel)
theorem ni_w1396 : Cond.fieldLink "java/util/ArrayList" 63 "java/util/ArrayList" "modCount" "I" ∈ ni_tb := ni_in 1396 (by decide +kernel) (by decide +kernel)
theorem ni_w1397 : Cond.sameField "java/util/ArrayList" "java/util/AbstractList" "modCount" "I" ∈ ni_tb := ni_in 1397 (by decide +kernel) (by decide +kernel)
theorem ni_w1405 : Cond.arrayClass .boolean ∈ ni_tb := ni_in 1405 (by decide +kernel) (by decide +kernel)
theorem ni_w1406 : Cond.classLink "SwitchyardModel$Net" 65 "SwitchyardModel$Letter" ∈ ni_tb := ni_in 1406 (by decide +kernel) (by decide +kernel)
theorem ni_w1408 : Cond.classLink "SwitchyardModel$Net" 74 "[I" ∈ ni_tb := ni_in 1408 (by decide +kernel) (by decide +kernel)
theorem ni_w1410 : Cond.methodLink "SwitchyardModel$Net" 82 yJx4a65c_add_9ea2d ∈ ni_tb := ni_in 1410 (by decide +kernel) (by decide +kernel)
theorem ni_w1411 : Cond.instanceMethod yJx4a65c_add_9ea2d ∈ ni_tb := ni_in 1411 (by decide +kernel) (by decide +kernel)
theorem ni_w1412 : Cond.selects "java/util/ArrayList" yJx4a65c_add_9ea2d yJx4a65c_add_9ea2d ∈ ni_tb := ni_in 1412 (by decide +kernel) (by decide +kernel)
theorem ni_w1413 : ni_cw 180 ∈ ni_tb := ni_in 1413 (by decide +kernel) (by decide +kernel)
theorem ni_w1414 : Cond.methodLink "java/util/ArrayList" 131 yJx4a65c_add_72be8 ∈ ni_tb := ni_in 1414 (by decide +kernel) (by decide +kernel)
theorem ni_w1416 : Cond.instanceMethod yJx4a65c_add_72be8 ∈ ni_tb := ni_in 1416 (by decide +kernel) (by decide +kernel)
theorem ni_w1417 : ni_cw 181 ∈ ni_tb := ni_in 1417 (by decide +kernel) (by decide +kernel)
theorem ni_w1418 : Cond.methodLink "java/util/ArrayList" 129 yJx4a65c_grow_d5877 ∈ ni_tb := ni_in 1418 (by decide +kernel) (by decide +kernel)
theorem ni_w1420 : Cond.instanceMethod yJx4a65c_grow_d5877 ∈ ni_tb := ni_in 1420 (by decide +kernel) (by decide +kernel)
theorem ni_w1421 : ni_cw 185 ∈ ni_tb := ni_in 1421 (by decide +kernel) (by decide +kernel)
theorem ni_w1422 : Cond.methodLink "java/util/ArrayList" 69 yJx4a65c_grow_92f84 ∈ ni_tb := ni_in 1422 (by decide +kernel) (by decide +kernel)
theorem ni_w1424 : Cond.instanceMethod yJx4a65c_grow_92f84 ∈ ni_tb := ni_in 1424 (by decide +kernel) (by decide +kernel)
theorem ni_w1425 : ni_cw 186 ∈ ni_tb := ni_in 1425 (by decide +kernel) (by decide +kernel)
theorem ni_w1434 : Cond.methodLink "java/util/ArrayList" 66 yJ7_copyOf_1904c ∈ ni_tb := ni_in 1434 (by decide +kernel) (by decide +kernel)
theorem ni_w1435 : Cond.static yJ7_copyOf_1904c ∈ ni_tb := ni_in 1435 (by decide +kernel) (by decide +kernel)
theorem ni_w1436 : ni_cw 189 ∈ ni_tb := ni_in 1436 (by decide +kernel) (by decide +kernel)
theorem ni_w1463 : Cond.methodLink "java/util/Arrays" 300 yJ7_copyOf_6403c ∈ ni_tb := ni_in 1463 (by decide +kernel) (by decide +kernel)
theorem ni_w1464 : Cond.static yJ7_copyOf_6403c ∈ ni_tb := ni_in 1464 (by decide +kernel) (by decide +kernel)
theorem ni_w1465 : ni_cw 190 ∈ ni_tb := ni_in 1465 (by decide +kernel) (by decide +kernel)
theorem ni_w1468 : Cond.classLink "java/util/Arrays" 2 "java/lang/Object" ∈ ni_tb := ni_in 1468 (by decide +kernel) (by decide +kernel)
theorem ni_w1469 : Cond.methodLink "java/util/Arrays" 304 Lib.Math.min.name ∈ ni_tb := ni_in 1469 (by decide +kernel) (by decide +kernel)
theorem ni_w1470 : Cond.methodLink "java/util/Arrays" 150 arraycopyName ∈ ni_tb := ni_in 1470 (by decide +kernel) (by decide +kernel)
theorem ni_w1471 : Cond.methodLink "java/util/ArrayList" 79 Lib.Math.max.name ∈ ni_tb := ni_in 1471 (by decide +kernel) (by decide +kernel)
theorem ni_w1472 : Cond.classLink "java/util/ArrayList" 7 "java/lang/Object" ∈ ni_tb := ni_in 1472 (by decide +kernel) (by decide +kernel)
theorem ni_w1473 : Cond.fieldLink "SwitchyardModel$Net" 87 "SwitchyardModel$Net" "time" "I" ∈ ni_tb := ni_in 1473 (by decide +kernel) (by decide +kernel)
theorem ni_w1474 : Cond.fieldLink "SwitchyardModel" 216 "SwitchyardModel$Net" "time" "I" ∈ ni_tb := ni_in 1474 (by decide +kernel) (by decide +kernel)
theorem ni_w1475 : Cond.fieldLink "SwitchyardModel$Net" 91 "SwitchyardModel$Net" "routers" "I" ∈ ni_tb := ni_in 1475 (by decide +kernel) (by decide +kernel)
theorem ni_w1476 : Cond.fieldLink "SwitchyardModel" 66 "SwitchyardModel$Net" "routers" "I" ∈ ni_tb := ni_in 1476 (by decide +kernel) (by decide +kernel)
theorem ni_w1477 : Cond.fieldLink "SwitchyardModel$Net" 94 "SwitchyardModel$Net" "links" "I" ∈ ni_tb := ni_in 1477 (by decide +kernel) (by decide +kernel)
theorem ni_w1478 : Cond.fieldLink "SwitchyardModel" 79 "SwitchyardModel$Net" "links" "I" ∈ ni_tb := ni_in 1478 (by decide +kernel) (by decide +kernel)
theorem ni_w1479 : Cond.fieldLink "SwitchyardModel$Net" 9 "SwitchyardModel$Net" "a" "[I" ∈ ni_tb := ni_in 1479 (by decide +kernel) (by decide +kernel)
theorem ni_w1481 : Cond.fieldLink "SwitchyardModel$Net" 15 "SwitchyardModel$Net" "b" "[I" ∈ ni_tb := ni_in 1481 (by decide +kernel) (by decide +kernel)
theorem ni_w1483 : Cond.fieldLink "SwitchyardModel$Net" 18 "SwitchyardModel$Net" "cost" "[I" ∈ ni_tb := ni_in 1483 (by decide +kernel) (by decide +kernel)
theorem ni_w1485 : Cond.fieldLink "SwitchyardModel$Net" 21 "SwitchyardModel$Net" "rate" "[I" ∈ ni_tb := ni_in 1485 (by decide +kernel) (by decide +kernel)
theorem ni_w1487 : Cond.fieldLink "SwitchyardModel$Net" 24 "SwitchyardModel$Net" "delay" "[I" ∈ ni_tb := ni_in 1487 (by decide +kernel) (by decide +kernel)
theorem ni_w1489 : Cond.fieldLink "SwitchyardModel$Net" 27 "SwitchyardModel$Net" "isUp" "[Z" ∈ ni_tb := ni_in 1489 (by decide +kernel) (by decide +kernel)
theorem ni_w1491 : Cond.fieldLink "SwitchyardModel$Net" 33 "SwitchyardModel$Net" "ports" "[LSwitchyardModel$Port;" ∈ ni_tb := ni_in 1491 (by decide +kernel) (by decide +kernel)
theorem ni_w1493 : Cond.fieldLink "SwitchyardModel$Net" 101 "SwitchyardModel$Net" "networks" "I" ∈ ni_tb := ni_in 1493 (by decide +kernel) (by decide +kernel)
theorem ni_w1494 : Cond.fieldLink "SwitchyardModel" 131 "SwitchyardModel$Net" "networks" "I" ∈ ni_tb := ni_in 1494 (by decide +kernel) (by decide +kernel)
theorem ni_w1495 : Cond.fieldLink "SwitchyardModel$Net" 37 "SwitchyardModel$Net" "netRouter" "[I" ∈ ni_tb := ni_in 1495 (by decide +kernel) (by decide +kernel)
theorem ni_w1497 : Cond.fieldLink "SwitchyardModel$Net" 40 "SwitchyardModel$Net" "netAddress" "[I" ∈ ni_tb := ni_in 1497 (by decide +kernel) (by decide +kernel)
theorem ni_w1499 : Cond.fieldLink "SwitchyardModel$Net" 43 "SwitchyardModel$Net" "netLength" "[I" ∈ ni_tb := ni_in 1499 (by decide +kernel) (by decide +kernel)
theorem ni_w1501 : Cond.fieldLink "SwitchyardModel$Net" 104 "SwitchyardModel$Net" "statics" "I" ∈ ni_tb := ni_in 1501 (by decide +kernel) (by decide +kernel)
theorem ni_w1502 : Cond.fieldLink "SwitchyardModel" 156 "SwitchyardModel$Net" "statics" "I" ∈ ni_tb := ni_in 1502 (by decide +kernel) (by decide +kernel)
theorem ni_w1503 : Cond.fieldLink "SwitchyardModel$Net" 46 "SwitchyardModel$Net" "wayRouter" "[I" ∈ ni_tb := ni_in 1503 (by decide +kernel) (by decide +kernel)
theorem ni_w1505 : Cond.fieldLink "SwitchyardModel$Net" 49 "SwitchyardModel$Net" "wayAddress" "[I" ∈ ni_tb := ni_in 1505 (by decide +kernel) (by decide +kernel)
theorem ni_w1507 : Cond.fieldLink "SwitchyardModel$Net" 52 "SwitchyardModel$Net" "wayLength" "[I" ∈ ni_tb := ni_in 1507 (by decide +kernel) (by decide +kernel)
theorem ni_w1509 : Cond.fieldLink "SwitchyardModel$Net" 55 "SwitchyardModel$Net" "wayLink" "[I" ∈ ni_tb := ni_in 1509 (by decide +kernel) (by decide +kernel)
theorem ni_w1511 : Cond.fieldLink "SwitchyardModel$Net" 61 "SwitchyardModel$Net" "flows" "Ljava/util/ArrayList;" ∈ ni_tb := ni_in 1511 (by decide +kernel) (by decide +kernel)
theorem ni_w1512 : Cond.fieldLink "SwitchyardModel" 82 "SwitchyardModel$Net" "flows" "Ljava/util/ArrayList;" ∈ ni_tb := ni_in 1512 (by decide +kernel) (by decide +kernel)
theorem ni_w1513 : Cond.fieldLink "SwitchyardModel$Net" 67 "SwitchyardModel$Net" "kept" "[LSwitchyardModel$Letter;" ∈ ni_tb := ni_in 1513 (by decide +kernel) (by decide +kernel)
theorem ni_w1514 : Cond.fieldLink "SwitchyardModel$Net" 71 "SwitchyardModel$Net" "distance" "[I" ∈ ni_tb := ni_in 1514 (by decide +kernel) (by decide +kernel)
theorem ni_w1516 : Cond.fieldLink "SwitchyardModel$Net" 75 "SwitchyardModel$Net" "firsts" "[[I" ∈ ni_tb := ni_in 1516 (by decide +kernel) (by decide +kernel)
theorem ni_w1518 : Cond.fieldLink "SwitchyardModel$Net" 79 "SwitchyardModel$Net" "tables" "Ljava/util/ArrayList;" ∈ ni_tb := ni_in 1518 (by decide +kernel) (by decide +kernel)
theorem ni_w1569 : Cond.fieldLink "SwitchyardModel" 10 "SwitchyardModel" "net" "LSwitchyardModel$Net;" ∈ ni_tb := ni_in 1569 (by decide +kernel) (by decide +kernel)
theorem ni_w1570 : Cond.fieldLink "SwitchyardModel" 59 "SwitchyardModel" "thrown" "I" ∈ ni_tb := ni_in 1570 (by decide +kernel) (by decide +kernel)
theorem ni_w1576 : Cond.methodLink "SwitchyardLaw" 161 yX19_thrown ∈ ni_tb := ni_in 1576 (by decide +kernel) (by decide +kernel)
theorem ni_w1577 : Cond.instanceMethod yX19_thrown ∈ ni_tb := ni_in 1577 (by decide +kernel) (by decide +kernel)
theorem ni_w1578 : Cond.selects "SwitchyardModel" yX19_thrown yX19_thrown ∈ ni_tb := ni_in 1578 (by decide +kernel) (by decide +kernel)
theorem ni_w1579 : ni_cw 167 ∈ ni_tb := ni_in 1579 (by decide +kernel) (by decide +kernel)
theorem ni_w1580 : Cond.methodLink "SwitchyardLaw" 160 yX19_addRouter ∈ ni_tb := ni_in 1580 (by decide +kernel) (by decide +kernel)
theorem ni_w1581 : Cond.instanceMethod yX19_addRouter ∈ ni_tb := ni_in 1581 (by decide +kernel) (by decide +kernel)
theorem ni_w1582 : Cond.selects "SwitchyardModel" yX19_addRouter yX19_addRouter ∈ ni_tb := ni_in 1582 (by decide +kernel) (by decide +kernel)
theorem ni_w1583 : ni_cw 115 ∈ ni_tb := ni_in 1583 (by decide +kernel) (by decide +kernel)
theorem ni_w1584 : Cond.methodLink "SwitchyardModel" 72 yX19_start ∈ ni_tb := ni_in 1584 (by decide +kernel) (by decide +kernel)
theorem ni_w1586 : Cond.instanceMethod yX19_start ∈ ni_tb := ni_in 1586 (by decide +kernel) (by decide +kernel)
theorem ni_w1587 : ni_cw 164 ∈ ni_tb := ni_in 1587 (by decide +kernel) (by decide +kernel)
theorem ni_w1588 : Cond.methodLink "SwitchyardModel" 62 yX19_refuse ∈ ni_tb := ni_in 1588 (by decide +kernel) (by decide +kernel)
theorem ni_w1590 : Cond.instanceMethod yX19_refuse ∈ ni_tb := ni_in 1590 (by decide +kernel) (by decide +kernel)
theorem ni_w1591 : ni_cw 151 ∈ ni_tb := ni_in 1591 (by decide +kernel) (by decide +kernel)
theorem ni_w1592 : Cond.methodLink "SwitchyardLaw" 167 yX19_addLink ∈ ni_tb := ni_in 1592 (by decide +kernel) (by decide +kernel)
theorem ni_w1593 : Cond.instanceMethod yX19_addLink ∈ ni_tb := ni_in 1593 (by decide +kernel) (by decide +kernel)
theorem ni_w1594 : Cond.selects "SwitchyardModel" yX19_addLink yX19_addLink ∈ ni_tb := ni_in 1594 (by decide +kernel) (by decide +kernel)
theorem ni_w1595 : ni_cw 113 ∈ ni_tb := ni_in 1595 (by decide +kernel) (by decide +kernel)
theorem ni_w1596 : Cond.methodLink "SwitchyardModel" 86 yX19_areNone ∈ ni_tb := ni_in 1596 (by decide +kernel) (by decide +kernel)
theorem ni_w1598 : Cond.instanceMethod yX19_areNone ∈ ni_tb := ni_in 1598 (by decide +kernel) (by decide +kernel)
theorem ni_w1599 : ni_cw 117 ∈ ni_tb := ni_in 1599 (by decide +kernel) (by decide +kernel)
theorem ni_w1600 : Cond.methodLink "SwitchyardModel" 75 yX19_isNoRouter ∈ ni_tb := ni_in 1600 (by decide +kernel) (by decide +kernel)
theorem ni_w1602 : Cond.instanceMethod yX19_isNoRouter ∈ ni_tb := ni_in 1602 (by decide +kernel) (by decide +kernel)
theorem ni_w1603 : ni_cw 135 ∈ ni_tb := ni_in 1603 (by decide +kernel) (by decide +kernel)
theorem ni_w1604 : Cond.methodLink "SwitchyardModel" 69 yX19_isIn ∈ ni_tb := ni_in 1604 (by decide +kernel) (by decide +kernel)
theorem ni_w1605 : Cond.static yX19_isIn ∈ ni_tb := ni_in 1605 (by decide +kernel) (by decide +kernel)
theorem ni_w1606 : ni_cw 130 ∈ ni_tb := ni_in 1606 (by decide +kernel) (by decide +kernel)
theorem ni_w1752 : Cond.methodLink "SwitchyardLaw" 171 yX19_setCost ∈ ni_tb := ni_in 1752 (by decide +kernel) (by decide +kernel)
theorem ni_w1753 : Cond.instanceMethod yX19_setCost ∈ ni_tb := ni_in 1753 (by decide +kernel) (by decide +kernel)
theorem ni_w1754 : Cond.selects "SwitchyardModel" yX19_setCost yX19_setCost ∈ ni_tb := ni_in 1754 (by decide +kernel) (by decide +kernel)
theorem ni_w1755 : ni_cw 156 ∈ ni_tb := ni_in 1755 (by decide +kernel) (by decide +kernel)
theorem ni_w1756 : Cond.methodLink "SwitchyardModel" 117 yX19_isNoLink ∈ ni_tb := ni_in 1756 (by decide +kernel) (by decide +kernel)
theorem ni_w1758 : Cond.instanceMethod yX19_isNoLink ∈ ni_tb := ni_in 1758 (by decide +kernel) (by decide +kernel)
theorem ni_w1759 : ni_cw 134 ∈ ni_tb := ni_in 1759 (by decide +kernel) (by decide +kernel)
theorem ni_w1761 : Cond.methodLink "SwitchyardLaw" 175 yX19_setUp ∈ ni_tb := ni_in 1761 (by decide +kernel) (by decide +kernel)
theorem ni_w1762 : Cond.instanceMethod yX19_setUp ∈ ni_tb := ni_in 1762 (by decide +kernel) (by decide +kernel)
theorem ni_w1763 : Cond.selects "SwitchyardModel" yX19_setUp yX19_setUp ∈ ni_tb := ni_in 1763 (by decide +kernel) (by decide +kernel)
theorem ni_w1764 : ni_cw 158 ∈ ni_tb := ni_in 1764 (by decide +kernel) (by decide +kernel)
theorem ni_w1769 : Cond.methodLink "SwitchyardModel$Net" 107 yJx4a65c_size_8abf5 ∈ ni_tb := ni_in 1769 (by decide +kernel) (by decide +kernel)
theorem ni_w1770 : Cond.instanceMethod yJx4a65c_size_8abf5 ∈ ni_tb := ni_in 1770 (by decide +kernel) (by decide +kernel)
theorem ni_w1771 : Cond.selects "java/util/ArrayList" yJx4a65c_size_8abf5 yJx4a65c_size_8abf5 ∈ ni_tb := ni_in 1771 (by decide +kernel) (by decide +kernel)
theorem ni_w1772 : ni_cw 187 ∈ ni_tb := ni_in 1772 (by decide +kernel) (by decide +kernel)
theorem ni_w1773 : Cond.methodLink "SwitchyardModel$Net" 111 yJx4a65c_get_915e3 ∈ ni_tb := ni_in 1773 (by decide +kernel) (by decide +kernel)
theorem ni_w1774 : Cond.instanceMethod yJx4a65c_get_915e3 ∈ ni_tb := ni_in 1774 (by decide +kernel) (by decide +kernel)
theorem ni_w1775 : Cond.selects "java/util/ArrayList" yJx4a65c_get_915e3 yJx4a65c_get_915e3 ∈ ni_tb := ni_in 1775 (by decide +kernel) (by decide +kernel)
theorem ni_w1776 : ni_cw 184 ∈ ni_tb := ni_in 1776 (by decide +kernel) (by decide +kernel)
theorem ni_w1777 : Cond.methodLink "java/util/ArrayList" 118 yJ15_checkIndex_7cf53 ∈ ni_tb := ni_in 1777 (by decide +kernel) (by decide +kernel)
theorem ni_w1778 : Cond.static yJ15_checkIndex_7cf53 ∈ ni_tb := ni_in 1778 (by decide +kernel) (by decide +kernel)
theorem ni_w1779 : ni_cw 191 ∈ ni_tb := ni_in 1779 (by decide +kernel) (by decide +kernel)
theorem ni_w1780 : Cond.methodLink "java/util/Objects" 105 yJ3_checkIndex_8e157 ∈ ni_tb := ni_in 1780 (by decide +kernel) (by decide +kernel)
theorem ni_w1781 : Cond.static yJ3_checkIndex_8e157 ∈ ni_tb := ni_in 1781 (by decide +kernel) (by decide +kernel)
theorem ni_w1782 : ni_cw 192 ∈ ni_tb := ni_in 1782 (by decide +kernel) (by decide +kernel)
theorem ni_w1783 : Cond.methodLink "java/util/ArrayList" 123 yJx4a65c_elementData_915e3 ∈ ni_tb := ni_in 1783 (by decide +kernel) (by decide +kernel)
theorem ni_w1784 : Cond.instanceMethod yJx4a65c_elementData_915e3 ∈ ni_tb := ni_in 1784 (by decide +kernel) (by decide +kernel)
theorem ni_w1785 : Cond.selects "java/util/ArrayList" yJx4a65c_elementData_915e3 yJx4a65c_elementData_915e3 ∈ ni_tb := ni_in 1785 (by decide +kernel) (by decide +kernel)
theorem ni_w1786 : ni_cw 183 ∈ ni_tb := ni_in 1786 (by decide +kernel) (by decide +kernel)
theorem ni_w1801 : Cond.methodLink "SwitchyardLaw" 179 yX19_addNetwork ∈ ni_tb := ni_in 1801 (by decide +kernel) (by decide +kernel)
theorem ni_w1802 : Cond.instanceMethod yX19_addNetwork ∈ ni_tb := ni_in 1802 (by decide +kernel) (by decide +kernel)
theorem ni_w1803 : Cond.selects "SwitchyardModel" yX19_addNetwork yX19_addNetwork ∈ ni_tb := ni_in 1803 (by decide +kernel) (by decide +kernel)
theorem ni_w1804 : ni_cw 114 ∈ ni_tb := ni_in 1804 (by decide +kernel) (by decide +kernel)
theorem ni_w1816 : Cond.methodLink "SwitchyardLaw" 183 yX19_dropNetwork ∈ ni_tb := ni_in 1816 (by decide +kernel) (by decide +kernel)
theorem ni_w1817 : Cond.instanceMethod yX19_dropNetwork ∈ ni_tb := ni_in 1817 (by decide +kernel) (by decide +kernel)
theorem ni_w1818 : Cond.selects "SwitchyardModel" yX19_dropNetwork yX19_dropNetwork ∈ ni_tb := ni_in 1818 (by decide +kernel) (by decide +kernel)
theorem ni_w1819 : ni_cw 123 ∈ ni_tb := ni_in 1819 (by decide +kernel) (by decide +kernel)
theorem ni_w1823 : Cond.methodLink "SwitchyardLaw" 187 yX19_addStatic ∈ ni_tb := ni_in 1823 (by decide +kernel) (by decide +kernel)
theorem ni_w1824 : Cond.instanceMethod yX19_addStatic ∈ ni_tb := ni_in 1824 (by decide +kernel) (by decide +kernel)
theorem ni_w1825 : Cond.selects "SwitchyardModel" yX19_addStatic yX19_addStatic ∈ ni_tb := ni_in 1825 (by decide +kernel) (by decide +kernel)
theorem ni_w1826 : ni_cw 116 ∈ ni_tb := ni_in 1826 (by decide +kernel) (by decide +kernel)
theorem ni_w1828 : Cond.methodLink "SwitchyardLaw" 190 yX19_dropStatic ∈ ni_tb := ni_in 1828 (by decide +kernel) (by decide +kernel)
theorem ni_w1829 : Cond.instanceMethod yX19_dropStatic ∈ ni_tb := ni_in 1829 (by decide +kernel) (by decide +kernel)
theorem ni_w1830 : Cond.selects "SwitchyardModel" yX19_dropStatic yX19_dropStatic ∈ ni_tb := ni_in 1830 (by decide +kernel) (by decide +kernel)
theorem ni_w1831 : ni_cw 124 ∈ ni_tb := ni_in 1831 (by decide +kernel) (by decide +kernel)
theorem ni_w1832 : Cond.methodLink "SwitchyardLaw" 194 yX19_setPort ∈ ni_tb := ni_in 1832 (by decide +kernel) (by decide +kernel)
theorem ni_w1833 : Cond.instanceMethod yX19_setPort ∈ ni_tb := ni_in 1833 (by decide +kernel) (by decide +kernel)
theorem ni_w1834 : Cond.selects "SwitchyardModel" yX19_setPort yX19_setPort ∈ ni_tb := ni_in 1834 (by decide +kernel) (by decide +kernel)
theorem ni_w1835 : ni_cw 157 ∈ ni_tb := ni_in 1835 (by decide +kernel) (by decide +kernel)
theorem ni_w1841 : Cond.methodLink "SwitchyardModel" 20 yJx4a65c_size_8abf5 ∈ ni_tb := ni_in 1841 (by decide +kernel) (by decide +kernel)
theorem ni_w1842 : Cond.methodLink "SwitchyardLaw" 198 yX19_setWeight ∈ ni_tb := ni_in 1842 (by decide +kernel) (by decide +kernel)
theorem ni_w1843 : Cond.instanceMethod yX19_setWeight ∈ ni_tb := ni_in 1843 (by decide +kernel) (by decide +kernel)
theorem ni_w1844 : Cond.selects "SwitchyardModel" yX19_setWeight yX19_setWeight ∈ ni_tb := ni_in 1844 (by decide +kernel) (by decide +kernel)
theorem ni_w1845 : ni_cw 159 ∈ ni_tb := ni_in 1845 (by decide +kernel) (by decide +kernel)
theorem ni_w1846 : Cond.methodLink "SwitchyardLaw" 201 yX19_addFlow ∈ ni_tb := ni_in 1846 (by decide +kernel) (by decide +kernel)
theorem ni_w1847 : Cond.instanceMethod yX19_addFlow ∈ ni_tb := ni_in 1847 (by decide +kernel) (by decide +kernel)
theorem ni_w1848 : Cond.selects "SwitchyardModel" yX19_addFlow yX19_addFlow ∈ ni_tb := ni_in 1848 (by decide +kernel) (by decide +kernel)
theorem ni_w1849 : ni_cw 112 ∈ ni_tb := ni_in 1849 (by decide +kernel) (by decide +kernel)
theorem ni_w1959 : Cond.methodLink "SwitchyardLaw" 204 yX19_schedule ∈ ni_tb := ni_in 1959 (by decide +kernel) (by decide +kernel)
theorem ni_w1960 : Cond.instanceMethod yX19_schedule ∈ ni_tb := ni_in 1960 (by decide +kernel) (by decide +kernel)
theorem ni_w1961 : Cond.selects "SwitchyardModel" yX19_schedule yX19_schedule ∈ ni_tb := ni_in 1961 (by decide +kernel) (by decide +kernel)
theorem ni_w1962 : ni_cw 154 ∈ ni_tb := ni_in 1962 (by decide +kernel) (by decide +kernel)
theorem ni_w1963 : Cond.methodLink "SwitchyardModel" 213 yX19_isNoFlow ∈ ni_tb := ni_in 1963 (by decide +kernel) (by decide +kernel)
theorem ni_w1965 : Cond.instanceMethod yX19_isNoFlow ∈ ni_tb := ni_in 1965 (by decide +kernel) (by decide +kernel)
theorem ni_w1966 : ni_cw 133 ∈ ni_tb := ni_in 1966 (by decide +kernel) (by decide +kernel)
theorem ni_w1968 : Cond.methodLink "SwitchyardLaw" 207 yX19_shape ∈ ni_tb := ni_in 1968 (by decide +kernel) (by decide +kernel)
theorem ni_w1969 : Cond.instanceMethod yX19_shape ∈ ni_tb := ni_in 1969 (by decide +kernel) (by decide +kernel)
theorem ni_w1970 : Cond.selects "SwitchyardModel" yX19_shape yX19_shape ∈ ni_tb := ni_in 1970 (by decide +kernel) (by decide +kernel)
theorem ni_w1971 : ni_cw 161 ∈ ni_tb := ni_in 1971 (by decide +kernel) (by decide +kernel)
theorem ni_w1972 : Cond.methodLink "SwitchyardLaw" 210 yX19_step ∈ ni_tb := ni_in 1972 (by decide +kernel) (by decide +kernel)
theorem ni_w1973 : Cond.instanceMethod yX19_step ∈ ni_tb := ni_in 1973 (by decide +kernel) (by decide +kernel)
theorem ni_w1974 : Cond.selects "SwitchyardModel" yX19_step yX19_step ∈ ni_tb := ni_in 1974 (by decide +kernel) (by decide +kernel)
theorem ni_w1975 : ni_cw 166 ∈ ni_tb := ni_in 1975 (by decide +kernel) (by decide +kernel)
theorem ni_w1976 : Cond.methodLink "SwitchyardModel" 244 yX15_tick ∈ ni_tb := ni_in 1976 (by decide +kernel) (by decide +kernel)
theorem ni_w1977 : Cond.instanceMethod yX15_tick ∈ ni_tb := ni_in 1977 (by decide +kernel) (by decide +kernel)
theorem ni_w1978 : Cond.selects "SwitchyardModel$Net" yX15_tick yX15_tick ∈ ni_tb := ni_in 1978 (by decide +kernel) (by decide +kernel)
theorem ni_w1979 : ni_cw 176 ∈ ni_tb := ni_in 1979 (by decide +kernel) (by decide +kernel)
theorem ni_w2115 : Cond.methodLink "SwitchyardLaw" 214 yX19_time ∈ ni_tb := ni_in 2115 (by decide +kernel) (by decide +kernel)
theorem ni_w2116 : Cond.instanceMethod yX19_time ∈ ni_tb := ni_in 2116 (by decide +kernel) (by decide +kernel)
theorem ni_w2117 : Cond.selects "SwitchyardModel" yX19_time yX19_time ∈ ni_tb := ni_in 2117 (by decide +kernel) (by decide +kernel)
theorem ni_w2118 : ni_cw 168 ∈ ni_tb := ni_in 2118 (by decide +kernel) (by decide +kernel)
theorem ni_w2119 : Cond.methodLink "SwitchyardModel" 247 yX19_plain ∈ ni_tb := ni_in 2119 (by decide +kernel) (by decide +kernel)
theorem ni_w2121 : Cond.instanceMethod yX19_plain ∈ ni_tb := ni_in 2121 (by decide +kernel) (by decide +kernel)
theorem ni_w2122 : ni_cw 149 ∈ ni_tb := ni_in 2122 (by decide +kernel) (by decide +kernel)
theorem ni_w2123 : Cond.methodLink "SwitchyardLaw" 218 yX19_routers ∈ ni_tb := ni_in 2123 (by decide +kernel) (by decide +kernel)
theorem ni_w2124 : Cond.instanceMethod yX19_routers ∈ ni_tb := ni_in 2124 (by decide +kernel) (by decide +kernel)
theorem ni_w2125 : Cond.selects "SwitchyardModel" yX19_routers yX19_routers ∈ ni_tb := ni_in 2125 (by decide +kernel) (by decide +kernel)
theorem ni_w2126 : ni_cw 153 ∈ ni_tb := ni_in 2126 (by decide +kernel) (by decide +kernel)
theorem ni_w2127 : Cond.methodLink "SwitchyardLaw" 222 yX19_links ∈ ni_tb := ni_in 2127 (by decide +kernel) (by decide +kernel)
theorem ni_w2128 : Cond.instanceMethod yX19_links ∈ ni_tb := ni_in 2128 (by decide +kernel) (by decide +kernel)
theorem ni_w2129 : Cond.selects "SwitchyardModel" yX19_links yX19_links ∈ ni_tb := ni_in 2129 (by decide +kernel) (by decide +kernel)
theorem ni_w2130 : ni_cw 141 ∈ ni_tb := ni_in 2130 (by decide +kernel) (by decide +kernel)
theorem ni_w2131 : Cond.methodLink "SwitchyardLaw" 226 yX19_networks ∈ ni_tb := ni_in 2131 (by decide +kernel) (by decide +kernel)
theorem ni_w2132 : Cond.instanceMethod yX19_networks ∈ ni_tb := ni_in 2132 (by decide +kernel) (by decide +kernel)
theorem ni_w2133 : Cond.selects "SwitchyardModel" yX19_networks yX19_networks ∈ ni_tb := ni_in 2133 (by decide +kernel) (by decide +kernel)
theorem ni_w2134 : ni_cw 144 ∈ ni_tb := ni_in 2134 (by decide +kernel) (by decide +kernel)
theorem ni_w2135 : Cond.methodLink "SwitchyardLaw" 230 yX19_statics ∈ ni_tb := ni_in 2135 (by decide +kernel) (by decide +kernel)
theorem ni_w2136 : Cond.instanceMethod yX19_statics ∈ ni_tb := ni_in 2136 (by decide +kernel) (by decide +kernel)
theorem ni_w2137 : Cond.selects "SwitchyardModel" yX19_statics yX19_statics ∈ ni_tb := ni_in 2137 (by decide +kernel) (by decide +kernel)
theorem ni_w2138 : ni_cw 165 ∈ ni_tb := ni_in 2138 (by decide +kernel) (by decide +kernel)
theorem ni_w2139 : Cond.methodLink "SwitchyardLaw" 234 yX19_flows ∈ ni_tb := ni_in 2139 (by decide +kernel) (by decide +kernel)
theorem ni_w2140 : Cond.instanceMethod yX19_flows ∈ ni_tb := ni_in 2140 (by decide +kernel) (by decide +kernel)
theorem ni_w2141 : Cond.selects "SwitchyardModel" yX19_flows yX19_flows ∈ ni_tb := ni_in 2141 (by decide +kernel) (by decide +kernel)
theorem ni_w2142 : ni_cw 128 ∈ ni_tb := ni_in 2142 (by decide +kernel) (by decide +kernel)
theorem ni_w2143 : Cond.methodLink "SwitchyardLaw" 237 yX19_isUp ∈ ni_tb := ni_in 2143 (by decide +kernel) (by decide +kernel)
theorem ni_w2144 : Cond.instanceMethod yX19_isUp ∈ ni_tb := ni_in 2144 (by decide +kernel) (by decide +kernel)
theorem ni_w2145 : Cond.selects "SwitchyardModel" yX19_isUp yX19_isUp ∈ ni_tb := ni_in 2145 (by decide +kernel) (by decide +kernel)
theorem ni_w2146 : ni_cw 137 ∈ ni_tb := ni_in 2146 (by decide +kernel) (by decide +kernel)
theorem ni_w2147 : Cond.methodLink "SwitchyardLaw" 240 yX19_letterOf ∈ ni_tb := ni_in 2147 (by decide +kernel) (by decide +kernel)
theorem ni_w2148 : Cond.instanceMethod yX19_letterOf ∈ ni_tb := ni_in 2148 (by decide +kernel) (by decide +kernel)
theorem ni_w2149 : Cond.selects "SwitchyardModel" yX19_letterOf yX19_letterOf ∈ ni_tb := ni_in 2149 (by decide +kernel) (by decide +kernel)
theorem ni_w2150 : ni_cw 139 ∈ ni_tb := ni_in 2150 (by decide +kernel) (by decide +kernel)
theorem ni_w2152 : Cond.methodLink "SwitchyardLaw" 244 yX19_letters ∈ ni_tb := ni_in 2152 (by decide +kernel) (by decide +kernel)
theorem ni_w2153 : Cond.instanceMethod yX19_letters ∈ ni_tb := ni_in 2153 (by decide +kernel) (by decide +kernel)
theorem ni_w2154 : Cond.selects "SwitchyardModel" yX19_letters yX19_letters ∈ ni_tb := ni_in 2154 (by decide +kernel) (by decide +kernel)
theorem ni_w2155 : ni_cw 140 ∈ ni_tb := ni_in 2155 (by decide +kernel) (by decide +kernel)
theorem ni_w2156 : Cond.methodLink "SwitchyardModel" 254 yX15_letters ∈ ni_tb := ni_in 2156 (by decide +kernel) (by decide +kernel)
theorem ni_w2157 : Cond.instanceMethod yX15_letters ∈ ni_tb := ni_in 2157 (by decide +kernel) (by decide +kernel)
theorem ni_w2158 : Cond.selects "SwitchyardModel$Net" yX15_letters yX15_letters ∈ ni_tb := ni_in 2158 (by decide +kernel) (by decide +kernel)
theorem ni_w2159 : ni_cw 175 ∈ ni_tb := ni_in 2159 (by decide +kernel) (by decide +kernel)
theorem ni_w2160 : Cond.methodLink "SwitchyardLaw" 249 yX19_isSettled ∈ ni_tb := ni_in 2160 (by decide +kernel) (by decide +kernel)
theorem ni_w2161 : Cond.instanceMethod yX19_isSettled ∈ ni_tb := ni_in 2161 (by decide +kernel) (by decide +kernel)
theorem ni_w2162 : Cond.selects "SwitchyardModel" yX19_isSettled yX19_isSettled ∈ ni_tb := ni_in 2162 (by decide +kernel) (by decide +kernel)
theorem ni_w2163 : ni_cw 136 ∈ ni_tb := ni_in 2163 (by decide +kernel) (by decide +kernel)
theorem ni_w2164 : Cond.methodLink "SwitchyardLaw" 252 yX19_distance ∈ ni_tb := ni_in 2164 (by decide +kernel) (by decide +kernel)
theorem ni_w2165 : Cond.instanceMethod yX19_distance ∈ ni_tb := ni_in 2165 (by decide +kernel) (by decide +kernel)
theorem ni_w2166 : Cond.selects "SwitchyardModel" yX19_distance yX19_distance ∈ ni_tb := ni_in 2166 (by decide +kernel) (by decide +kernel)
theorem ni_w2167 : ni_cw 122 ∈ ni_tb := ni_in 2167 (by decide +kernel) (by decide +kernel)
theorem ni_w2168 : Cond.methodLink "SwitchyardLaw" 255 yX19_firstLinks ∈ ni_tb := ni_in 2168 (by decide +kernel) (by decide +kernel)
theorem ni_w2169 : Cond.instanceMethod yX19_firstLinks ∈ ni_tb := ni_in 2169 (by decide +kernel) (by decide +kernel)
theorem ni_w2170 : Cond.selects "SwitchyardModel" yX19_firstLinks yX19_firstLinks ∈ ni_tb := ni_in 2170 (by decide +kernel) (by decide +kernel)
theorem ni_w2171 : ni_cw 127 ∈ ni_tb := ni_in 2171 (by decide +kernel) (by decide +kernel)
theorem ni_w2172 : Cond.methodLink "SwitchyardLaw" 258 yX19_entries ∈ ni_tb := ni_in 2172 (by decide +kernel) (by decide +kernel)
theorem ni_w2173 : Cond.instanceMethod yX19_entries ∈ ni_tb := ni_in 2173 (by decide +kernel) (by decide +kernel)
theorem ni_w2174 : Cond.selects "SwitchyardModel" yX19_entries yX19_entries ∈ ni_tb := ni_in 2174 (by decide +kernel) (by decide +kernel)
theorem ni_w2175 : ni_cw 126 ∈ ni_tb := ni_in 2175 (by decide +kernel) (by decide +kernel)
theorem ni_w2177 : Cond.methodLink "SwitchyardLaw" 261 yX19_trieNodes ∈ ni_tb := ni_in 2177 (by decide +kernel) (by decide +kernel)
theorem ni_w2178 : Cond.instanceMethod yX19_trieNodes ∈ ni_tb := ni_in 2178 (by decide +kernel) (by decide +kernel)
theorem ni_w2179 : Cond.selects "SwitchyardModel" yX19_trieNodes yX19_trieNodes ∈ ni_tb := ni_in 2179 (by decide +kernel) (by decide +kernel)
theorem ni_w2180 : ni_cw 171 ∈ ni_tb := ni_in 2180 (by decide +kernel) (by decide +kernel)
theorem ni_w2190 : Cond.methodLink "SwitchyardLaw" 264 yX19_trieDepth ∈ ni_tb := ni_in 2190 (by decide +kernel) (by decide +kernel)
theorem ni_w2191 : Cond.instanceMethod yX19_trieDepth ∈ ni_tb := ni_in 2191 (by decide +kernel) (by decide +kernel)
theorem ni_w2192 : Cond.selects "SwitchyardModel" yX19_trieDepth yX19_trieDepth ∈ ni_tb := ni_in 2192 (by decide +kernel) (by decide +kernel)
theorem ni_w2193 : ni_cw 170 ∈ ni_tb := ni_in 2193 (by decide +kernel) (by decide +kernel)
theorem ni_w2199 : Cond.methodLink "SwitchyardLaw" 267 yX19_looks_ ∈ ni_tb := ni_in 2199 (by decide +kernel) (by decide +kernel)
theorem ni_w2200 : Cond.instanceMethod yX19_looks_ ∈ ni_tb := ni_in 2200 (by decide +kernel) (by decide +kernel)
theorem ni_w2201 : Cond.selects "SwitchyardModel" yX19_looks_ yX19_looks_ ∈ ni_tb := ni_in 2201 (by decide +kernel) (by decide +kernel)
theorem ni_w2202 : ni_cw 142 ∈ ni_tb := ni_in 2202 (by decide +kernel) (by decide +kernel)
theorem ni_w2203 : Cond.methodLink "SwitchyardModel" 275 yX19_isNoAddress ∈ ni_tb := ni_in 2203 (by decide +kernel) (by decide +kernel)
theorem ni_w2205 : Cond.instanceMethod yX19_isNoAddress ∈ ni_tb := ni_in 2205 (by decide +kernel) (by decide +kernel)
theorem ni_w2206 : ni_cw 131 ∈ ni_tb := ni_in 2206 (by decide +kernel) (by decide +kernel)
theorem ni_w2210 : Cond.methodLink "SwitchyardLaw" 270 yX19_found ∈ ni_tb := ni_in 2210 (by decide +kernel) (by decide +kernel)
theorem ni_w2211 : Cond.instanceMethod yX19_found ∈ ni_tb := ni_in 2211 (by decide +kernel) (by decide +kernel)
theorem ni_w2212 : Cond.selects "SwitchyardModel" yX19_found yX19_found ∈ ni_tb := ni_in 2212 (by decide +kernel) (by decide +kernel)
theorem ni_w2213 : ni_cw 129 ∈ ni_tb := ni_in 2213 (by decide +kernel) (by decide +kernel)
theorem ni_w2215 : Cond.methodLink "SwitchyardLaw" 273 yX19_sortOf ∈ ni_tb := ni_in 2215 (by decide +kernel) (by decide +kernel)
theorem ni_w2216 : Cond.instanceMethod yX19_sortOf ∈ ni_tb := ni_in 2216 (by decide +kernel) (by decide +kernel)
theorem ni_w2217 : Cond.selects "SwitchyardModel" yX19_sortOf yX19_sortOf ∈ ni_tb := ni_in 2217 (by decide +kernel) (by decide +kernel)
theorem ni_w2218 : ni_cw 163 ∈ ni_tb := ni_in 2218 (by decide +kernel) (by decide +kernel)
theorem ni_w2219 : Cond.methodLink "SwitchyardLaw" 276 yX19_nextLink ∈ ni_tb := ni_in 2219 (by decide +kernel) (by decide +kernel)
theorem ni_w2220 : Cond.instanceMethod yX19_nextLink ∈ ni_tb := ni_in 2220 (by decide +kernel) (by decide +kernel)
theorem ni_w2221 : Cond.selects "SwitchyardModel" yX19_nextLink yX19_nextLink ∈ ni_tb := ni_in 2221 (by decide +kernel) (by decide +kernel)
theorem ni_w2222 : ni_cw 145 ∈ ni_tb := ni_in 2222 (by decide +kernel) (by decide +kernel)
theorem ni_w2227 : Cond.methodLink "SwitchyardLaw" 279 yX19_route ∈ ni_tb := ni_in 2227 (by decide +kernel) (by decide +kernel)
theorem ni_w2228 : Cond.instanceMethod yX19_route ∈ ni_tb := ni_in 2228 (by decide +kernel) (by decide +kernel)
theorem ni_w2229 : Cond.selects "SwitchyardModel" yX19_route yX19_route ∈ ni_tb := ni_in 2229 (by decide +kernel) (by decide +kernel)
theorem ni_w2230 : ni_cw 152 ∈ ni_tb := ni_in 2230 (by decide +kernel) (by decide +kernel)
theorem ni_w2235 : Cond.methodLink "SwitchyardLaw" 282 yX19_waiting ∈ ni_tb := ni_in 2235 (by decide +kernel) (by decide +kernel)
theorem ni_w2236 : Cond.instanceMethod yX19_waiting ∈ ni_tb := ni_in 2236 (by decide +kernel) (by decide +kernel)
theorem ni_w2237 : Cond.selects "SwitchyardModel" yX19_waiting yX19_waiting ∈ ni_tb := ni_in 2237 (by decide +kernel) (by decide +kernel)
theorem ni_w2238 : ni_cw 172 ∈ ni_tb := ni_in 2238 (by decide +kernel) (by decide +kernel)
theorem ni_w2240 : Cond.methodLink "SwitchyardLaw" 286 yX19_queued ∈ ni_tb := ni_in 2240 (by decide +kernel) (by decide +kernel)
theorem ni_w2241 : Cond.instanceMethod yX19_queued ∈ ni_tb := ni_in 2241 (by decide +kernel) (by decide +kernel)
theorem ni_w2242 : Cond.selects "SwitchyardModel" yX19_queued yX19_queued ∈ ni_tb := ni_in 2242 (by decide +kernel) (by decide +kernel)
theorem ni_w2243 : ni_cw 150 ∈ ni_tb := ni_in 2243 (by decide +kernel) (by decide +kernel)
theorem ni_w2244 : Cond.methodLink "SwitchyardModel" 302 yX19_isNoClass ∈ ni_tb := ni_in 2244 (by decide +kernel) (by decide +kernel)
theorem ni_w2246 : Cond.instanceMethod yX19_isNoClass ∈ ni_tb := ni_in 2246 (by decide +kernel) (by decide +kernel)
theorem ni_w2247 : ni_cw 132 ∈ ni_tb := ni_in 2247 (by decide +kernel) (by decide +kernel)
theorem ni_w2253 : Cond.methodLink "SwitchyardLaw" 289 yX19_sending ∈ ni_tb := ni_in 2253 (by decide +kernel) (by decide +kernel)
theorem ni_w2254 : Cond.instanceMethod yX19_sending ∈ ni_tb := ni_in 2254 (by decide +kernel) (by decide +kernel)
theorem ni_w2255 : Cond.selects "SwitchyardModel" yX19_sending yX19_sending ∈ ni_tb := ni_in 2255 (by decide +kernel) (by decide +kernel)
theorem ni_w2256 : ni_cw 155 ∈ ni_tb := ni_in 2256 (by decide +kernel) (by decide +kernel)
theorem ni_w2257 : Cond.methodLink "SwitchyardLaw" 292 yX19_deficit ∈ ni_tb := ni_in 2257 (by decide +kernel) (by decide +kernel)
theorem ni_w2258 : Cond.instanceMethod yX19_deficit ∈ ni_tb := ni_in 2258 (by decide +kernel) (by decide +kernel)
theorem ni_w2259 : Cond.selects "SwitchyardModel" yX19_deficit yX19_deficit ∈ ni_tb := ni_in 2259 (by decide +kernel) (by decide +kernel)
theorem ni_w2260 : ni_cw 118 ∈ ni_tb := ni_in 2260 (by decide +kernel) (by decide +kernel)
theorem ni_w2261 : Cond.methodLink "SwitchyardLaw" 295 yX19_onLink ∈ ni_tb := ni_in 2261 (by decide +kernel) (by decide +kernel)
theorem ni_w2262 : Cond.instanceMethod yX19_onLink ∈ ni_tb := ni_in 2262 (by decide +kernel) (by decide +kernel)
theorem ni_w2263 : Cond.selects "SwitchyardModel" yX19_onLink yX19_onLink ∈ ni_tb := ni_in 2263 (by decide +kernel) (by decide +kernel)
theorem ni_w2264 : ni_cw 147 ∈ ni_tb := ni_in 2264 (by decide +kernel) (by decide +kernel)
theorem ni_w2269 : Cond.methodLink "SwitchyardLaw" 298 yX19_offered ∈ ni_tb := ni_in 2269 (by decide +kernel) (by decide +kernel)
theorem ni_w2270 : Cond.instanceMethod yX19_offered ∈ ni_tb := ni_in 2270 (by decide +kernel) (by decide +kernel)
theorem ni_w2271 : Cond.selects "SwitchyardModel" yX19_offered yX19_offered ∈ ni_tb := ni_in 2271 (by decide +kernel) (by decide +kernel)
theorem ni_w2272 : ni_cw 146 ∈ ni_tb := ni_in 2272 (by decide +kernel) (by decide +kernel)
theorem ni_w2273 : Cond.methodLink "SwitchyardLaw" 301 yX19_shaping ∈ ni_tb := ni_in 2273 (by decide +kernel) (by decide +kernel)
theorem ni_w2274 : Cond.instanceMethod yX19_shaping ∈ ni_tb := ni_in 2274 (by decide +kernel) (by decide +kernel)
theorem ni_w2275 : Cond.selects "SwitchyardModel" yX19_shaping yX19_shaping ∈ ni_tb := ni_in 2275 (by decide +kernel) (by decide +kernel)
theorem ni_w2276 : ni_cw 162 ∈ ni_tb := ni_in 2276 (by decide +kernel) (by decide +kernel)
theorem ni_w2277 : Cond.methodLink "SwitchyardLaw" 304 yX19_tokens ∈ ni_tb := ni_in 2277 (by decide +kernel) (by decide +kernel)
theorem ni_w2278 : Cond.instanceMethod yX19_tokens ∈ ni_tb := ni_in 2278 (by decide +kernel) (by decide +kernel)
theorem ni_w2279 : Cond.selects "SwitchyardModel" yX19_tokens yX19_tokens ∈ ni_tb := ni_in 2279 (by decide +kernel) (by decide +kernel)
theorem ni_w2280 : ni_cw 169 ∈ ni_tb := ni_in 2280 (by decide +kernel) (by decide +kernel)
theorem ni_w2281 : Cond.methodLink "SwitchyardLaw" 307 yX19_delivered ∈ ni_tb := ni_in 2281 (by decide +kernel) (by decide +kernel)
theorem ni_w2282 : Cond.instanceMethod yX19_delivered ∈ ni_tb := ni_in 2282 (by decide +kernel) (by decide +kernel)
theorem ni_w2283 : Cond.selects "SwitchyardModel" yX19_delivered yX19_delivered ∈ ni_tb := ni_in 2283 (by decide +kernel) (by decide +kernel)
theorem ni_w2284 : ni_cw 119 ∈ ni_tb := ni_in 2284 (by decide +kernel) (by decide +kernel)
theorem ni_w2285 : Cond.methodLink "SwitchyardLaw" 310 yX19_dropped ∈ ni_tb := ni_in 2285 (by decide +kernel) (by decide +kernel)
theorem ni_w2286 : Cond.instanceMethod yX19_dropped ∈ ni_tb := ni_in 2286 (by decide +kernel) (by decide +kernel)
theorem ni_w2287 : Cond.selects "SwitchyardModel" yX19_dropped yX19_dropped ∈ ni_tb := ni_in 2287 (by decide +kernel) (by decide +kernel)
theorem ni_w2288 : ni_cw 125 ∈ ni_tb := ni_in 2288 (by decide +kernel) (by decide +kernel)
theorem ni_w2289 : Cond.methodLink "SwitchyardLaw" 313 yX19_latest ∈ ni_tb := ni_in 2289 (by decide +kernel) (by decide +kernel)
theorem ni_w2290 : Cond.instanceMethod yX19_latest ∈ ni_tb := ni_in 2290 (by decide +kernel) (by decide +kernel)
theorem ni_w2291 : Cond.selects "SwitchyardModel" yX19_latest yX19_latest ∈ ni_tb := ni_in 2291 (by decide +kernel) (by decide +kernel)
theorem ni_w2292 : ni_cw 138 ∈ ni_tb := ni_in 2292 (by decide +kernel) (by decide +kernel)
theorem ni_w2293 : Cond.methodLink "SwitchyardLaw" 317 yX19_meanLate ∈ ni_tb := ni_in 2293 (by decide +kernel) (by decide +kernel)
theorem ni_w2294 : Cond.instanceMethod yX19_meanLate ∈ ni_tb := ni_in 2294 (by decide +kernel) (by decide +kernel)
theorem ni_w2295 : Cond.selects "SwitchyardModel" yX19_meanLate yX19_meanLate ∈ ni_tb := ni_in 2295 (by decide +kernel) (by decide +kernel)
theorem ni_w2296 : ni_cw 143 ∈ ni_tb := ni_in 2296 (by decide +kernel) (by decide +kernel)
theorem ni_w2297 : Cond.methodLink "SwitchyardLaw" 320 yX19_outOfOrder ∈ ni_tb := ni_in 2297 (by decide +kernel) (by decide +kernel)
theorem ni_w2298 : Cond.instanceMethod yX19_outOfOrder ∈ ni_tb := ni_in 2298 (by decide +kernel) (by decide +kernel)
theorem ni_w2299 : Cond.selects "SwitchyardModel" yX19_outOfOrder yX19_outOfOrder ∈ ni_tb := ni_in 2299 (by decide +kernel) (by decide +kernel)
theorem ni_w2300 : ni_cw 148 ∈ ni_tb := ni_in 2300 (by decide +kernel) (by decide +kernel)
theorem ni_w2301 : Cond.methodLink "SwitchyardLaw" 323 yX19_deliveredIn ∈ ni_tb := ni_in 2301 (by decide +kernel) (by decide +kernel)
theorem ni_w2302 : Cond.instanceMethod yX19_deliveredIn ∈ ni_tb := ni_in 2302 (by decide +kernel) (by decide +kernel)
theorem ni_w2303 : Cond.selects "SwitchyardModel" yX19_deliveredIn yX19_deliveredIn ∈ ni_tb := ni_in 2303 (by decide +kernel) (by decide +kernel)
theorem ni_w2304 : ni_cw 120 ∈ ni_tb := ni_in 2304 (by decide +kernel) (by decide +kernel)
theorem ni_w2305 : Cond.methodLink "SwitchyardModel" 340 yX15_copy ∈ ni_tb := ni_in 2305 (by decide +kernel) (by decide +kernel)
theorem ni_w2306 : Cond.instanceMethod yX15_copy ∈ ni_tb := ni_in 2306 (by decide +kernel) (by decide +kernel)
theorem ni_w2307 : Cond.selects "SwitchyardModel$Net" yX15_copy yX15_copy ∈ ni_tb := ni_in 2307 (by decide +kernel) (by decide +kernel)
theorem ni_w2308 : ni_cw 174 ∈ ni_tb := ni_in 2308 (by decide +kernel) (by decide +kernel)
theorem ni_w2309 : Cond.classLink "SwitchyardModel$Net" 10 "SwitchyardModel$Net" ∈ ni_tb := ni_in 2309 (by decide +kernel) (by decide +kernel)
theorem ni_w2310 : Cond.methodLink "SwitchyardModel$Net" 86 yX15_init ∈ ni_tb := ni_in 2310 (by decide +kernel) (by decide +kernel)
theorem ni_w2328 : Cond.instanceMethod yJx4a65c_addAll_f0b43 ∈ ni_tb := ni_in 2328 (by decide +kernel) (by decide +kernel)
theorem ni_w2329 : Cond.selects "java/util/ArrayList" yJx4a65c_addAll_f0b43 yJx4a65c_addAll_f0b43 ∈ ni_tb := ni_in 2329 (by decide +kernel) (by decide +kernel)
theorem ni_w2330 : ni_cw 182 ∈ ni_tb := ni_in 2330 (by decide +kernel) (by decide +kernel)
theorem ni_w2352 : Cond.classLink "SwitchyardModel$Net" 120 "java/util/Collection" ∈ ni_tb := ni_in 2352 (by decide +kernel) (by decide +kernel)
theorem ni_w2353 : Cond.methodLink "SwitchyardModel$Net" 122 yJx4a65c_addAll_f0b43 ∈ ni_tb := ni_in 2353 (by decide +kernel) (by decide +kernel)
theorem ni_w2354 : Cond.methodLink "SwitchyardLaw" 326 yX19_settledIn ∈ ni_tb := ni_in 2354 (by decide +kernel) (by decide +kernel)
theorem ni_w2355 : Cond.instanceMethod yX19_settledIn ∈ ni_tb := ni_in 2355 (by decide +kernel) (by decide +kernel)
theorem ni_w2356 : Cond.selects "SwitchyardModel" yX19_settledIn yX19_settledIn ∈ ni_tb := ni_in 2356 (by decide +kernel) (by decide +kernel)
theorem ni_w2357 : ni_cw 160 ∈ ni_tb := ni_in 2357 (by decide +kernel) (by decide +kernel)
theorem ni_w2358 : Cond.methodLink "SwitchyardLaw" 331 yX19_digest ∈ ni_tb := ni_in 2358 (by decide +kernel) (by decide +kernel)
theorem ni_w2359 : Cond.instanceMethod yX19_digest ∈ ni_tb := ni_in 2359 (by decide +kernel) (by decide +kernel)
theorem ni_w2360 : Cond.selects "SwitchyardModel" yX19_digest yX19_digest ∈ ni_tb := ni_in 2360 (by decide +kernel) (by decide +kernel)
theorem ni_w2361 : ni_cw 121 ∈ ni_tb := ni_in 2361 (by decide +kernel) (by decide +kernel)
theorem ni_w2362 : Cond.constantLong "SwitchyardModel" 346 (58026) ∈ ni_tb := ni_in 2362 (by decide +kernel) (by decide +kernel)
theorem ni_w2363 : Cond.methodLink "SwitchyardModel" 348 yX19_add ∈ ni_tb := ni_in 2363 (by decide +kernel) (by decide +kernel)
theorem ni_w2364 : Cond.static yX19_add ∈ ni_tb := ni_in 2364 (by decide +kernel) (by decide +kernel)
theorem ni_w2365 : ni_cw 111 ∈ ni_tb := ni_in 2365 (by decide +kernel) (by decide +kernel)
theorem ni_w2366 : Cond.constantLong "SwitchyardModel" 344 (31) ∈ ni_tb := ni_in 2366 (by decide +kernel) (by decide +kernel)
theorem ni_w2367 : Cond.arrayClass .long ∈ ni_tb := ni_in 2367 (by decide +kernel) (by decide +kernel)
theorem ni_w2368 : Cond.arrayClass .double ∈ ni_tb := ni_in 2368 (by decide +kernel) (by decide +kernel)
theorem ni_uJx4a65c : ∀ z ∈ u_ws RJx4a65c TJx4a65c 3, z ∈ ni_tb := by
  have h : u_ws RJx4a65c TJx4a65c 3 = [1402, 1398, 1400].filterMap (fun i => lw_tbl[i]?) := by decide +kernel
  have g : (u_ws RJx4a65c TJx4a65c 3).all goodWord = true := by decide +kernel
  intro z hz
  refine List.mem_filter.mpr ⟨?_, List.all_eq_true.mp g z hz⟩
  rw [h] at hz
  obtain ⟨i, -, hi⟩ := List.mem_filterMap.mp hz
  exact List.mem_of_getElem? hi
theorem ni_uX0 : ∀ z ∈ u_ws RX0 TX0 19, z ∈ ni_tb := by
  have h : u_ws RX0 TX0 19 = [189, 191, 193, 195, 197, 199, 201, 203, 205, 207, 209, 211, 213, 215, 217, 219, 221, 223, 225].filterMap (fun i => lw_tbl[i]?) := by decide +kernel
  have g : (u_ws RX0 TX0 19).all goodWord = true := by decide +kernel
  intro z hz
  refine List.mem_filter.mpr ⟨?_, List.all_eq_true.mp g z hz⟩
  rw [h] at hz
  obtain ⟨i, -, hi⟩ := List.mem_filterMap.mp hz
  exact List.mem_of_getElem? hi
theorem ni_uX1 : ∀ z ∈ u_ws RX1 TX1 5, z ∈ ni_tb := by
  have h : u_ws RX1 TX1 5 = [372, 374, 376, 378, 380].filterMap (fun i => lw_tbl[i]?) := by decide +kernel
  have g : (u_ws RX1 TX1 5).all goodWord = true := by decide +kernel
  intro z hz
  refine List.mem_filter.mpr ⟨?_, List.all_eq_true.mp g z hz⟩
  rw [h] at hz
  obtain ⟨i, -, hi⟩ := List.mem_filterMap.mp hz
  exact List.mem_of_getElem? hi
theorem ni_uX2 : ∀ z ∈ u_ws RX2 TX2 5, z ∈ ni_tb := by
  have h : u_ws RX2 TX2 5 = [256, 258, 260, 262, 264].filterMap (fun i => lw_tbl[i]?) := by decide +kernel
  have g : (u_ws RX2 TX2 5).all goodWord = true := by decide +kernel
  intro z hz
  refine List.mem_filter.mpr ⟨?_, List.all_eq_true.mp g z hz⟩
  rw [h] at hz
  obtain ⟨i, -, hi⟩ := List.mem_filterMap.mp hz
  exact List.mem_of_getElem? hi
theorem ni_uX3 : ∀ z ∈ u_ws RX3 TX3 8, z ∈ ni_tb := by
  have h : u_ws RX3 TX3 8 = [337, 339, 341, 343, 345, 347, 349, 351].filterMap (fun i => lw_tbl[i]?) := by decide +kernel
  have g : (u_ws RX3 TX3 8).all goodWord = true := by decide +kernel
  intro z hz
  refine List.mem_filter.mpr ⟨?_, List.all_eq_true.mp g z hz⟩
  rw [h] at hz
  obtain ⟨i, -, hi⟩ := List.mem_filterMap.mp hz
  exact List.mem_of_getElem? hi
theorem ni_uX4 : ∀ z ∈ u_ws RX4 TX4 9, z ∈ ni_tb := by
  have h : u_ws RX4 TX4 9 = [457, 459, 461, 463, 465, 467, 469, 471, 473].filterMap (fun i => lw_tbl[i]?) := by decide +kernel
  have g : (u_ws RX4 TX4 9).all goodWord = true := by decide +kernel
  intro z hz
  refine List.mem_filter.mpr ⟨?_, List.all_eq_true.mp g z hz⟩
  rw [h] at hz
  obtain ⟨i, -, hi⟩ := List.mem_filterMap.mp hz
  exact List.mem_of_getElem? hi
theorem ni_uX6 : ∀ z ∈ u_ws RX6 TX6 14, z ∈ ni_tb := by
  have h : u_ws RX6 TX6 14 = [288, 290, 292, 294, 296, 298, 300, 302, 304, 306, 308, 310, 312, 314].filterMap (fun i => lw_tbl[i]?) := by decide +kernel
  have g : (u_ws RX6 TX6 14).all goodWord = true := by decide +kernel
  intro z hz
  refine List.mem_filter.mpr ⟨?_, List.all_eq_true.mp g z hz⟩
  rw [h] at hz
  obtain ⟨i, -, hi⟩ := List.mem_filterMap.mp hz
  exact List.mem_of_getElem? hi
theorem ni_uX8 : ∀ z ∈ u_ws RX8 TX8 4, z ∈ ni_tb := by
  have h : u_ws RX8 TX8 4 = [134, 136, 138, 140].filterMap (fun i => lw_tbl[i]?) := by decide +kernel
  have g : (u_ws RX8 TX8 4).all goodWord = true := by decide +kernel
  intro z hz
  refine List.mem_filter.mpr ⟨?_, List.all_eq_true.mp g z hz⟩
  rw [h] at hz
  obtain ⟨i, -, hi⟩ := List.mem_filterMap.mp hz
  exact List.mem_of_getElem? hi
theorem ni_uX9 : ∀ z ∈ u_ws RX9 TX9 6, z ∈ ni_tb := by
  have h : u_ws RX9 TX9 6 = [426, 428, 430, 432, 434, 436].filterMap (fun i => lw_tbl[i]?) := by decide +kernel
  have g : (u_ws RX9 TX9 6).all goodWord = true := by decide +kernel
  intro z hz
  refine List.mem_filter.mpr ⟨?_, List.all_eq_true.mp g z hz⟩
  rw [h] at hz
  obtain ⟨i, -, hi⟩ := List.mem_filterMap.mp hz
  exact List.mem_of_getElem? hi
theorem ni_uX10 : ∀ z ∈ u_ws RX10 TX10 4, z ∈ ni_tb := by
  have h : u_ws RX10 TX10 4 = [404, 406, 408, 410].filterMap (fun i => lw_tbl[i]?) := by decide +kernel
  have g : (u_ws RX10 TX10 4).all goodWord = true := by decide +kernel
  intro z hz
  refine List.mem_filter.mpr ⟨?_, List.all_eq_true.mp g z hz⟩
  rw [h] at hz
  obtain ⟨i, -, hi⟩ := List.mem_filterMap.mp hz
  exact List.mem_of_getElem? hi
theorem ni_uX11 : ∀ z ∈ u_ws RX11 TX11 2, z ∈ ni_tb := by
  have h : u_ws RX11 TX11 2 = [478, 480].filterMap (fun i => lw_tbl[i]?) := by decide +kernel
  have g : (u_ws RX11 TX11 2).all goodWord = true := by decide +kernel
  intro z hz
  refine List.mem_filter.mpr ⟨?_, List.all_eq_true.mp g z hz⟩
  rw [h] at hz
  obtain ⟨i, -, hi⟩ := List.mem_filterMap.mp hz
  exact List.mem_of_getElem? hi
theorem ni_uX12 : ∀ z ∈ u_ws RX12 TX12 4, z ∈ ni_tb := by
  have h : u_ws RX12 TX12 4 = [2091, 2093, 2095, 2097].filterMap (fun i => lw_tbl[i]?) := by decide +kernel
  have g : (u_ws RX12 TX12 4).all goodWord = true := by decide +kernel
  intro z hz
  refine List.mem_filter.mpr ⟨?_, List.all_eq_true.mp g z hz⟩
  rw [h] at hz
  obtain ⟨i, -, hi⟩ := List.mem_filterMap.mp hz
  exact List.mem_of_getElem? hi
theorem ni_uX13 : ∀ z ∈ u_ws RX13 TX13 20, z ∈ ni_tb := by
  have h : u_ws RX13 TX13 20 = [1917, 1919, 1921, 1923, 1925, 1927, 1929, 1931, 1933, 1935, 1937, 1939, 1941, 1943, 1945, 1947, 1949, 1951, 1953, 1955].filterMap (fun i => lw_tbl[i]?) := by decide +kernel
  have g : (u_ws RX13 TX13 20).all goodWord = true := by decide +kernel
  intro z hz
  refine List.mem_filter.mpr ⟨?_, List.all_eq_true.mp g z hz⟩
  rw [h] at hz
  obtain ⟨i, -, hi⟩ := List.mem_filterMap.mp hz
  exact List.mem_of_getElem? hi
theorem ni_uX14 : ∀ z ∈ u_ws RX14 TX14 6, z ∈ ni_tb := by
  have h : u_ws RX14 TX14 6 = [1708, 1710, 1712, 1714, 1716, 1718].filterMap (fun i => lw_tbl[i]?) := by decide +kernel
  have g : (u_ws RX14 TX14 6).all goodWord = true := by decide +kernel
  intro z hz
  refine List.mem_filter.mpr ⟨?_, List.all_eq_true.mp g z hz⟩
  rw [h] at hz
  obtain ⟨i, -, hi⟩ := List.mem_filterMap.mp hz
  exact List.mem_of_getElem? hi
theorem ni_uX15 : ∀ z ∈ u_ws RX15 TX15 24, z ∈ ni_tb := by
  have h : u_ws RX15 TX15 24 = [1520, 1522, 1524, 1526, 1528, 1530, 1532, 1534, 1536, 1538, 1540, 1542, 1544, 1546, 1548, 1550, 1552, 1554, 1556, 1558, 1560, 1562, 1564, 1566].filterMap (fun i => lw_tbl[i]?) := by decide +kernel
  have g : (u_ws RX15 TX15 24).all goodWord = true := by decide +kernel
  intro z hz
  refine List.mem_filter.mpr ⟨?_, List.all_eq_true.mp g z hz⟩
  rw [h] at hz
  obtain ⟨i, -, hi⟩ := List.mem_filterMap.mp hz
  exact List.mem_of_getElem? hi
theorem ni_uX16 : ∀ z ∈ u_ws RX16 TX16 5, z ∈ ni_tb := by
  have h : u_ws RX16 TX16 5 = [2043, 2045, 2047, 2049, 2051].filterMap (fun i => lw_tbl[i]?) := by decide +kernel
  have g : (u_ws RX16 TX16 5).all goodWord = true := by decide +kernel
  intro z hz
  refine List.mem_filter.mpr ⟨?_, List.all_eq_true.mp g z hz⟩
  rw [h] at hz
  obtain ⟨i, -, hi⟩ := List.mem_filterMap.mp hz
  exact List.mem_of_getElem? hi
theorem ni_uX17 : ∀ z ∈ u_ws RX17 TX17 13, z ∈ ni_tb := by
  have h : u_ws RX17 TX17 13 = [1650, 1652, 1654, 1656, 1658, 1660, 1662, 1664, 1666, 1668, 1670, 1672, 1674].filterMap (fun i => lw_tbl[i]?) := by decide +kernel
  have g : (u_ws RX17 TX17 13).all goodWord = true := by decide +kernel
  intro z hz
  refine List.mem_filter.mpr ⟨?_, List.all_eq_true.mp g z hz⟩
  rw [h] at hz
  obtain ⟨i, -, hi⟩ := List.mem_filterMap.mp hz
  exact List.mem_of_getElem? hi
theorem ni_uX18 : ∀ z ∈ u_ws RX18 TX18 2, z ∈ ni_tb := by
  have h : u_ws RX18 TX18 2 = [1743, 1745].filterMap (fun i => lw_tbl[i]?) := by decide +kernel
  have g : (u_ws RX18 TX18 2).all goodWord = true := by decide +kernel
  intro z hz
  refine List.mem_filter.mpr ⟨?_, List.all_eq_true.mp g z hz⟩
  rw [h] at hz
  obtain ⟨i, -, hi⟩ := List.mem_filterMap.mp hz
  exact List.mem_of_getElem? hi
theorem ni_uX19 : ∀ z ∈ u_ws RX19 TX19 2, z ∈ ni_tb := by
  have h : u_ws RX19 TX19 2 = [1571, 1573].filterMap (fun i => lw_tbl[i]?) := by decide +kernel
  have g : (u_ws RX19 TX19 2).all goodWord = true := by decide +kernel
  intro z hz
  refine List.mem_filter.mpr ⟨?_, List.all_eq_true.mp g z hz⟩
  rw [h] at hz
  obtain ⟨i, -, hi⟩ := List.mem_filterMap.mp hz
  exact List.mem_of_getElem? hi
end NIW
end
section
theorem ni_dX11_init_0 : decode cX11_init 0 = .ok (.aload_n 0, 1) := by decide +kernel
theorem ni_dX11_init_1 : decode cX11_init 1 = .ok (.invokespecial 1, 3) := by decide +kernel
theorem ni_dX11_init_4 : decode cX11_init 4 = .ok (.aload_n 0, 1) := by decide +kernel
theorem ni_dX11_init_5 : decode cX11_init 5 = .ok (.new 7, 3) := by decide +kernel
theorem ni_dX11_init_8 : decode cX11_init 8 = .ok (.dup, 1) := by decide +kernel
theorem ni_dX11_init_9 : decode cX11_init 9 = .ok (.invokespecial 9, 3) := by decide +kernel
theorem ni_dX11_init_12 : decode cX11_init 12 = .ok (.putfield 10, 3) := by decide +kernel
theorem ni_dX11_init_15 : decode cX11_init 15 = .ok (.aload_n 0, 1) := by decide +kernel
theorem ni_dX11_init_16 : decode cX11_init 16 = .ok (.new 7, 3) := by decide +kernel
theorem ni_dX11_init_19 : decode cX11_init 19 = .ok (.dup, 1) := by decide +kernel
theorem ni_dX11_init_20 : decode cX11_init 20 = .ok (.invokespecial 9, 3) := by decide +kernel
theorem ni_dX11_init_23 : decode cX11_init 23 = .ok (.putfield 16, 3) := by decide +kernel
theorem ni_dX11_init_26 : decode cX11_init 26 = .ok (.return_, 1) := by decide +kernel
theorem ni_dX11_addFlow_0 : decode cX11_addFlow 0 = .ok (.aload_n 0, 1) := by decide +kernel
theorem ni_dX11_addFlow_1 : decode cX11_addFlow 1 = .ok (.iload_n 1, 1) := by decide +kernel
theorem ni_dX11_addFlow_2 : decode cX11_addFlow 2 = .ok (.invokevirtual 34, 3) := by decide +kernel
theorem ni_dX11_addLink_0 : decode cX11_addLink 0 = .ok (.aload_n 0, 1) := by decide +kernel
theorem ni_dX11_addLink_1 : decode cX11_addLink 1 = .ok (.iload_n 1, 1) := by decide +kernel
theorem ni_dX11_addLink_2 : decode cX11_addLink 2 = .ok (.invokevirtual 34, 3) := by decide +kernel
theorem ni_dX11_addNetwork_0 : decode cX11_addNetwork 0 = .ok (.aload_n 0, 1) := by decide +kernel
theorem ni_dX11_addNetwork_1 : decode cX11_addNetwork 1 = .ok (.iload_n 1, 1) := by decide +kernel
theorem ni_dX11_addNetwork_2 : decode cX11_addNetwork 2 = .ok (.invokevirtual 34, 3) := by decide +kernel
theorem ni_dX11_addRouter_0 : decode cX11_addRouter 0 = .ok (.aload_n 0, 1) := by decide +kernel
theorem ni_dX11_addRouter_1 : decode cX11_addRouter 1 = .ok (.getfield 10, 3) := by decide +kernel
theorem ni_dX11_addRouter_4 : decode cX11_addRouter 4 = .ok (.getfield 19, 3) := by decide +kernel
theorem ni_dX11_addRouter_7 : decode cX11_addRouter 7 = .ok (.bipush 8, 2) := by decide +kernel
theorem ni_dX11_addRouter_9 : decode cX11_addRouter 9 = .ok (.if_icmp .lt 13, 3) := by decide +kernel
theorem ni_dX11_addRouter_22 : decode cX11_addRouter 22 = .ok (.aload_n 0, 1) := by decide +kernel
theorem ni_dX11_addRouter_23 : decode cX11_addRouter 23 = .ok (.getfield 10, 3) := by decide +kernel
theorem ni_dX11_addRouter_26 : decode cX11_addRouter 26 = .ok (.invokevirtual 30, 3) := by decide +kernel
theorem ni_dX11_addRouter_29 : decode cX11_addRouter 29 = .ok (.ireturn, 1) := by decide +kernel
theorem ni_dX11_addStatic_0 : decode cX11_addStatic 0 = .ok (.aload_n 0, 1) := by decide +kernel
theorem ni_dX11_addStatic_1 : decode cX11_addStatic 1 = .ok (.iload_n 1, 1) := by decide +kernel
theorem ni_dX11_addStatic_2 : decode cX11_addStatic 2 = .ok (.invokevirtual 34, 3) := by decide +kernel
theorem ni_dX11_checkFlow_0 : decode cX11_checkFlow 0 = .ok (.iload_n 1, 1) := by decide +kernel
theorem ni_dX11_checkFlow_1 : decode cX11_checkFlow 1 = .ok (.aload_n 0, 1) := by decide +kernel
theorem ni_dX11_checkFlow_2 : decode cX11_checkFlow 2 = .ok (.getfield 10, 3) := by decide +kernel
theorem ni_dX11_checkFlow_5 : decode cX11_checkFlow 5 = .ok (.getfield 153, 3) := by decide +kernel
theorem ni_dX11_checkFlow_8 : decode cX11_checkFlow 8 = .ok (.invokestatic 108, 3) := by decide +kernel
theorem ni_dX11_checkIndex_0 : decode cX11_checkIndex 0 = .ok (.iload_n 0, 1) := by decide +kernel
theorem ni_dX11_checkIndex_1 : decode cX11_checkIndex 1 = .ok (.ifCond .lt 8, 3) := by decide +kernel
theorem ni_dX11_checkIndex_4 : decode cX11_checkIndex 4 = .ok (.iload_n 0, 1) := by decide +kernel
theorem ni_dX11_checkIndex_5 : decode cX11_checkIndex 5 = .ok (.iload_n 1, 1) := by decide +kernel
theorem ni_dX11_checkIndex_6 : decode cX11_checkIndex 6 = .ok (.if_icmp .lt 14, 3) := by decide +kernel
theorem ni_dX11_checkIndex_9 : decode cX11_checkIndex 9 = .ok (.new 328, 3) := by decide +kernel
theorem ni_dX11_checkIndex_12 : decode cX11_checkIndex 12 = .ok (.dup, 1) := by decide +kernel
theorem ni_dX11_checkIndex_13 : decode cX11_checkIndex 13 = .ok (.ldc_w 330, 3) := by decide +kernel
theorem ni_dX11_checkIndex_16 : decode cX11_checkIndex 16 = .ok (.invokespecial 332, 3) := by decide +kernel
theorem ni_dX11_checkIndex_19 : decode cX11_checkIndex 19 = .ok (.athrow, 1) := by decide +kernel
theorem ni_dX11_checkLink_0 : decode cX11_checkLink 0 = .ok (.iload_n 1, 1) := by decide +kernel
theorem ni_dX11_checkLink_1 : decode cX11_checkLink 1 = .ok (.aload_n 0, 1) := by decide +kernel
theorem ni_dX11_checkLink_2 : decode cX11_checkLink 2 = .ok (.getfield 10, 3) := by decide +kernel
theorem ni_dX11_checkLink_5 : decode cX11_checkLink 5 = .ok (.getfield 47, 3) := by decide +kernel
theorem ni_dX11_checkLink_8 : decode cX11_checkLink 8 = .ok (.invokestatic 108, 3) := by decide +kernel
theorem ni_dX11_checkRange_0 : decode cX11_checkRange 0 = .ok (.iload_n 0, 1) := by decide +kernel
theorem ni_dX11_checkRange_1 : decode cX11_checkRange 1 = .ok (.iload_n 1, 1) := by decide +kernel
theorem ni_dX11_checkRange_2 : decode cX11_checkRange 2 = .ok (.if_icmp .lt 8, 3) := by decide +kernel
theorem ni_dX11_checkRange_5 : decode cX11_checkRange 5 = .ok (.iload_n 0, 1) := by decide +kernel
theorem ni_dX11_checkRange_6 : decode cX11_checkRange 6 = .ok (.iload_n 2, 1) := by decide +kernel
theorem ni_dX11_checkRange_7 : decode cX11_checkRange 7 = .ok (.if_icmp .le 14, 3) := by decide +kernel
theorem ni_dX11_checkRange_10 : decode cX11_checkRange 10 = .ok (.new 38, 3) := by decide +kernel
theorem ni_dX11_checkRange_13 : decode cX11_checkRange 13 = .ok (.dup, 1) := by decide +kernel
theorem ni_dX11_checkRange_14 : decode cX11_checkRange 14 = .ok (.ldc_w 333, 3) := by decide +kernel
theorem ni_dX11_checkRange_17 : decode cX11_checkRange 17 = .ok (.invokespecial 42, 3) := by decide +kernel
theorem ni_dX11_checkRange_20 : decode cX11_checkRange 20 = .ok (.athrow, 1) := by decide +kernel
theorem ni_dX11_checkRange_21 : decode cX11_checkRange 21 = .ok (.return_, 1) := by decide +kernel
theorem ni_dX11_checkRouter_0 : decode cX11_checkRouter 0 = .ok (.iload_n 1, 1) := by decide +kernel
theorem ni_dX11_checkRouter_1 : decode cX11_checkRouter 1 = .ok (.aload_n 0, 1) := by decide +kernel
theorem ni_dX11_checkRouter_2 : decode cX11_checkRouter 2 = .ok (.getfield 10, 3) := by decide +kernel
theorem ni_dX11_checkRouter_5 : decode cX11_checkRouter 5 = .ok (.getfield 19, 3) := by decide +kernel
theorem ni_dX11_checkRouter_8 : decode cX11_checkRouter 8 = .ok (.invokestatic 108, 3) := by decide +kernel
theorem ni_dX11_deficit_0 : decode cX11_deficit 0 = .ok (.aload_n 0, 1) := by decide +kernel
theorem ni_dX11_deficit_1 : decode cX11_deficit 1 = .ok (.iload_n 1, 1) := by decide +kernel
theorem ni_dX11_deficit_2 : decode cX11_deficit 2 = .ok (.invokevirtual 56, 3) := by decide +kernel
theorem ni_dX11_delivered_0 : decode cX11_delivered 0 = .ok (.aload_n 0, 1) := by decide +kernel
theorem ni_dX11_delivered_1 : decode cX11_delivered 1 = .ok (.iload_n 1, 1) := by decide +kernel
theorem ni_dX11_delivered_2 : decode cX11_delivered 2 = .ok (.invokevirtual 162, 3) := by decide +kernel
theorem ni_dX11_deliveredIn_0 : decode cX11_deliveredIn 0 = .ok (.aload_n 0, 1) := by decide +kernel
theorem ni_dX11_deliveredIn_1 : decode cX11_deliveredIn 1 = .ok (.iload_n 1, 1) := by decide +kernel
theorem ni_dX11_deliveredIn_2 : decode cX11_deliveredIn 2 = .ok (.invokevirtual 162, 3) := by decide +kernel
theorem ni_dX11_digest_0 : decode cX11_digest 0 = .ok (.ldc2_w 301, 3) := by decide +kernel
theorem ni_dX11_digest_3 : decode cX11_digest 3 = .ok (.lstore_n 1, 1) := by decide +kernel
theorem ni_dX11_digest_4 : decode cX11_digest 4 = .ok (.lload_n 1, 1) := by decide +kernel
theorem ni_dX11_digest_5 : decode cX11_digest 5 = .ok (.ldc2_w 303, 3) := by decide +kernel
theorem ni_dX11_digest_8 : decode cX11_digest 8 = .ok (.lmul, 1) := by decide +kernel
theorem ni_dX11_digest_9 : decode cX11_digest 9 = .ok (.aload_n 0, 1) := by decide +kernel
theorem ni_dX11_digest_10 : decode cX11_digest 10 = .ok (.getfield 10, 3) := by decide +kernel
theorem ni_dX11_digest_13 : decode cX11_digest 13 = .ok (.getfield 165, 3) := by decide +kernel
theorem ni_dX11_digest_16 : decode cX11_digest 16 = .ok (.i2l, 1) := by decide +kernel
theorem ni_dX11_digest_17 : decode cX11_digest 17 = .ok (.ladd, 1) := by decide +kernel
theorem ni_dX11_digest_18 : decode cX11_digest 18 = .ok (.lstore_n 1, 1) := by decide +kernel
theorem ni_dX11_digest_19 : decode cX11_digest 19 = .ok (.lload_n 1, 1) := by decide +kernel
theorem ni_dX11_digest_20 : decode cX11_digest 20 = .ok (.ldc2_w 303, 3) := by decide +kernel
theorem ni_dX11_digest_23 : decode cX11_digest 23 = .ok (.lmul, 1) := by decide +kernel
theorem ni_dX11_digest_24 : decode cX11_digest 24 = .ok (.aload_n 0, 1) := by decide +kernel
theorem ni_dX11_digest_25 : decode cX11_digest 25 = .ok (.getfield 10, 3) := by decide +kernel
theorem ni_dX11_digest_28 : decode cX11_digest 28 = .ok (.getfield 19, 3) := by decide +kernel
theorem ni_dX11_digest_31 : decode cX11_digest 31 = .ok (.i2l, 1) := by decide +kernel
theorem ni_dX11_digest_32 : decode cX11_digest 32 = .ok (.ladd, 1) := by decide +kernel
theorem ni_dX11_digest_33 : decode cX11_digest 33 = .ok (.lstore_n 1, 1) := by decide +kernel
theorem ni_dX11_digest_34 : decode cX11_digest 34 = .ok (.lload_n 1, 1) := by decide +kernel
theorem ni_dX11_digest_35 : decode cX11_digest 35 = .ok (.ldc2_w 303, 3) := by decide +kernel
theorem ni_dX11_digest_38 : decode cX11_digest 38 = .ok (.lmul, 1) := by decide +kernel
theorem ni_dX11_digest_39 : decode cX11_digest 39 = .ok (.aload_n 0, 1) := by decide +kernel
theorem ni_dX11_digest_40 : decode cX11_digest 40 = .ok (.getfield 10, 3) := by decide +kernel
theorem ni_dX11_digest_43 : decode cX11_digest 43 = .ok (.getfield 47, 3) := by decide +kernel
theorem ni_dX11_digest_46 : decode cX11_digest 46 = .ok (.i2l, 1) := by decide +kernel
theorem ni_dX11_digest_47 : decode cX11_digest 47 = .ok (.ladd, 1) := by decide +kernel
theorem ni_dX11_digest_48 : decode cX11_digest 48 = .ok (.lstore_n 1, 1) := by decide +kernel
theorem ni_dX11_digest_49 : decode cX11_digest 49 = .ok (.lload_n 1, 1) := by decide +kernel
theorem ni_dX11_digest_50 : decode cX11_digest 50 = .ok (.ldc2_w 303, 3) := by decide +kernel
theorem ni_dX11_digest_53 : decode cX11_digest 53 = .ok (.lmul, 1) := by decide +kernel
theorem ni_dX11_digest_54 : decode cX11_digest 54 = .ok (.aload_n 0, 1) := by decide +kernel
theorem ni_dX11_digest_55 : decode cX11_digest 55 = .ok (.getfield 10, 3) := by decide +kernel
theorem ni_dX11_digest_58 : decode cX11_digest 58 = .ok (.getfield 88, 3) := by decide +kernel
theorem ni_dX11_digest_61 : decode cX11_digest 61 = .ok (.getfield 92, 3) := by decide +kernel
theorem ni_dX11_digest_64 : decode cX11_digest 64 = .ok (.i2l, 1) := by decide +kernel
theorem ni_dX11_digest_65 : decode cX11_digest 65 = .ok (.ladd, 1) := by decide +kernel
theorem ni_dX11_digest_66 : decode cX11_digest 66 = .ok (.lstore_n 1, 1) := by decide +kernel
theorem ni_dX11_digest_67 : decode cX11_digest 67 = .ok (.lload_n 1, 1) := by decide +kernel
theorem ni_dX11_digest_68 : decode cX11_digest 68 = .ok (.ldc2_w 303, 3) := by decide +kernel
theorem ni_dX11_digest_71 : decode cX11_digest 71 = .ok (.lmul, 1) := by decide +kernel
theorem ni_dX11_digest_72 : decode cX11_digest 72 = .ok (.aload_n 0, 1) := by decide +kernel
theorem ni_dX11_digest_73 : decode cX11_digest 73 = .ok (.getfield 10, 3) := by decide +kernel
theorem ni_dX11_digest_76 : decode cX11_digest 76 = .ok (.getfield 121, 3) := by decide +kernel
theorem ni_dX11_digest_79 : decode cX11_digest 79 = .ok (.getfield 92, 3) := by decide +kernel
theorem ni_dX11_digest_82 : decode cX11_digest 82 = .ok (.i2l, 1) := by decide +kernel
theorem ni_dX11_digest_83 : decode cX11_digest 83 = .ok (.ladd, 1) := by decide +kernel
theorem ni_dX11_digest_84 : decode cX11_digest 84 = .ok (.lstore_n 1, 1) := by decide +kernel
theorem ni_dX11_digest_85 : decode cX11_digest 85 = .ok (.lload_n 1, 1) := by decide +kernel
theorem ni_dX11_digest_86 : decode cX11_digest 86 = .ok (.ldc2_w 303, 3) := by decide +kernel
theorem ni_dX11_digest_89 : decode cX11_digest 89 = .ok (.lmul, 1) := by decide +kernel
theorem ni_dX11_digest_90 : decode cX11_digest 90 = .ok (.aload_n 0, 1) := by decide +kernel
theorem ni_dX11_digest_91 : decode cX11_digest 91 = .ok (.getfield 10, 3) := by decide +kernel
theorem ni_dX11_digest_94 : decode cX11_digest 94 = .ok (.getfield 153, 3) := by decide +kernel
theorem ni_dX11_digest_97 : decode cX11_digest 97 = .ok (.i2l, 1) := by decide +kernel
theorem ni_dX11_digest_98 : decode cX11_digest 98 = .ok (.ladd, 1) := by decide +kernel
theorem ni_dX11_digest_99 : decode cX11_digest 99 = .ok (.lstore_n 1, 1) := by decide +kernel
theorem ni_dX11_digest_100 : decode cX11_digest 100 = .ok (.lload_n 1, 1) := by decide +kernel
theorem ni_dX11_digest_101 : decode cX11_digest 101 = .ok (.ldc2_w 303, 3) := by decide +kernel
theorem ni_dX11_digest_104 : decode cX11_digest 104 = .ok (.lmul, 1) := by decide +kernel
theorem ni_dX11_digest_105 : decode cX11_digest 105 = .ok (.aload_n 0, 1) := by decide +kernel
theorem ni_dX11_digest_106 : decode cX11_digest 106 = .ok (.getfield 10, 3) := by decide +kernel
theorem ni_dX11_digest_109 : decode cX11_digest 109 = .ok (.invokevirtual 216, 3) := by decide +kernel
theorem ni_dX11_digest_112 : decode cX11_digest 112 = .ok (.i2l, 1) := by decide +kernel
theorem ni_dX11_digest_113 : decode cX11_digest 113 = .ok (.ladd, 1) := by decide +kernel
theorem ni_dX11_digest_114 : decode cX11_digest 114 = .ok (.lstore_n 1, 1) := by decide +kernel
theorem ni_dX11_digest_115 : decode cX11_digest 115 = .ok (.iconst 0, 1) := by decide +kernel
theorem ni_dX11_digest_116 : decode cX11_digest 116 = .ok (.istore_n 3, 1) := by decide +kernel
theorem ni_dX11_digest_117 : decode cX11_digest 117 = .ok (.iload_n 3, 1) := by decide +kernel
theorem ni_dX11_digest_118 : decode cX11_digest 118 = .ok (.aload_n 0, 1) := by decide +kernel
theorem ni_dX11_digest_119 : decode cX11_digest 119 = .ok (.getfield 10, 3) := by decide +kernel
theorem ni_dX11_digest_122 : decode cX11_digest 122 = .ok (.getfield 19, 3) := by decide +kernel
theorem ni_dX11_digest_125 : decode cX11_digest 125 = .ok (.if_icmp .ge 24, 3) := by decide +kernel
theorem ni_dX11_digest_149 : decode cX11_digest 149 = .ok (.iconst 0, 1) := by decide +kernel
theorem ni_dX11_digest_150 : decode cX11_digest 150 = .ok (.istore_n 3, 1) := by decide +kernel
theorem ni_dX11_digest_151 : decode cX11_digest 151 = .ok (.iload_n 3, 1) := by decide +kernel
theorem ni_dX11_digest_152 : decode cX11_digest 152 = .ok (.aload_n 0, 1) := by decide +kernel
theorem ni_dX11_digest_153 : decode cX11_digest 153 = .ok (.getfield 10, 3) := by decide +kernel
theorem ni_dX11_digest_156 : decode cX11_digest 156 = .ok (.getfield 47, 3) := by decide +kernel
theorem ni_dX11_digest_159 : decode cX11_digest 159 = .ok (.if_icmp .ge 23, 3) := by decide +kernel
theorem ni_dX11_digest_182 : decode cX11_digest 182 = .ok (.iconst 0, 1) := by decide +kernel
theorem ni_dX11_digest_183 : decode cX11_digest 183 = .ok (.istore_n 3, 1) := by decide +kernel
theorem ni_dX11_digest_184 : decode cX11_digest 184 = .ok (.iload_n 3, 1) := by decide +kernel
theorem ni_dX11_digest_185 : decode cX11_digest 185 = .ok (.aload_n 0, 1) := by decide +kernel
theorem ni_dX11_digest_186 : decode cX11_digest 186 = .ok (.getfield 10, 3) := by decide +kernel
theorem ni_dX11_digest_189 : decode cX11_digest 189 = .ok (.getfield 153, 3) := by decide +kernel
theorem ni_dX11_digest_192 : decode cX11_digest 192 = .ok (.if_icmp .ge 16, 3) := by decide +kernel
theorem ni_dX11_digest_208 : decode cX11_digest 208 = .ok (.lload_n 1, 1) := by decide +kernel
theorem ni_dX11_digest_209 : decode cX11_digest 209 = .ok (.lreturn, 1) := by decide +kernel
theorem ni_dX11_distance_0 : decode cX11_distance 0 = .ok (.aload_n 0, 1) := by decide +kernel
theorem ni_dX11_distance_1 : decode cX11_distance 1 = .ok (.iload_n 1, 1) := by decide +kernel
theorem ni_dX11_distance_2 : decode cX11_distance 2 = .ok (.invokevirtual 34, 3) := by decide +kernel
theorem ni_dX11_dropNetwork_0 : decode cX11_dropNetwork 0 = .ok (.iload_n 1, 1) := by decide +kernel
theorem ni_dX11_dropNetwork_1 : decode cX11_dropNetwork 1 = .ok (.aload_n 0, 1) := by decide +kernel
theorem ni_dX11_dropNetwork_2 : decode cX11_dropNetwork 2 = .ok (.getfield 10, 3) := by decide +kernel
theorem ni_dX11_dropNetwork_5 : decode cX11_dropNetwork 5 = .ok (.getfield 88, 3) := by decide +kernel
theorem ni_dX11_dropNetwork_8 : decode cX11_dropNetwork 8 = .ok (.getfield 92, 3) := by decide +kernel
theorem ni_dX11_dropNetwork_11 : decode cX11_dropNetwork 11 = .ok (.invokestatic 108, 3) := by decide +kernel
theorem ni_dX11_dropStatic_0 : decode cX11_dropStatic 0 = .ok (.iload_n 1, 1) := by decide +kernel
theorem ni_dX11_dropStatic_1 : decode cX11_dropStatic 1 = .ok (.aload_n 0, 1) := by decide +kernel
theorem ni_dX11_dropStatic_2 : decode cX11_dropStatic 2 = .ok (.getfield 10, 3) := by decide +kernel
theorem ni_dX11_dropStatic_5 : decode cX11_dropStatic 5 = .ok (.getfield 121, 3) := by decide +kernel
theorem ni_dX11_dropStatic_8 : decode cX11_dropStatic 8 = .ok (.getfield 92, 3) := by decide +kernel
theorem ni_dX11_dropStatic_11 : decode cX11_dropStatic 11 = .ok (.invokestatic 108, 3) := by decide +kernel
theorem ni_dX11_dropped_0 : decode cX11_dropped 0 = .ok (.aload_n 0, 1) := by decide +kernel
theorem ni_dX11_dropped_1 : decode cX11_dropped 1 = .ok (.iload_n 1, 1) := by decide +kernel
theorem ni_dX11_dropped_2 : decode cX11_dropped 2 = .ok (.invokevirtual 162, 3) := by decide +kernel
theorem ni_dX11_entries_0 : decode cX11_entries 0 = .ok (.aload_n 0, 1) := by decide +kernel
theorem ni_dX11_entries_1 : decode cX11_entries 1 = .ok (.iload_n 1, 1) := by decide +kernel
theorem ni_dX11_entries_2 : decode cX11_entries 2 = .ok (.invokevirtual 34, 3) := by decide +kernel
theorem ni_dX11_firstLinks_0 : decode cX11_firstLinks 0 = .ok (.aload_n 0, 1) := by decide +kernel
theorem ni_dX11_firstLinks_1 : decode cX11_firstLinks 1 = .ok (.iload_n 1, 1) := by decide +kernel
theorem ni_dX11_firstLinks_2 : decode cX11_firstLinks 2 = .ok (.invokevirtual 34, 3) := by decide +kernel
theorem ni_dX11_flows_0 : decode cX11_flows 0 = .ok (.aload_n 0, 1) := by decide +kernel
theorem ni_dX11_flows_1 : decode cX11_flows 1 = .ok (.getfield 10, 3) := by decide +kernel
theorem ni_dX11_flows_4 : decode cX11_flows 4 = .ok (.getfield 153, 3) := by decide +kernel
theorem ni_dX11_flows_7 : decode cX11_flows 7 = .ok (.ireturn, 1) := by decide +kernel
theorem ni_dX11_found_0 : decode cX11_found 0 = .ok (.aload_n 0, 1) := by decide +kernel
theorem ni_dX11_found_1 : decode cX11_found 1 = .ok (.iload_n 1, 1) := by decide +kernel
theorem ni_dX11_found_2 : decode cX11_found 2 = .ok (.invokevirtual 34, 3) := by decide +kernel
theorem ni_dX11_isSettled_0 : decode cX11_isSettled 0 = .ok (.aload_n 0, 1) := by decide +kernel
theorem ni_dX11_isSettled_1 : decode cX11_isSettled 1 = .ok (.getfield 10, 3) := by decide +kernel
theorem ni_dX11_isSettled_4 : decode cX11_isSettled 4 = .ok (.invokevirtual 216, 3) := by decide +kernel
theorem ni_dX11_isSettled_7 : decode cX11_isSettled 7 = .ok (.ifCond .ne 7, 3) := by decide +kernel
theorem ni_dX11_isSettled_10 : decode cX11_isSettled 10 = .ok (.iconst 1, 1) := by decide +kernel
theorem ni_dX11_isSettled_11 : decode cX11_isSettled 11 = .ok (.goto 4, 3) := by decide +kernel
theorem ni_dX11_isSettled_15 : decode cX11_isSettled 15 = .ok (.ireturn, 1) := by decide +kernel
theorem ni_dX11_isUp_0 : decode cX11_isUp 0 = .ok (.aload_n 0, 1) := by decide +kernel
theorem ni_dX11_isUp_1 : decode cX11_isUp 1 = .ok (.iload_n 1, 1) := by decide +kernel
theorem ni_dX11_isUp_2 : decode cX11_isUp 2 = .ok (.invokevirtual 56, 3) := by decide +kernel
theorem ni_dX11_latest_0 : decode cX11_latest 0 = .ok (.aload_n 0, 1) := by decide +kernel
theorem ni_dX11_latest_1 : decode cX11_latest 1 = .ok (.iload_n 1, 1) := by decide +kernel
theorem ni_dX11_latest_2 : decode cX11_latest 2 = .ok (.invokevirtual 162, 3) := by decide +kernel
theorem ni_dX11_letterOf_0 : decode cX11_letterOf 0 = .ok (.aload_n 0, 1) := by decide +kernel
theorem ni_dX11_letterOf_1 : decode cX11_letterOf 1 = .ok (.iload_n 1, 1) := by decide +kernel
theorem ni_dX11_letterOf_2 : decode cX11_letterOf 2 = .ok (.invokevirtual 34, 3) := by decide +kernel
theorem ni_dX11_letters_0 : decode cX11_letters 0 = .ok (.aload_n 0, 1) := by decide +kernel
theorem ni_dX11_letters_1 : decode cX11_letters 1 = .ok (.getfield 10, 3) := by decide +kernel
theorem ni_dX11_letters_4 : decode cX11_letters 4 = .ok (.invokevirtual 216, 3) := by decide +kernel
theorem ni_dX11_letters_7 : decode cX11_letters 7 = .ok (.ireturn, 1) := by decide +kernel
theorem ni_dX11_links_0 : decode cX11_links 0 = .ok (.aload_n 0, 1) := by decide +kernel
theorem ni_dX11_links_1 : decode cX11_links 1 = .ok (.getfield 10, 3) := by decide +kernel
theorem ni_dX11_links_4 : decode cX11_links 4 = .ok (.getfield 47, 3) := by decide +kernel
theorem ni_dX11_links_7 : decode cX11_links 7 = .ok (.ireturn, 1) := by decide +kernel
theorem ni_dX11_looks_0 : decode cX11_looks 0 = .ok (.aload_n 0, 1) := by decide +kernel
theorem ni_dX11_looks_1 : decode cX11_looks 1 = .ok (.iload_n 1, 1) := by decide +kernel
theorem ni_dX11_looks_2 : decode cX11_looks 2 = .ok (.invokevirtual 34, 3) := by decide +kernel
theorem ni_dX11_meanLate_0 : decode cX11_meanLate 0 = .ok (.aload_n 0, 1) := by decide +kernel
theorem ni_dX11_meanLate_1 : decode cX11_meanLate 1 = .ok (.iload_n 1, 1) := by decide +kernel
theorem ni_dX11_meanLate_2 : decode cX11_meanLate 2 = .ok (.invokevirtual 162, 3) := by decide +kernel
theorem ni_dX11_networks_0 : decode cX11_networks 0 = .ok (.aload_n 0, 1) := by decide +kernel
theorem ni_dX11_networks_1 : decode cX11_networks 1 = .ok (.getfield 10, 3) := by decide +kernel
theorem ni_dX11_networks_4 : decode cX11_networks 4 = .ok (.getfield 88, 3) := by decide +kernel
theorem ni_dX11_networks_7 : decode cX11_networks 7 = .ok (.getfield 92, 3) := by decide +kernel
theorem ni_dX11_networks_10 : decode cX11_networks 10 = .ok (.ireturn, 1) := by decide +kernel
theorem ni_dX11_nextLink_0 : decode cX11_nextLink 0 = .ok (.aload_n 0, 1) := by decide +kernel
theorem ni_dX11_nextLink_1 : decode cX11_nextLink 1 = .ok (.iload_n 1, 1) := by decide +kernel
theorem ni_dX11_nextLink_2 : decode cX11_nextLink 2 = .ok (.invokevirtual 34, 3) := by decide +kernel
theorem ni_dX11_offered_0 : decode cX11_offered 0 = .ok (.aload_n 0, 1) := by decide +kernel
theorem ni_dX11_offered_1 : decode cX11_offered 1 = .ok (.iload_n 1, 1) := by decide +kernel
theorem ni_dX11_offered_2 : decode cX11_offered 2 = .ok (.invokevirtual 162, 3) := by decide +kernel
theorem ni_dX11_onLink_0 : decode cX11_onLink 0 = .ok (.aload_n 0, 1) := by decide +kernel
theorem ni_dX11_onLink_1 : decode cX11_onLink 1 = .ok (.iload_n 1, 1) := by decide +kernel
theorem ni_dX11_onLink_2 : decode cX11_onLink 2 = .ok (.invokevirtual 56, 3) := by decide +kernel
theorem ni_dX11_outOfOrder_0 : decode cX11_outOfOrder 0 = .ok (.aload_n 0, 1) := by decide +kernel
theorem ni_dX11_outOfOrder_1 : decode cX11_outOfOrder 1 = .ok (.iload_n 1, 1) := by decide +kernel
theorem ni_dX11_outOfOrder_2 : decode cX11_outOfOrder 2 = .ok (.invokevirtual 162, 3) := by decide +kernel
theorem ni_dX11_queued_0 : decode cX11_queued 0 = .ok (.aload_n 0, 1) := by decide +kernel
theorem ni_dX11_queued_1 : decode cX11_queued 1 = .ok (.iload_n 1, 1) := by decide +kernel
theorem ni_dX11_queued_2 : decode cX11_queued 2 = .ok (.invokevirtual 56, 3) := by decide +kernel
theorem ni_dX11_route_0 : decode cX11_route 0 = .ok (.aload_n 0, 1) := by decide +kernel
theorem ni_dX11_route_1 : decode cX11_route 1 = .ok (.iload_n 1, 1) := by decide +kernel
theorem ni_dX11_route_2 : decode cX11_route 2 = .ok (.invokevirtual 162, 3) := by decide +kernel
theorem ni_dX11_routers_0 : decode cX11_routers 0 = .ok (.aload_n 0, 1) := by decide +kernel
theorem ni_dX11_routers_1 : decode cX11_routers 1 = .ok (.getfield 10, 3) := by decide +kernel
theorem ni_dX11_routers_4 : decode cX11_routers 4 = .ok (.getfield 19, 3) := by decide +kernel
theorem ni_dX11_routers_7 : decode cX11_routers 7 = .ok (.ireturn, 1) := by decide +kernel
theorem ni_dX11_schedule_0 : decode cX11_schedule 0 = .ok (.aload_n 0, 1) := by decide +kernel
theorem ni_dX11_schedule_1 : decode cX11_schedule 1 = .ok (.iload_n 1, 1) := by decide +kernel
theorem ni_dX11_schedule_2 : decode cX11_schedule 2 = .ok (.invokevirtual 162, 3) := by decide +kernel
theorem ni_dX11_sending_0 : decode cX11_sending 0 = .ok (.aload_n 0, 1) := by decide +kernel
theorem ni_dX11_sending_1 : decode cX11_sending 1 = .ok (.iload_n 1, 1) := by decide +kernel
theorem ni_dX11_sending_2 : decode cX11_sending 2 = .ok (.invokevirtual 56, 3) := by decide +kernel
theorem ni_dX11_setCost_0 : decode cX11_setCost 0 = .ok (.aload_n 0, 1) := by decide +kernel
theorem ni_dX11_setCost_1 : decode cX11_setCost 1 = .ok (.iload_n 1, 1) := by decide +kernel
theorem ni_dX11_setCost_2 : decode cX11_setCost 2 = .ok (.invokevirtual 56, 3) := by decide +kernel
theorem ni_dX11_setPort_0 : decode cX11_setPort 0 = .ok (.aload_n 0, 1) := by decide +kernel
theorem ni_dX11_setPort_1 : decode cX11_setPort 1 = .ok (.iload_n 1, 1) := by decide +kernel
theorem ni_dX11_setPort_2 : decode cX11_setPort 2 = .ok (.invokevirtual 56, 3) := by decide +kernel
theorem ni_dX11_setUp_0 : decode cX11_setUp 0 = .ok (.aload_n 0, 1) := by decide +kernel
theorem ni_dX11_setUp_1 : decode cX11_setUp 1 = .ok (.iload_n 1, 1) := by decide +kernel
theorem ni_dX11_setUp_2 : decode cX11_setUp 2 = .ok (.invokevirtual 56, 3) := by decide +kernel
theorem ni_dX11_setWeight_0 : decode cX11_setWeight 0 = .ok (.aload_n 0, 1) := by decide +kernel
theorem ni_dX11_setWeight_1 : decode cX11_setWeight 1 = .ok (.iload_n 1, 1) := by decide +kernel
theorem ni_dX11_setWeight_2 : decode cX11_setWeight 2 = .ok (.invokevirtual 56, 3) := by decide +kernel
theorem ni_dX11_settledIn_0 : decode cX11_settledIn 0 = .ok (.iload_n 1, 1) := by decide +kernel
theorem ni_dX11_settledIn_1 : decode cX11_settledIn 1 = .ok (.iconst 1, 1) := by decide +kernel
theorem ni_dX11_settledIn_2 : decode cX11_settledIn 2 = .ok (.bipush 60, 2) := by decide +kernel
theorem ni_dX11_settledIn_4 : decode cX11_settledIn 4 = .ok (.invokestatic 43, 3) := by decide +kernel
theorem ni_dX11_settledIn_7 : decode cX11_settledIn 7 = .ok (.aload_n 0, 1) := by decide +kernel
theorem ni_dX11_settledIn_8 : decode cX11_settledIn 8 = .ok (.getfield 10, 3) := by decide +kernel
theorem ni_dX11_settledIn_11 : decode cX11_settledIn 11 = .ok (.invokevirtual 216, 3) := by decide +kernel
theorem ni_dX11_settledIn_14 : decode cX11_settledIn 14 = .ok (.ifCond .ne 5, 3) := by decide +kernel
theorem ni_dX11_settledIn_17 : decode cX11_settledIn 17 = .ok (.iconst 0, 1) := by decide +kernel
theorem ni_dX11_settledIn_18 : decode cX11_settledIn 18 = .ok (.ireturn, 1) := by decide +kernel
theorem ni_dX11_shape_0 : decode cX11_shape 0 = .ok (.aload_n 0, 1) := by decide +kernel
theorem ni_dX11_shape_1 : decode cX11_shape 1 = .ok (.iload_n 1, 1) := by decide +kernel
theorem ni_dX11_shape_2 : decode cX11_shape 2 = .ok (.invokevirtual 162, 3) := by decide +kernel
theorem ni_dX11_shaping_0 : decode cX11_shaping 0 = .ok (.aload_n 0, 1) := by decide +kernel
theorem ni_dX11_shaping_1 : decode cX11_shaping 1 = .ok (.iload_n 1, 1) := by decide +kernel
theorem ni_dX11_shaping_2 : decode cX11_shaping 2 = .ok (.invokevirtual 162, 3) := by decide +kernel
theorem ni_dX11_sortOf_0 : decode cX11_sortOf 0 = .ok (.aload_n 0, 1) := by decide +kernel
theorem ni_dX11_sortOf_1 : decode cX11_sortOf 1 = .ok (.iload_n 1, 1) := by decide +kernel
theorem ni_dX11_sortOf_2 : decode cX11_sortOf 2 = .ok (.invokevirtual 34, 3) := by decide +kernel
theorem ni_dX11_statics_0 : decode cX11_statics 0 = .ok (.aload_n 0, 1) := by decide +kernel
theorem ni_dX11_statics_1 : decode cX11_statics 1 = .ok (.getfield 10, 3) := by decide +kernel
theorem ni_dX11_statics_4 : decode cX11_statics 4 = .ok (.getfield 121, 3) := by decide +kernel
theorem ni_dX11_statics_7 : decode cX11_statics 7 = .ok (.getfield 92, 3) := by decide +kernel
theorem ni_dX11_statics_10 : decode cX11_statics 10 = .ok (.ireturn, 1) := by decide +kernel
theorem ni_dX11_step_0 : decode cX11_step 0 = .ok (.iload_n 1, 1) := by decide +kernel
theorem ni_dX11_step_1 : decode cX11_step 1 = .ok (.iconst 1, 1) := by decide +kernel
theorem ni_dX11_step_2 : decode cX11_step 2 = .ok (.bipush 60, 2) := by decide +kernel
theorem ni_dX11_step_4 : decode cX11_step 4 = .ok (.invokestatic 43, 3) := by decide +kernel
theorem ni_dX11_step_7 : decode cX11_step 7 = .ok (.iconst 0, 1) := by decide +kernel
theorem ni_dX11_step_8 : decode cX11_step 8 = .ok (.istore_n 2, 1) := by decide +kernel
theorem ni_dX11_step_9 : decode cX11_step 9 = .ok (.iload_n 2, 1) := by decide +kernel
theorem ni_dX11_step_10 : decode cX11_step 10 = .ok (.iload_n 1, 1) := by decide +kernel
theorem ni_dX11_step_11 : decode cX11_step 11 = .ok (.if_icmp .ge 16, 3) := by decide +kernel
theorem ni_dX11_step_14 : decode cX11_step 14 = .ok (.aload_n 0, 1) := by decide +kernel
theorem ni_dX11_step_15 : decode cX11_step 15 = .ok (.getfield 10, 3) := by decide +kernel
theorem ni_dX11_step_18 : decode cX11_step 18 = .ok (.invokevirtual 198, 3) := by decide +kernel
theorem ni_dX11_step_21 : decode cX11_step 21 = .ok (.iinc 2 1, 3) := by decide +kernel
theorem ni_dX11_step_24 : decode cX11_step 24 = .ok (.goto (-15), 3) := by decide +kernel
theorem ni_dX11_step_27 : decode cX11_step 27 = .ok (.aload_n 0, 1) := by decide +kernel
theorem ni_dX11_step_28 : decode cX11_step 28 = .ok (.getfield 10, 3) := by decide +kernel
theorem ni_dX11_step_31 : decode cX11_step 31 = .ok (.getfield 165, 3) := by decide +kernel
theorem ni_dX11_step_34 : decode cX11_step 34 = .ok (.ireturn, 1) := by decide +kernel
theorem ni_dX11_time_0 : decode cX11_time 0 = .ok (.aload_n 0, 1) := by decide +kernel
theorem ni_dX11_time_1 : decode cX11_time 1 = .ok (.getfield 10, 3) := by decide +kernel
theorem ni_dX11_time_4 : decode cX11_time 4 = .ok (.getfield 165, 3) := by decide +kernel
theorem ni_dX11_time_7 : decode cX11_time 7 = .ok (.ireturn, 1) := by decide +kernel
theorem ni_dX11_tokens_0 : decode cX11_tokens 0 = .ok (.aload_n 0, 1) := by decide +kernel
theorem ni_dX11_tokens_1 : decode cX11_tokens 1 = .ok (.iload_n 1, 1) := by decide +kernel
theorem ni_dX11_tokens_2 : decode cX11_tokens 2 = .ok (.invokevirtual 162, 3) := by decide +kernel
theorem ni_dX11_trieDepth_0 : decode cX11_trieDepth 0 = .ok (.aload_n 0, 1) := by decide +kernel
theorem ni_dX11_trieDepth_1 : decode cX11_trieDepth 1 = .ok (.iload_n 1, 1) := by decide +kernel
theorem ni_dX11_trieDepth_2 : decode cX11_trieDepth 2 = .ok (.invokevirtual 34, 3) := by decide +kernel
theorem ni_dX11_trieNodes_0 : decode cX11_trieNodes 0 = .ok (.aload_n 0, 1) := by decide +kernel
theorem ni_dX11_trieNodes_1 : decode cX11_trieNodes 1 = .ok (.iload_n 1, 1) := by decide +kernel
theorem ni_dX11_trieNodes_2 : decode cX11_trieNodes 2 = .ok (.invokevirtual 34, 3) := by decide +kernel
theorem ni_dX11_waiting_0 : decode cX11_waiting 0 = .ok (.aload_n 0, 1) := by decide +kernel
theorem ni_dX11_waiting_1 : decode cX11_waiting 1 = .ok (.iload_n 1, 1) := by decide +kernel
theorem ni_dX11_waiting_2 : decode cX11_waiting 2 = .ok (.invokevirtual 56, 3) := by decide +kernel
theorem ni_dX0_init_0 : decode cX0_init 0 = .ok (.aload_n 0, 1) := by decide +kernel
theorem ni_dX0_init_1 : decode cX0_init 1 = .ok (.invokespecial 3, 3) := by decide +kernel
theorem ni_dX0_init_4 : decode cX0_init 4 = .ok (.aload_n 0, 1) := by decide +kernel
theorem ni_dX0_init_5 : decode cX0_init 5 = .ok (.iconst (-1), 1) := by decide +kernel
theorem ni_dX0_init_6 : decode cX0_init 6 = .ok (.putfield 9, 3) := by decide +kernel
theorem ni_dX0_init_9 : decode cX0_init 9 = .ok (.aload_n 0, 1) := by decide +kernel
theorem ni_dX0_init_10 : decode cX0_init 10 = .ok (.bipush 10, 2) := by decide +kernel
theorem ni_dX0_init_12 : decode cX0_init 12 = .ok (.newarray .int, 2) := by decide +kernel
theorem ni_dX0_init_14 : decode cX0_init 14 = .ok (.putfield 15, 3) := by decide +kernel
theorem ni_dX0_init_17 : decode cX0_init 17 = .ok (.aload_n 0, 1) := by decide +kernel
theorem ni_dX0_init_18 : decode cX0_init 18 = .ok (.bipush 7, 2) := by decide +kernel
theorem ni_dX0_init_20 : decode cX0_init 20 = .ok (.newarray .int, 2) := by decide +kernel
theorem ni_dX0_init_22 : decode cX0_init 22 = .ok (.putfield 19, 3) := by decide +kernel
theorem ni_dX0_init_25 : decode cX0_init 25 = .ok (.aload_n 0, 1) := by decide +kernel
theorem ni_dX0_init_26 : decode cX0_init 26 = .ok (.iconst (-1), 1) := by decide +kernel
theorem ni_dX0_init_27 : decode cX0_init 27 = .ok (.putfield 22, 3) := by decide +kernel
theorem ni_dX0_init_30 : decode cX0_init 30 = .ok (.aload_n 0, 1) := by decide +kernel
theorem ni_dX0_init_31 : decode cX0_init 31 = .ok (.iconst (-1), 1) := by decide +kernel
theorem ni_dX0_init_32 : decode cX0_init 32 = .ok (.putfield 25, 3) := by decide +kernel
theorem ni_dX0_init_35 : decode cX0_init 35 = .ok (.return_, 1) := by decide +kernel
theorem ni_dX1_init_0 : decode cX1_init 0 = .ok (.aload_n 0, 1) := by decide +kernel
theorem ni_dX1_init_1 : decode cX1_init 1 = .ok (.invokespecial 1, 3) := by decide +kernel
theorem ni_dX1_init_4 : decode cX1_init 4 = .ok (.aload_n 0, 1) := by decide +kernel
theorem ni_dX1_init_5 : decode cX1_init 5 = .ok (.iload_n 1, 1) := by decide +kernel
theorem ni_dX1_init_6 : decode cX1_init 6 = .ok (.putfield 7, 3) := by decide +kernel
theorem ni_dX1_init_9 : decode cX1_init 9 = .ok (.aload_n 0, 1) := by decide +kernel
theorem ni_dX1_init_10 : decode cX1_init 10 = .ok (.iload_n 2, 1) := by decide +kernel
theorem ni_dX1_init_11 : decode cX1_init 11 = .ok (.putfield 13, 3) := by decide +kernel
theorem ni_dX1_init_14 : decode cX1_init 14 = .ok (.aload_n 0, 1) := by decide +kernel
theorem ni_dX1_init_15 : decode cX1_init 15 = .ok (.iload_n 3, 1) := by decide +kernel
theorem ni_dX1_init_16 : decode cX1_init 16 = .ok (.putfield 16, 3) := by decide +kernel
theorem ni_dX1_init_19 : decode cX1_init 19 = .ok (.aload_n 0, 1) := by decide +kernel
theorem ni_dX1_init_20 : decode cX1_init 20 = .ok (.aload 4, 2) := by decide +kernel
theorem ni_dX1_init_22 : decode cX1_init 22 = .ok (.putfield 19, 3) := by decide +kernel
theorem ni_dX1_init_25 : decode cX1_init 25 = .ok (.aload_n 0, 1) := by decide +kernel
theorem ni_dX1_init_26 : decode cX1_init 26 = .ok (.aload 5, 2) := by decide +kernel
theorem ni_dX1_init_28 : decode cX1_init 28 = .ok (.putfield 23, 3) := by decide +kernel
theorem ni_dX1_init_31 : decode cX1_init 31 = .ok (.return_, 1) := by decide +kernel
theorem ni_dX2_init_0 : decode cX2_init 0 = .ok (.aload_n 0, 1) := by decide +kernel
theorem ni_dX2_init_1 : decode cX2_init 1 = .ok (.invokespecial 3, 3) := by decide +kernel
theorem ni_dX2_init_4 : decode cX2_init 4 = .ok (.aload_n 0, 1) := by decide +kernel
theorem ni_dX2_init_5 : decode cX2_init 5 = .ok (.bipush 8, 2) := by decide +kernel
theorem ni_dX2_init_7 : decode cX2_init 7 = .ok (.anewarray 9, 3) := by decide +kernel
theorem ni_dX2_init_10 : decode cX2_init 10 = .ok (.putfield 11, 3) := by decide +kernel
theorem ni_dX2_init_13 : decode cX2_init 13 = .ok (.aload_n 0, 1) := by decide +kernel
theorem ni_dX2_init_14 : decode cX2_init 14 = .ok (.bipush 8, 2) := by decide +kernel
theorem ni_dX2_init_16 : decode cX2_init 16 = .ok (.newarray .int, 2) := by decide +kernel
theorem ni_dX2_init_18 : decode cX2_init 18 = .ok (.putfield 17, 3) := by decide +kernel
theorem ni_dX2_init_21 : decode cX2_init 21 = .ok (.aload_n 0, 1) := by decide +kernel
theorem ni_dX2_init_22 : decode cX2_init 22 = .ok (.bipush 21, 2) := by decide +kernel
theorem ni_dX2_init_24 : decode cX2_init 24 = .ok (.newarray .int, 2) := by decide +kernel
theorem ni_dX2_init_26 : decode cX2_init 26 = .ok (.putfield 21, 3) := by decide +kernel
theorem ni_dX2_init_29 : decode cX2_init 29 = .ok (.iconst 0, 1) := by decide +kernel
theorem ni_dX2_init_30 : decode cX2_init 30 = .ok (.istore_n 1, 1) := by decide +kernel
theorem ni_dX2_init_31 : decode cX2_init 31 = .ok (.iload_n 1, 1) := by decide +kernel
theorem ni_dX2_init_32 : decode cX2_init 32 = .ok (.bipush 21, 2) := by decide +kernel
theorem ni_dX2_init_34 : decode cX2_init 34 = .ok (.if_icmp .ge 16, 3) := by decide +kernel
theorem ni_dX2_init_37 : decode cX2_init 37 = .ok (.aload_n 0, 1) := by decide +kernel
theorem ni_dX2_init_38 : decode cX2_init 38 = .ok (.getfield 21, 3) := by decide +kernel
theorem ni_dX2_init_41 : decode cX2_init 41 = .ok (.iload_n 1, 1) := by decide +kernel
theorem ni_dX2_init_42 : decode cX2_init 42 = .ok (.iconst (-1), 1) := by decide +kernel
theorem ni_dX2_init_43 : decode cX2_init 43 = .ok (.iastore, 1) := by decide +kernel
theorem ni_dX2_init_44 : decode cX2_init 44 = .ok (.iinc 1 1, 3) := by decide +kernel
theorem ni_dX2_init_47 : decode cX2_init 47 = .ok (.goto (-16), 3) := by decide +kernel
theorem ni_dX2_init_50 : decode cX2_init 50 = .ok (.return_, 1) := by decide +kernel
theorem ni_dX3_init_0 : decode cX3_init 0 = .ok (.aload_n 0, 1) := by decide +kernel
theorem ni_dX3_init_1 : decode cX3_init 1 = .ok (.invokespecial 1, 3) := by decide +kernel
theorem ni_dX3_init_4 : decode cX3_init 4 = .ok (.aload_n 0, 1) := by decide +kernel
theorem ni_dX3_init_5 : decode cX3_init 5 = .ok (.new 7, 3) := by decide +kernel
theorem ni_dX3_init_8 : decode cX3_init 8 = .ok (.dup, 1) := by decide +kernel
theorem ni_dX3_init_9 : decode cX3_init 9 = .ok (.invokespecial 9, 3) := by decide +kernel
theorem ni_dX3_init_12 : decode cX3_init 12 = .ok (.putfield 10, 3) := by decide +kernel
theorem ni_dX3_init_15 : decode cX3_init 15 = .ok (.aload_n 0, 1) := by decide +kernel
theorem ni_dX3_init_16 : decode cX3_init 16 = .ok (.new 7, 3) := by decide +kernel
theorem ni_dX3_init_19 : decode cX3_init 19 = .ok (.dup, 1) := by decide +kernel
theorem ni_dX3_init_20 : decode cX3_init 20 = .ok (.invokespecial 9, 3) := by decide +kernel
theorem ni_dX3_init_23 : decode cX3_init 23 = .ok (.putfield 16, 3) := by decide +kernel
theorem ni_dX3_init_26 : decode cX3_init 26 = .ok (.return_, 1) := by decide +kernel
theorem ni_dX4_init_0 : decode cX4_init 0 = .ok (.aload_n 0, 1) := by decide +kernel
theorem ni_dX4_init_1 : decode cX4_init 1 = .ok (.invokespecial 3, 3) := by decide +kernel
theorem ni_dX4_init_4 : decode cX4_init 4 = .ok (.aload_n 0, 1) := by decide +kernel
theorem ni_dX4_init_5 : decode cX4_init 5 = .ok (.bipush 8, 2) := by decide +kernel
theorem ni_dX4_init_7 : decode cX4_init 7 = .ok (.anewarray 9, 3) := by decide +kernel
theorem ni_dX4_init_10 : decode cX4_init 10 = .ok (.putfield 11, 3) := by decide +kernel
theorem ni_dX4_init_13 : decode cX4_init 13 = .ok (.aload_n 0, 1) := by decide +kernel
theorem ni_dX4_init_14 : decode cX4_init 14 = .ok (.bipush 14, 2) := by decide +kernel
theorem ni_dX4_init_16 : decode cX4_init 16 = .ok (.anewarray 17, 3) := by decide +kernel
theorem ni_dX4_init_19 : decode cX4_init 19 = .ok (.putfield 19, 3) := by decide +kernel
theorem ni_dX4_init_22 : decode cX4_init 22 = .ok (.aload_n 0, 1) := by decide +kernel
theorem ni_dX4_init_23 : decode cX4_init 23 = .ok (.bipush 12, 2) := by decide +kernel
theorem ni_dX4_init_25 : decode cX4_init 25 = .ok (.anewarray 23, 3) := by decide +kernel
theorem ni_dX4_init_28 : decode cX4_init 28 = .ok (.putfield 25, 3) := by decide +kernel
theorem ni_dX4_init_31 : decode cX4_init 31 = .ok (.aload_n 0, 1) := by decide +kernel
theorem ni_dX4_init_32 : decode cX4_init 32 = .ok (.new 29, 3) := by decide +kernel
theorem ni_dX4_init_35 : decode cX4_init 35 = .ok (.dup, 1) := by decide +kernel
theorem ni_dX4_init_36 : decode cX4_init 36 = .ok (.bipush 24, 2) := by decide +kernel
theorem ni_dX4_init_38 : decode cX4_init 38 = .ok (.invokespecial 31, 3) := by decide +kernel
theorem ni_dX4_init_41 : decode cX4_init 41 = .ok (.putfield 34, 3) := by decide +kernel
theorem ni_dX4_init_44 : decode cX4_init 44 = .ok (.aload_n 0, 1) := by decide +kernel
theorem ni_dX4_init_45 : decode cX4_init 45 = .ok (.new 29, 3) := by decide +kernel
theorem ni_dX4_init_48 : decode cX4_init 48 = .ok (.dup, 1) := by decide +kernel
theorem ni_dX4_init_49 : decode cX4_init 49 = .ok (.bipush 24, 2) := by decide +kernel
theorem ni_dX4_init_51 : decode cX4_init 51 = .ok (.invokespecial 31, 3) := by decide +kernel
theorem ni_dX4_init_54 : decode cX4_init 54 = .ok (.putfield 38, 3) := by decide +kernel
theorem ni_dX4_init_57 : decode cX4_init 57 = .ok (.iconst 0, 1) := by decide +kernel
theorem ni_dX4_init_58 : decode cX4_init 58 = .ok (.istore_n 1, 1) := by decide +kernel
theorem ni_dX4_init_59 : decode cX4_init 59 = .ok (.iload_n 1, 1) := by decide +kernel
theorem ni_dX4_init_60 : decode cX4_init 60 = .ok (.bipush 12, 2) := by decide +kernel
theorem ni_dX4_init_62 : decode cX4_init 62 = .ok (.if_icmp .ge 22, 3) := by decide +kernel
theorem ni_dX4_init_65 : decode cX4_init 65 = .ok (.aload_n 0, 1) := by decide +kernel
theorem ni_dX4_init_66 : decode cX4_init 66 = .ok (.getfield 25, 3) := by decide +kernel
theorem ni_dX4_init_69 : decode cX4_init 69 = .ok (.iload_n 1, 1) := by decide +kernel
theorem ni_dX4_init_70 : decode cX4_init 70 = .ok (.new 23, 3) := by decide +kernel
theorem ni_dX4_init_73 : decode cX4_init 73 = .ok (.dup, 1) := by decide +kernel
theorem ni_dX4_init_74 : decode cX4_init 74 = .ok (.invokespecial 41, 3) := by decide +kernel
theorem ni_dX4_init_77 : decode cX4_init 77 = .ok (.aastore, 1) := by decide +kernel
theorem ni_dX4_init_78 : decode cX4_init 78 = .ok (.iinc 1 1, 3) := by decide +kernel
theorem ni_dX4_init_81 : decode cX4_init 81 = .ok (.goto (-22), 3) := by decide +kernel
theorem ni_dX4_init_84 : decode cX4_init 84 = .ok (.iconst 0, 1) := by decide +kernel
theorem ni_dX4_init_85 : decode cX4_init 85 = .ok (.istore_n 1, 1) := by decide +kernel
theorem ni_dX4_init_86 : decode cX4_init 86 = .ok (.iload_n 1, 1) := by decide +kernel
theorem ni_dX4_init_87 : decode cX4_init 87 = .ok (.bipush 14, 2) := by decide +kernel
theorem ni_dX4_init_89 : decode cX4_init 89 = .ok (.if_icmp .ge 22, 3) := by decide +kernel
theorem ni_dX4_init_92 : decode cX4_init 92 = .ok (.aload_n 0, 1) := by decide +kernel
theorem ni_dX4_init_93 : decode cX4_init 93 = .ok (.getfield 19, 3) := by decide +kernel
theorem ni_dX4_init_96 : decode cX4_init 96 = .ok (.iload_n 1, 1) := by decide +kernel
theorem ni_dX4_init_97 : decode cX4_init 97 = .ok (.new 17, 3) := by decide +kernel
theorem ni_dX4_init_100 : decode cX4_init 100 = .ok (.dup, 1) := by decide +kernel
theorem ni_dX4_init_101 : decode cX4_init 101 = .ok (.invokespecial 42, 3) := by decide +kernel
theorem ni_dX4_init_104 : decode cX4_init 104 = .ok (.aastore, 1) := by decide +kernel
theorem ni_dX4_init_105 : decode cX4_init 105 = .ok (.iinc 1 1, 3) := by decide +kernel
theorem ni_dX4_init_108 : decode cX4_init 108 = .ok (.goto (-22), 3) := by decide +kernel
theorem ni_dX4_init_111 : decode cX4_init 111 = .ok (.iconst 0, 1) := by decide +kernel
theorem ni_dX4_init_112 : decode cX4_init 112 = .ok (.istore_n 1, 1) := by decide +kernel
theorem ni_dX4_init_113 : decode cX4_init 113 = .ok (.iload_n 1, 1) := by decide +kernel
theorem ni_dX4_init_114 : decode cX4_init 114 = .ok (.bipush 8, 2) := by decide +kernel
theorem ni_dX4_init_116 : decode cX4_init 116 = .ok (.if_icmp .ge 40, 3) := by decide +kernel
theorem ni_dX4_init_119 : decode cX4_init 119 = .ok (.aload_n 0, 1) := by decide +kernel
theorem ni_dX4_init_120 : decode cX4_init 120 = .ok (.getfield 11, 3) := by decide +kernel
theorem ni_dX4_init_123 : decode cX4_init 123 = .ok (.iload_n 1, 1) := by decide +kernel
theorem ni_dX4_init_124 : decode cX4_init 124 = .ok (.new 9, 3) := by decide +kernel
theorem ni_dX4_init_127 : decode cX4_init 127 = .ok (.dup, 1) := by decide +kernel
theorem ni_dX4_init_128 : decode cX4_init 128 = .ok (.iload_n 1, 1) := by decide +kernel
theorem ni_dX4_init_129 : decode cX4_init 129 = .ok (.new 43, 3) := by decide +kernel
theorem ni_dX4_init_132 : decode cX4_init 132 = .ok (.dup, 1) := by decide +kernel
theorem ni_dX4_init_133 : decode cX4_init 133 = .ok (.iload_n 1, 1) := by decide +kernel
theorem ni_dX4_init_134 : decode cX4_init 134 = .ok (.iconst 0, 1) := by decide +kernel
theorem ni_dX4_init_135 : decode cX4_init 135 = .ok (.iconst 0, 1) := by decide +kernel
theorem ni_dX4_init_136 : decode cX4_init 136 = .ok (.bipush 14, 2) := by decide +kernel
theorem ni_dX4_init_138 : decode cX4_init 138 = .ok (.newarray .int, 2) := by decide +kernel
theorem ni_dX4_init_140 : decode cX4_init 140 = .ok (.iconst 0, 1) := by decide +kernel
theorem ni_dX4_init_141 : decode cX4_init 141 = .ok (.newarray .int, 2) := by decide +kernel
theorem ni_dX4_init_143 : decode cX4_init 143 = .ok (.invokespecial 45, 3) := by decide +kernel
theorem ni_dX4_init_146 : decode cX4_init 146 = .ok (.invokespecial 48, 3) := by decide +kernel
theorem ni_dX4_init_149 : decode cX4_init 149 = .ok (.aastore, 1) := by decide +kernel
theorem ni_dX4_init_150 : decode cX4_init 150 = .ok (.iinc 1 1, 3) := by decide +kernel
theorem ni_dX4_init_153 : decode cX4_init 153 = .ok (.goto (-40), 3) := by decide +kernel
theorem ni_dX4_init_156 : decode cX4_init 156 = .ok (.return_, 1) := by decide +kernel
theorem ni_dX4_lettersOnTheirWay_0 : decode cX4_lettersOnTheirWay 0 = .ok (.iconst 0, 1) := by decide +kernel
theorem ni_dX4_lettersOnTheirWay_1 : decode cX4_lettersOnTheirWay 1 = .ok (.istore_n 1, 1) := by decide +kernel
theorem ni_dX4_lettersOnTheirWay_2 : decode cX4_lettersOnTheirWay 2 = .ok (.iconst 0, 1) := by decide +kernel
theorem ni_dX4_lettersOnTheirWay_3 : decode cX4_lettersOnTheirWay 3 = .ok (.istore_n 2, 1) := by decide +kernel
theorem ni_dX4_lettersOnTheirWay_4 : decode cX4_lettersOnTheirWay 4 = .ok (.iload_n 2, 1) := by decide +kernel
theorem ni_dX4_lettersOnTheirWay_5 : decode cX4_lettersOnTheirWay 5 = .ok (.aload_n 0, 1) := by decide +kernel
theorem ni_dX4_lettersOnTheirWay_6 : decode cX4_lettersOnTheirWay 6 = .ok (.getfield 55, 3) := by decide +kernel
theorem ni_dX4_lettersOnTheirWay_9 : decode cX4_lettersOnTheirWay 9 = .ok (.if_icmp .ge 43, 3) := by decide +kernel
theorem ni_dX4_lettersOnTheirWay_52 : decode cX4_lettersOnTheirWay 52 = .ok (.iload_n 1, 1) := by decide +kernel
theorem ni_dX4_lettersOnTheirWay_53 : decode cX4_lettersOnTheirWay 53 = .ok (.ireturn, 1) := by decide +kernel
theorem ni_dX4_newRouter_0 : decode cX4_newRouter 0 = .ok (.aload_n 0, 1) := by decide +kernel
theorem ni_dX4_newRouter_1 : decode cX4_newRouter 1 = .ok (.dup, 1) := by decide +kernel
theorem ni_dX4_newRouter_2 : decode cX4_newRouter 2 = .ok (.getfield 51, 3) := by decide +kernel
theorem ni_dX4_newRouter_5 : decode cX4_newRouter 5 = .ok (.iconst 1, 1) := by decide +kernel
theorem ni_dX4_newRouter_6 : decode cX4_newRouter 6 = .ok (.iadd, 1) := by decide +kernel
theorem ni_dX4_newRouter_7 : decode cX4_newRouter 7 = .ok (.putfield 51, 3) := by decide +kernel
theorem ni_dX4_newRouter_10 : decode cX4_newRouter 10 = .ok (.aload_n 0, 1) := by decide +kernel
theorem ni_dX4_newRouter_11 : decode cX4_newRouter 11 = .ok (.getfield 51, 3) := by decide +kernel
theorem ni_dX4_newRouter_14 : decode cX4_newRouter 14 = .ok (.iconst 1, 1) := by decide +kernel
theorem ni_dX4_newRouter_15 : decode cX4_newRouter 15 = .ok (.isub, 1) := by decide +kernel
theorem ni_dX4_newRouter_16 : decode cX4_newRouter 16 = .ok (.ireturn, 1) := by decide +kernel
theorem ni_dX4_tick_0 : decode cX4_tick 0 = .ok (.iconst 0, 1) := by decide +kernel
theorem ni_dX4_tick_1 : decode cX4_tick 1 = .ok (.istore_n 1, 1) := by decide +kernel
theorem ni_dX4_tick_2 : decode cX4_tick 2 = .ok (.iload_n 1, 1) := by decide +kernel
theorem ni_dX4_tick_3 : decode cX4_tick 3 = .ok (.aload_n 0, 1) := by decide +kernel
theorem ni_dX4_tick_4 : decode cX4_tick 4 = .ok (.getfield 55, 3) := by decide +kernel
theorem ni_dX4_tick_7 : decode cX4_tick 7 = .ok (.if_icmp .ge 61, 3) := by decide +kernel
theorem ni_dX4_tick_68 : decode cX4_tick 68 = .ok (.iconst 0, 1) := by decide +kernel
theorem ni_dX4_tick_69 : decode cX4_tick 69 = .ok (.istore_n 1, 1) := by decide +kernel
theorem ni_dX4_tick_70 : decode cX4_tick 70 = .ok (.iload_n 1, 1) := by decide +kernel
theorem ni_dX4_tick_71 : decode cX4_tick 71 = .ok (.aload_n 0, 1) := by decide +kernel
theorem ni_dX4_tick_72 : decode cX4_tick 72 = .ok (.getfield 55, 3) := by decide +kernel
theorem ni_dX4_tick_75 : decode cX4_tick 75 = .ok (.if_icmp .ge 73, 3) := by decide +kernel
theorem ni_dX4_tick_148 : decode cX4_tick 148 = .ok (.iconst 0, 1) := by decide +kernel
theorem ni_dX4_tick_149 : decode cX4_tick 149 = .ok (.istore_n 1, 1) := by decide +kernel
theorem ni_dX4_tick_150 : decode cX4_tick 150 = .ok (.iload_n 1, 1) := by decide +kernel
theorem ni_dX4_tick_151 : decode cX4_tick 151 = .ok (.aload_n 0, 1) := by decide +kernel
theorem ni_dX4_tick_152 : decode cX4_tick 152 = .ok (.getfield 116, 3) := by decide +kernel
theorem ni_dX4_tick_155 : decode cX4_tick 155 = .ok (.if_icmp .ge 14, 3) := by decide +kernel
theorem ni_dX4_tick_169 : decode cX4_tick 169 = .ok (.iconst 0, 1) := by decide +kernel
theorem ni_dX4_tick_170 : decode cX4_tick 170 = .ok (.istore_n 1, 1) := by decide +kernel
theorem ni_dX4_tick_171 : decode cX4_tick 171 = .ok (.iload_n 1, 1) := by decide +kernel
theorem ni_dX4_tick_172 : decode cX4_tick 172 = .ok (.aload_n 0, 1) := by decide +kernel
theorem ni_dX4_tick_173 : decode cX4_tick 173 = .ok (.getfield 51, 3) := by decide +kernel
theorem ni_dX4_tick_176 : decode cX4_tick 176 = .ok (.if_icmp .ge 30, 3) := by decide +kernel
theorem ni_dX4_tick_206 : decode cX4_tick 206 = .ok (.iconst 0, 1) := by decide +kernel
theorem ni_dX4_tick_207 : decode cX4_tick 207 = .ok (.istore_n 1, 1) := by decide +kernel
theorem ni_dX4_tick_208 : decode cX4_tick 208 = .ok (.iload_n 1, 1) := by decide +kernel
theorem ni_dX4_tick_209 : decode cX4_tick 209 = .ok (.aload_n 0, 1) := by decide +kernel
theorem ni_dX4_tick_210 : decode cX4_tick 210 = .ok (.getfield 55, 3) := by decide +kernel
theorem ni_dX4_tick_213 : decode cX4_tick 213 = .ok (.if_icmp .ge 79, 3) := by decide +kernel
theorem ni_dX4_tick_292 : decode cX4_tick 292 = .ok (.aload_n 0, 1) := by decide +kernel
theorem ni_dX4_tick_293 : decode cX4_tick 293 = .ok (.dup, 1) := by decide +kernel
theorem ni_dX4_tick_294 : decode cX4_tick 294 = .ok (.getfield 166, 3) := by decide +kernel
theorem ni_dX4_tick_297 : decode cX4_tick 297 = .ok (.iconst 1, 1) := by decide +kernel
theorem ni_dX4_tick_298 : decode cX4_tick 298 = .ok (.iadd, 1) := by decide +kernel
theorem ni_dX4_tick_299 : decode cX4_tick 299 = .ok (.putfield 166, 3) := by decide +kernel
theorem ni_dX4_tick_302 : decode cX4_tick 302 = .ok (.return_, 1) := by decide +kernel
theorem ni_dX6_init_0 : decode cX6_init 0 = .ok (.aload_n 0, 1) := by decide +kernel
theorem ni_dX6_init_1 : decode cX6_init 1 = .ok (.invokespecial 3, 3) := by decide +kernel
theorem ni_dX6_init_4 : decode cX6_init 4 = .ok (.aload_n 0, 1) := by decide +kernel
theorem ni_dX6_init_5 : decode cX6_init 5 = .ok (.new 9, 3) := by decide +kernel
theorem ni_dX6_init_8 : decode cX6_init 8 = .ok (.dup, 1) := by decide +kernel
theorem ni_dX6_init_9 : decode cX6_init 9 = .ok (.invokespecial 11, 3) := by decide +kernel
theorem ni_dX6_init_12 : decode cX6_init 12 = .ok (.putfield 12, 3) := by decide +kernel
theorem ni_dX6_init_15 : decode cX6_init 15 = .ok (.aload_n 0, 1) := by decide +kernel
theorem ni_dX6_init_16 : decode cX6_init 16 = .ok (.iconst 0, 1) := by decide +kernel
theorem ni_dX6_init_17 : decode cX6_init 17 = .ok (.putfield 18, 3) := by decide +kernel
theorem ni_dX6_init_20 : decode cX6_init 20 = .ok (.aload_n 0, 1) := by decide +kernel
theorem ni_dX6_init_21 : decode cX6_init 21 = .ok (.sipush 2000, 3) := by decide +kernel
theorem ni_dX6_init_24 : decode cX6_init 24 = .ok (.putfield 22, 3) := by decide +kernel
theorem ni_dX6_init_27 : decode cX6_init 27 = .ok (.aload_n 0, 1) := by decide +kernel
theorem ni_dX6_init_28 : decode cX6_init 28 = .ok (.iconst 4, 1) := by decide +kernel
theorem ni_dX6_init_29 : decode cX6_init 29 = .ok (.newarray .int, 2) := by decide +kernel
theorem ni_dX6_init_31 : decode cX6_init 31 = .ok (.putfield 25, 3) := by decide +kernel
theorem ni_dX6_init_34 : decode cX6_init 34 = .ok (.aload_n 0, 1) := by decide +kernel
theorem ni_dX6_init_35 : decode cX6_init 35 = .ok (.iconst 4, 1) := by decide +kernel
theorem ni_dX6_init_36 : decode cX6_init 36 = .ok (.newarray .int, 2) := by decide +kernel
theorem ni_dX6_init_38 : decode cX6_init 38 = .ok (.putfield 29, 3) := by decide +kernel
theorem ni_dX6_init_41 : decode cX6_init 41 = .ok (.aload_n 0, 1) := by decide +kernel
theorem ni_dX6_init_42 : decode cX6_init 42 = .ok (.sipush 250, 3) := by decide +kernel
theorem ni_dX6_init_45 : decode cX6_init 45 = .ok (.newarray .int, 2) := by decide +kernel
theorem ni_dX6_init_47 : decode cX6_init 47 = .ok (.putfield 32, 3) := by decide +kernel
theorem ni_dX6_init_50 : decode cX6_init 50 = .ok (.aload_n 0, 1) := by decide +kernel
theorem ni_dX6_init_51 : decode cX6_init 51 = .ok (.iconst (-1), 1) := by decide +kernel
theorem ni_dX6_init_52 : decode cX6_init 52 = .ok (.putfield 35, 3) := by decide +kernel
theorem ni_dX6_init_55 : decode cX6_init 55 = .ok (.iconst 0, 1) := by decide +kernel
theorem ni_dX6_init_56 : decode cX6_init 56 = .ok (.istore_n 1, 1) := by decide +kernel
theorem ni_dX6_init_57 : decode cX6_init 57 = .ok (.iload_n 1, 1) := by decide +kernel
theorem ni_dX6_init_58 : decode cX6_init 58 = .ok (.iconst 4, 1) := by decide +kernel
theorem ni_dX6_init_59 : decode cX6_init 59 = .ok (.if_icmp .ge 16, 3) := by decide +kernel
theorem ni_dX6_init_62 : decode cX6_init 62 = .ok (.aload_n 0, 1) := by decide +kernel
theorem ni_dX6_init_63 : decode cX6_init 63 = .ok (.getfield 25, 3) := by decide +kernel
theorem ni_dX6_init_66 : decode cX6_init 66 = .ok (.iload_n 1, 1) := by decide +kernel
theorem ni_dX6_init_67 : decode cX6_init 67 = .ok (.iconst 1, 1) := by decide +kernel
theorem ni_dX6_init_68 : decode cX6_init 68 = .ok (.iastore, 1) := by decide +kernel
theorem ni_dX6_init_69 : decode cX6_init 69 = .ok (.iinc 1 1, 3) := by decide +kernel
theorem ni_dX6_init_72 : decode cX6_init 72 = .ok (.goto (-15), 3) := by decide +kernel
theorem ni_dX6_init_75 : decode cX6_init 75 = .ok (.return_, 1) := by decide +kernel
theorem ni_dX8_init_0 : decode cX8_init 0 = .ok (.aload_n 0, 1) := by decide +kernel
theorem ni_dX8_init_1 : decode cX8_init 1 = .ok (.invokespecial 3, 3) := by decide +kernel
theorem ni_dX8_init_4 : decode cX8_init 4 = .ok (.aload_n 0, 1) := by decide +kernel
theorem ni_dX8_init_5 : decode cX8_init 5 = .ok (.iload_n 1, 1) := by decide +kernel
theorem ni_dX8_init_6 : decode cX8_init 6 = .ok (.newarray .int, 2) := by decide +kernel
theorem ni_dX8_init_8 : decode cX8_init 8 = .ok (.putfield 9, 3) := by decide +kernel
theorem ni_dX8_init_11 : decode cX8_init 11 = .ok (.aload_n 0, 1) := by decide +kernel
theorem ni_dX8_init_12 : decode cX8_init 12 = .ok (.iload_n 1, 1) := by decide +kernel
theorem ni_dX8_init_13 : decode cX8_init 13 = .ok (.newarray .int, 2) := by decide +kernel
theorem ni_dX8_init_15 : decode cX8_init 15 = .ok (.putfield 15, 3) := by decide +kernel
theorem ni_dX8_init_18 : decode cX8_init 18 = .ok (.aload_n 0, 1) := by decide +kernel
theorem ni_dX8_init_19 : decode cX8_init 19 = .ok (.iload_n 1, 1) := by decide +kernel
theorem ni_dX8_init_20 : decode cX8_init 20 = .ok (.newarray .int, 2) := by decide +kernel
theorem ni_dX8_init_22 : decode cX8_init 22 = .ok (.putfield 18, 3) := by decide +kernel
theorem ni_dX8_init_25 : decode cX8_init 25 = .ok (.return_, 1) := by decide +kernel
theorem ni_dX9_init_0 : decode cX9_init 0 = .ok (.aload_n 0, 1) := by decide +kernel
theorem ni_dX9_init_1 : decode cX9_init 1 = .ok (.invokespecial 3, 3) := by decide +kernel
theorem ni_dX9_init_4 : decode cX9_init 4 = .ok (.aload_n 0, 1) := by decide +kernel
theorem ni_dX9_init_5 : decode cX9_init 5 = .ok (.bipush 8, 2) := by decide +kernel
theorem ni_dX9_init_7 : decode cX9_init 7 = .ok (.anewarray 9, 3) := by decide +kernel
theorem ni_dX9_init_10 : decode cX9_init 10 = .ok (.putfield 11, 3) := by decide +kernel
theorem ni_dX9_init_13 : decode cX9_init 13 = .ok (.aload_n 0, 1) := by decide +kernel
theorem ni_dX9_init_14 : decode cX9_init 14 = .ok (.bipush 8, 2) := by decide +kernel
theorem ni_dX9_init_16 : decode cX9_init 16 = .ok (.newarray .int, 2) := by decide +kernel
theorem ni_dX9_init_18 : decode cX9_init 18 = .ok (.putfield 17, 3) := by decide +kernel
theorem ni_dX9_init_21 : decode cX9_init 21 = .ok (.aload_n 0, 1) := by decide +kernel
theorem ni_dX9_init_22 : decode cX9_init 22 = .ok (.bipush 8, 2) := by decide +kernel
theorem ni_dX9_init_24 : decode cX9_init 24 = .ok (.newarray .int, 2) := by decide +kernel
theorem ni_dX9_init_26 : decode cX9_init 26 = .ok (.putfield 21, 3) := by decide +kernel
theorem ni_dX9_init_29 : decode cX9_init 29 = .ok (.aload_n 0, 1) := by decide +kernel
theorem ni_dX9_init_30 : decode cX9_init 30 = .ok (.new 24, 3) := by decide +kernel
theorem ni_dX9_init_33 : decode cX9_init 33 = .ok (.dup, 1) := by decide +kernel
theorem ni_dX9_init_34 : decode cX9_init 34 = .ok (.invokespecial 26, 3) := by decide +kernel
theorem ni_dX9_init_37 : decode cX9_init 37 = .ok (.putfield 27, 3) := by decide +kernel
theorem ni_dX9_init_40 : decode cX9_init 40 = .ok (.aload_n 0, 1) := by decide +kernel
theorem ni_dX9_init_41 : decode cX9_init 41 = .ok (.iconst 1, 1) := by decide +kernel
theorem ni_dX9_init_42 : decode cX9_init 42 = .ok (.putfield 31, 3) := by decide +kernel
theorem ni_dX9_init_45 : decode cX9_init 45 = .ok (.aload_n 0, 1) := by decide +kernel
theorem ni_dX9_init_46 : decode cX9_init 46 = .ok (.iload_n 1, 1) := by decide +kernel
theorem ni_dX9_init_47 : decode cX9_init 47 = .ok (.putfield 35, 3) := by decide +kernel
theorem ni_dX9_init_50 : decode cX9_init 50 = .ok (.iconst 0, 1) := by decide +kernel
theorem ni_dX9_init_51 : decode cX9_init 51 = .ok (.istore_n 3, 1) := by decide +kernel
theorem ni_dX9_init_52 : decode cX9_init 52 = .ok (.iload_n 3, 1) := by decide +kernel
theorem ni_dX9_init_53 : decode cX9_init 53 = .ok (.bipush 8, 2) := by decide +kernel
theorem ni_dX9_init_55 : decode cX9_init 55 = .ok (.if_icmp .ge 32, 3) := by decide +kernel
theorem ni_dX9_init_58 : decode cX9_init 58 = .ok (.aload_n 0, 1) := by decide +kernel
theorem ni_dX9_init_59 : decode cX9_init 59 = .ok (.getfield 11, 3) := by decide +kernel
theorem ni_dX9_init_62 : decode cX9_init 62 = .ok (.iload_n 3, 1) := by decide +kernel
theorem ni_dX9_init_63 : decode cX9_init 63 = .ok (.aload_n 2, 1) := by decide +kernel
theorem ni_dX9_init_64 : decode cX9_init 64 = .ok (.aastore, 1) := by decide +kernel
theorem ni_dX9_init_65 : decode cX9_init 65 = .ok (.aload_n 0, 1) := by decide +kernel
theorem ni_dX9_init_66 : decode cX9_init 66 = .ok (.getfield 17, 3) := by decide +kernel
theorem ni_dX9_init_69 : decode cX9_init 69 = .ok (.iload_n 3, 1) := by decide +kernel
theorem ni_dX9_init_70 : decode cX9_init 70 = .ok (.iload_n 3, 1) := by decide +kernel
theorem ni_dX9_init_71 : decode cX9_init 71 = .ok (.iload_n 1, 1) := by decide +kernel
theorem ni_dX9_init_72 : decode cX9_init 72 = .ok (.if_icmp .ne 7, 3) := by decide +kernel
theorem ni_dX9_init_75 : decode cX9_init 75 = .ok (.iconst 0, 1) := by decide +kernel
theorem ni_dX9_init_76 : decode cX9_init 76 = .ok (.goto 4, 3) := by decide +kernel
theorem ni_dX9_init_79 : decode cX9_init 79 = .ok (.iconst (-1), 1) := by decide +kernel
theorem ni_dX9_init_80 : decode cX9_init 80 = .ok (.iastore, 1) := by decide +kernel
theorem ni_dX9_init_81 : decode cX9_init 81 = .ok (.iinc 3 1, 3) := by decide +kernel
theorem ni_dX9_init_84 : decode cX9_init 84 = .ok (.goto (-32), 3) := by decide +kernel
theorem ni_dX9_init_87 : decode cX9_init 87 = .ok (.return_, 1) := by decide +kernel
theorem ni_dX10_init_0 : decode cX10_init 0 = .ok (.aload_n 0, 1) := by decide +kernel
theorem ni_dX10_init_1 : decode cX10_init 1 = .ok (.invokespecial 3, 3) := by decide +kernel
theorem ni_dX10_init_4 : decode cX10_init 4 = .ok (.aload_n 0, 1) := by decide +kernel
theorem ni_dX10_init_5 : decode cX10_init 5 = .ok (.sipush 216, 3) := by decide +kernel
theorem ni_dX10_init_8 : decode cX10_init 8 = .ok (.newarray .int, 2) := by decide +kernel
theorem ni_dX10_init_10 : decode cX10_init 10 = .ok (.putfield 11, 3) := by decide +kernel
theorem ni_dX10_init_13 : decode cX10_init 13 = .ok (.aload_n 0, 1) := by decide +kernel
theorem ni_dX10_init_14 : decode cX10_init 14 = .ok (.sipush 216, 3) := by decide +kernel
theorem ni_dX10_init_17 : decode cX10_init 17 = .ok (.newarray .int, 2) := by decide +kernel
theorem ni_dX10_init_19 : decode cX10_init 19 = .ok (.putfield 15, 3) := by decide +kernel
theorem ni_dX10_init_22 : decode cX10_init 22 = .ok (.aload_n 0, 1) := by decide +kernel
theorem ni_dX10_init_23 : decode cX10_init 23 = .ok (.sipush 216, 3) := by decide +kernel
theorem ni_dX10_init_26 : decode cX10_init 26 = .ok (.newarray .int, 2) := by decide +kernel
theorem ni_dX10_init_28 : decode cX10_init 28 = .ok (.putfield 18, 3) := by decide +kernel
theorem ni_dX10_init_31 : decode cX10_init 31 = .ok (.return_, 1) := by decide +kernel
theorem ni_dL_addFlow_0 : decode cL_addFlow 0 = .ok (.aload 5, 2) := by decide +kernel
theorem ni_dL_addFlow_2 : decode cL_addFlow 2 = .ok (.iconst 0, 1) := by decide +kernel
theorem ni_dL_addFlow_3 : decode cL_addFlow 3 = .ok (.aload_n 0, 1) := by decide +kernel
theorem ni_dL_addFlow_4 : decode cL_addFlow 4 = .ok (.iload_n 1, 1) := by decide +kernel
theorem ni_dL_addFlow_5 : decode cL_addFlow 5 = .ok (.iload_n 2, 1) := by decide +kernel
theorem ni_dL_addFlow_6 : decode cL_addFlow 6 = .ok (.iload_n 3, 1) := by decide +kernel
theorem ni_dL_addFlow_7 : decode cL_addFlow 7 = .ok (.iload 4, 2) := by decide +kernel
theorem ni_dL_addFlow_9 : decode cL_addFlow 9 = .ok (.invokevirtual 54, 3) := by decide +kernel
theorem ni_dL_addFlow_17 : decode cL_addFlow 17 = .ok (.astore 6, 2) := by decide +kernel
theorem ni_dL_addFlow_19 : decode cL_addFlow 19 = .ok (.iconst 1, 1) := by decide +kernel
theorem ni_dL_addFlow_20 : decode cL_addFlow 20 = .ok (.ireturn, 1) := by decide +kernel
theorem ni_dL_addLink_0 : decode cL_addLink 0 = .ok (.aload 6, 2) := by decide +kernel
theorem ni_dL_addLink_2 : decode cL_addLink 2 = .ok (.iconst 0, 1) := by decide +kernel
theorem ni_dL_addLink_3 : decode cL_addLink 3 = .ok (.aload_n 0, 1) := by decide +kernel
theorem ni_dL_addLink_4 : decode cL_addLink 4 = .ok (.iload_n 1, 1) := by decide +kernel
theorem ni_dL_addLink_5 : decode cL_addLink 5 = .ok (.iload_n 2, 1) := by decide +kernel
theorem ni_dL_addLink_6 : decode cL_addLink 6 = .ok (.iload_n 3, 1) := by decide +kernel
theorem ni_dL_addLink_7 : decode cL_addLink 7 = .ok (.iload 4, 2) := by decide +kernel
theorem ni_dL_addLink_9 : decode cL_addLink 9 = .ok (.iload 5, 2) := by decide +kernel
theorem ni_dL_addLink_11 : decode cL_addLink 11 = .ok (.invokevirtual 15, 3) := by decide +kernel
theorem ni_dL_addLink_19 : decode cL_addLink 19 = .ok (.astore 7, 2) := by decide +kernel
theorem ni_dL_addLink_21 : decode cL_addLink 21 = .ok (.iconst 1, 1) := by decide +kernel
theorem ni_dL_addLink_22 : decode cL_addLink 22 = .ok (.ireturn, 1) := by decide +kernel
theorem ni_dL_addNetwork_0 : decode cL_addNetwork 0 = .ok (.aload 4, 2) := by decide +kernel
theorem ni_dL_addNetwork_2 : decode cL_addNetwork 2 = .ok (.iconst 0, 1) := by decide +kernel
theorem ni_dL_addNetwork_3 : decode cL_addNetwork 3 = .ok (.aload_n 0, 1) := by decide +kernel
theorem ni_dL_addNetwork_4 : decode cL_addNetwork 4 = .ok (.iload_n 1, 1) := by decide +kernel
theorem ni_dL_addNetwork_5 : decode cL_addNetwork 5 = .ok (.iload_n 2, 1) := by decide +kernel
theorem ni_dL_addNetwork_6 : decode cL_addNetwork 6 = .ok (.iload_n 3, 1) := by decide +kernel
theorem ni_dL_addNetwork_7 : decode cL_addNetwork 7 = .ok (.invokevirtual 31, 3) := by decide +kernel
theorem ni_dL_addNetwork_15 : decode cL_addNetwork 15 = .ok (.astore 5, 2) := by decide +kernel
end
section
theorem ni_dL_addNetwork_17 : decode cL_addNetwork 17 = .ok (.iconst 1, 1) := by decide +kernel
theorem ni_dL_addNetwork_18 : decode cL_addNetwork 18 = .ok (.ireturn, 1) := by decide +kernel
theorem ni_dL_addRouter_0 : decode cL_addRouter 0 = .ok (.aload_n 1, 1) := by decide +kernel
theorem ni_dL_addRouter_1 : decode cL_addRouter 1 = .ok (.iconst 0, 1) := by decide +kernel
theorem ni_dL_addRouter_2 : decode cL_addRouter 2 = .ok (.aload_n 0, 1) := by decide +kernel
theorem ni_dL_addRouter_3 : decode cL_addRouter 3 = .ok (.invokevirtual 7, 3) := by decide +kernel
theorem ni_dL_addRouter_6 : decode cL_addRouter 6 = .ok (.i2l, 1) := by decide +kernel
theorem ni_dL_addRouter_7 : decode cL_addRouter 7 = .ok (.lastore, 1) := by decide +kernel
theorem ni_dL_addRouter_8 : decode cL_addRouter 8 = .ok (.goto 6, 3) := by decide +kernel
theorem ni_dL_addRouter_11 : decode cL_addRouter 11 = .ok (.astore_n 2, 1) := by decide +kernel
theorem ni_dL_addRouter_14 : decode cL_addRouter 14 = .ok (.iconst 0, 1) := by decide +kernel
theorem ni_dL_addRouter_15 : decode cL_addRouter 15 = .ok (.ireturn, 1) := by decide +kernel
theorem ni_dL_addStatic_0 : decode cL_addStatic 0 = .ok (.aload 5, 2) := by decide +kernel
theorem ni_dL_addStatic_2 : decode cL_addStatic 2 = .ok (.iconst 0, 1) := by decide +kernel
theorem ni_dL_addStatic_3 : decode cL_addStatic 3 = .ok (.aload_n 0, 1) := by decide +kernel
theorem ni_dL_addStatic_4 : decode cL_addStatic 4 = .ok (.iload_n 1, 1) := by decide +kernel
theorem ni_dL_addStatic_5 : decode cL_addStatic 5 = .ok (.iload_n 2, 1) := by decide +kernel
theorem ni_dL_addStatic_6 : decode cL_addStatic 6 = .ok (.iload_n 3, 1) := by decide +kernel
theorem ni_dL_addStatic_7 : decode cL_addStatic 7 = .ok (.iload 4, 2) := by decide +kernel
theorem ni_dL_addStatic_9 : decode cL_addStatic 9 = .ok (.invokevirtual 39, 3) := by decide +kernel
theorem ni_dL_addStatic_17 : decode cL_addStatic 17 = .ok (.astore 6, 2) := by decide +kernel
theorem ni_dL_addStatic_19 : decode cL_addStatic 19 = .ok (.iconst 1, 1) := by decide +kernel
theorem ni_dL_addStatic_20 : decode cL_addStatic 20 = .ok (.ireturn, 1) := by decide +kernel
theorem ni_dL_deficit_0 : decode cL_deficit 0 = .ok (.aload 4, 2) := by decide +kernel
theorem ni_dL_deficit_2 : decode cL_deficit 2 = .ok (.iconst 0, 1) := by decide +kernel
theorem ni_dL_deficit_3 : decode cL_deficit 3 = .ok (.aload_n 0, 1) := by decide +kernel
theorem ni_dL_deficit_4 : decode cL_deficit 4 = .ok (.iload_n 1, 1) := by decide +kernel
theorem ni_dL_deficit_5 : decode cL_deficit 5 = .ok (.iload_n 2, 1) := by decide +kernel
theorem ni_dL_deficit_6 : decode cL_deficit 6 = .ok (.iload_n 3, 1) := by decide +kernel
theorem ni_dL_deficit_7 : decode cL_deficit 7 = .ok (.invokevirtual 114, 3) := by decide +kernel
theorem ni_dL_deficit_15 : decode cL_deficit 15 = .ok (.astore 5, 2) := by decide +kernel
theorem ni_dL_deficit_17 : decode cL_deficit 17 = .ok (.iconst 1, 1) := by decide +kernel
theorem ni_dL_deficit_18 : decode cL_deficit 18 = .ok (.ireturn, 1) := by decide +kernel
theorem ni_dL_delivered_0 : decode cL_delivered 0 = .ok (.aload_n 2, 1) := by decide +kernel
theorem ni_dL_delivered_1 : decode cL_delivered 1 = .ok (.iconst 0, 1) := by decide +kernel
theorem ni_dL_delivered_2 : decode cL_delivered 2 = .ok (.aload_n 0, 1) := by decide +kernel
theorem ni_dL_delivered_3 : decode cL_delivered 3 = .ok (.iload_n 1, 1) := by decide +kernel
theorem ni_dL_delivered_4 : decode cL_delivered 4 = .ok (.invokevirtual 129, 3) := by decide +kernel
theorem ni_dL_delivered_12 : decode cL_delivered 12 = .ok (.astore_n 3, 1) := by decide +kernel
theorem ni_dL_delivered_13 : decode cL_delivered 13 = .ok (.iconst 1, 1) := by decide +kernel
theorem ni_dL_delivered_14 : decode cL_delivered 14 = .ok (.ireturn, 1) := by decide +kernel
theorem ni_dL_deliveredIn_0 : decode cL_deliveredIn 0 = .ok (.aload_n 3, 1) := by decide +kernel
theorem ni_dL_deliveredIn_1 : decode cL_deliveredIn 1 = .ok (.iconst 0, 1) := by decide +kernel
theorem ni_dL_deliveredIn_2 : decode cL_deliveredIn 2 = .ok (.aload_n 0, 1) := by decide +kernel
theorem ni_dL_deliveredIn_3 : decode cL_deliveredIn 3 = .ok (.iload_n 1, 1) := by decide +kernel
theorem ni_dL_deliveredIn_4 : decode cL_deliveredIn 4 = .ok (.iload_n 2, 1) := by decide +kernel
theorem ni_dL_deliveredIn_5 : decode cL_deliveredIn 5 = .ok (.invokevirtual 145, 3) := by decide +kernel
theorem ni_dL_deliveredIn_13 : decode cL_deliveredIn 13 = .ok (.astore 4, 2) := by decide +kernel
theorem ni_dL_deliveredIn_15 : decode cL_deliveredIn 15 = .ok (.iconst 1, 1) := by decide +kernel
theorem ni_dL_deliveredIn_16 : decode cL_deliveredIn 16 = .ok (.ireturn, 1) := by decide +kernel
theorem ni_dL_distance_0 : decode cL_distance 0 = .ok (.aload_n 3, 1) := by decide +kernel
theorem ni_dL_distance_1 : decode cL_distance 1 = .ok (.iconst 0, 1) := by decide +kernel
theorem ni_dL_distance_2 : decode cL_distance 2 = .ok (.aload_n 0, 1) := by decide +kernel
theorem ni_dL_distance_3 : decode cL_distance 3 = .ok (.iload_n 1, 1) := by decide +kernel
theorem ni_dL_distance_4 : decode cL_distance 4 = .ok (.iload_n 2, 1) := by decide +kernel
theorem ni_dL_distance_5 : decode cL_distance 5 = .ok (.invokevirtual 73, 3) := by decide +kernel
theorem ni_dL_distance_13 : decode cL_distance 13 = .ok (.astore 4, 2) := by decide +kernel
theorem ni_dL_distance_15 : decode cL_distance 15 = .ok (.iconst 1, 1) := by decide +kernel
theorem ni_dL_distance_16 : decode cL_distance 16 = .ok (.ireturn, 1) := by decide +kernel
theorem ni_dL_dropNetwork_0 : decode cL_dropNetwork 0 = .ok (.aload_n 2, 1) := by decide +kernel
theorem ni_dL_dropNetwork_1 : decode cL_dropNetwork 1 = .ok (.iconst 0, 1) := by decide +kernel
theorem ni_dL_dropNetwork_2 : decode cL_dropNetwork 2 = .ok (.aload_n 0, 1) := by decide +kernel
theorem ni_dL_dropNetwork_3 : decode cL_dropNetwork 3 = .ok (.iload_n 1, 1) := by decide +kernel
theorem ni_dL_dropNetwork_4 : decode cL_dropNetwork 4 = .ok (.invokevirtual 35, 3) := by decide +kernel
theorem ni_dL_dropNetwork_12 : decode cL_dropNetwork 12 = .ok (.astore_n 3, 1) := by decide +kernel
theorem ni_dL_dropNetwork_13 : decode cL_dropNetwork 13 = .ok (.iconst 1, 1) := by decide +kernel
theorem ni_dL_dropNetwork_14 : decode cL_dropNetwork 14 = .ok (.ireturn, 1) := by decide +kernel
theorem ni_dL_dropStatic_0 : decode cL_dropStatic 0 = .ok (.aload_n 2, 1) := by decide +kernel
theorem ni_dL_dropStatic_1 : decode cL_dropStatic 1 = .ok (.iconst 0, 1) := by decide +kernel
theorem ni_dL_dropStatic_2 : decode cL_dropStatic 2 = .ok (.aload_n 0, 1) := by decide +kernel
theorem ni_dL_dropStatic_3 : decode cL_dropStatic 3 = .ok (.iload_n 1, 1) := by decide +kernel
theorem ni_dL_dropStatic_4 : decode cL_dropStatic 4 = .ok (.invokevirtual 43, 3) := by decide +kernel
theorem ni_dL_dropStatic_12 : decode cL_dropStatic 12 = .ok (.astore_n 3, 1) := by decide +kernel
theorem ni_dL_dropStatic_13 : decode cL_dropStatic 13 = .ok (.iconst 1, 1) := by decide +kernel
theorem ni_dL_dropStatic_14 : decode cL_dropStatic 14 = .ok (.ireturn, 1) := by decide +kernel
theorem ni_dL_dropped_0 : decode cL_dropped 0 = .ok (.aload_n 3, 1) := by decide +kernel
theorem ni_dL_dropped_1 : decode cL_dropped 1 = .ok (.iconst 0, 1) := by decide +kernel
theorem ni_dL_dropped_2 : decode cL_dropped 2 = .ok (.aload_n 0, 1) := by decide +kernel
theorem ni_dL_dropped_3 : decode cL_dropped 3 = .ok (.iload_n 1, 1) := by decide +kernel
theorem ni_dL_dropped_4 : decode cL_dropped 4 = .ok (.iload_n 2, 1) := by decide +kernel
theorem ni_dL_dropped_5 : decode cL_dropped 5 = .ok (.invokevirtual 132, 3) := by decide +kernel
theorem ni_dL_dropped_13 : decode cL_dropped 13 = .ok (.astore 4, 2) := by decide +kernel
theorem ni_dL_dropped_15 : decode cL_dropped 15 = .ok (.iconst 1, 1) := by decide +kernel
theorem ni_dL_dropped_16 : decode cL_dropped 16 = .ok (.ireturn, 1) := by decide +kernel
theorem ni_dL_entries_0 : decode cL_entries 0 = .ok (.aload_n 2, 1) := by decide +kernel
theorem ni_dL_entries_1 : decode cL_entries 1 = .ok (.iconst 0, 1) := by decide +kernel
theorem ni_dL_entries_2 : decode cL_entries 2 = .ok (.aload_n 0, 1) := by decide +kernel
theorem ni_dL_entries_3 : decode cL_entries 3 = .ok (.iload_n 1, 1) := by decide +kernel
theorem ni_dL_entries_4 : decode cL_entries 4 = .ok (.invokevirtual 79, 3) := by decide +kernel
theorem ni_dL_entries_12 : decode cL_entries 12 = .ok (.astore_n 3, 1) := by decide +kernel
theorem ni_dL_entries_13 : decode cL_entries 13 = .ok (.iconst 1, 1) := by decide +kernel
theorem ni_dL_entries_14 : decode cL_entries 14 = .ok (.ireturn, 1) := by decide +kernel
theorem ni_dL_firstLinks_0 : decode cL_firstLinks 0 = .ok (.aload_n 3, 1) := by decide +kernel
theorem ni_dL_firstLinks_1 : decode cL_firstLinks 1 = .ok (.iconst 0, 1) := by decide +kernel
theorem ni_dL_firstLinks_2 : decode cL_firstLinks 2 = .ok (.aload_n 0, 1) := by decide +kernel
theorem ni_dL_firstLinks_3 : decode cL_firstLinks 3 = .ok (.iload_n 1, 1) := by decide +kernel
theorem ni_dL_firstLinks_4 : decode cL_firstLinks 4 = .ok (.iload_n 2, 1) := by decide +kernel
theorem ni_dL_firstLinks_5 : decode cL_firstLinks 5 = .ok (.invokevirtual 76, 3) := by decide +kernel
theorem ni_dL_firstLinks_13 : decode cL_firstLinks 13 = .ok (.astore 4, 2) := by decide +kernel
theorem ni_dL_firstLinks_15 : decode cL_firstLinks 15 = .ok (.iconst 1, 1) := by decide +kernel
theorem ni_dL_firstLinks_16 : decode cL_firstLinks 16 = .ok (.ireturn, 1) := by decide +kernel
theorem ni_dL_found_0 : decode cL_found 0 = .ok (.aload_n 3, 1) := by decide +kernel
theorem ni_dL_found_1 : decode cL_found 1 = .ok (.iconst 0, 1) := by decide +kernel
theorem ni_dL_found_2 : decode cL_found 2 = .ok (.aload_n 0, 1) := by decide +kernel
theorem ni_dL_found_3 : decode cL_found 3 = .ok (.iload_n 1, 1) := by decide +kernel
theorem ni_dL_found_4 : decode cL_found 4 = .ok (.iload_n 2, 1) := by decide +kernel
theorem ni_dL_found_5 : decode cL_found 5 = .ok (.invokevirtual 91, 3) := by decide +kernel
theorem ni_dL_found_13 : decode cL_found 13 = .ok (.astore 4, 2) := by decide +kernel
theorem ni_dL_found_15 : decode cL_found 15 = .ok (.iconst 1, 1) := by decide +kernel
theorem ni_dL_found_16 : decode cL_found 16 = .ok (.ireturn, 1) := by decide +kernel
theorem ni_dL_isUp_0 : decode cL_isUp 0 = .ok (.aload_n 2, 1) := by decide +kernel
theorem ni_dL_isUp_1 : decode cL_isUp 1 = .ok (.iconst 0, 1) := by decide +kernel
theorem ni_dL_isUp_2 : decode cL_isUp 2 = .ok (.aload_n 0, 1) := by decide +kernel
theorem ni_dL_isUp_3 : decode cL_isUp 3 = .ok (.iload_n 1, 1) := by decide +kernel
theorem ni_dL_isUp_4 : decode cL_isUp 4 = .ok (.invokevirtual 66, 3) := by decide +kernel
theorem ni_dL_isUp_19 : decode cL_isUp 19 = .ok (.astore_n 3, 1) := by decide +kernel
theorem ni_dL_isUp_20 : decode cL_isUp 20 = .ok (.iconst 1, 1) := by decide +kernel
theorem ni_dL_isUp_21 : decode cL_isUp 21 = .ok (.ireturn, 1) := by decide +kernel
theorem ni_dL_latest_0 : decode cL_latest 0 = .ok (.aload_n 2, 1) := by decide +kernel
theorem ni_dL_latest_1 : decode cL_latest 1 = .ok (.iconst 0, 1) := by decide +kernel
theorem ni_dL_latest_2 : decode cL_latest 2 = .ok (.aload_n 0, 1) := by decide +kernel
theorem ni_dL_latest_3 : decode cL_latest 3 = .ok (.iload_n 1, 1) := by decide +kernel
theorem ni_dL_latest_4 : decode cL_latest 4 = .ok (.invokevirtual 135, 3) := by decide +kernel
theorem ni_dL_latest_12 : decode cL_latest 12 = .ok (.astore_n 3, 1) := by decide +kernel
theorem ni_dL_latest_13 : decode cL_latest 13 = .ok (.iconst 1, 1) := by decide +kernel
theorem ni_dL_latest_14 : decode cL_latest 14 = .ok (.ireturn, 1) := by decide +kernel
theorem ni_dL_letterOf_0 : decode cL_letterOf 0 = .ok (.aload_n 3, 1) := by decide +kernel
theorem ni_dL_letterOf_1 : decode cL_letterOf 1 = .ok (.iconst 0, 1) := by decide +kernel
theorem ni_dL_letterOf_2 : decode cL_letterOf 2 = .ok (.aload_n 0, 1) := by decide +kernel
theorem ni_dL_letterOf_3 : decode cL_letterOf 3 = .ok (.iload_n 1, 1) := by decide +kernel
theorem ni_dL_letterOf_4 : decode cL_letterOf 4 = .ok (.iload_n 2, 1) := by decide +kernel
theorem ni_dL_letterOf_5 : decode cL_letterOf 5 = .ok (.invokevirtual 70, 3) := by decide +kernel
theorem ni_dL_letterOf_13 : decode cL_letterOf 13 = .ok (.astore 4, 2) := by decide +kernel
theorem ni_dL_letterOf_15 : decode cL_letterOf 15 = .ok (.iconst 1, 1) := by decide +kernel
theorem ni_dL_letterOf_16 : decode cL_letterOf 16 = .ok (.ireturn, 1) := by decide +kernel
theorem ni_dL_looks_0 : decode cL_looks 0 = .ok (.aload_n 3, 1) := by decide +kernel
theorem ni_dL_looks_1 : decode cL_looks 1 = .ok (.iconst 0, 1) := by decide +kernel
theorem ni_dL_looks_2 : decode cL_looks 2 = .ok (.aload_n 0, 1) := by decide +kernel
theorem ni_dL_looks_3 : decode cL_looks 3 = .ok (.iload_n 1, 1) := by decide +kernel
theorem ni_dL_looks_4 : decode cL_looks 4 = .ok (.iload_n 2, 1) := by decide +kernel
theorem ni_dL_looks_5 : decode cL_looks 5 = .ok (.invokevirtual 88, 3) := by decide +kernel
theorem ni_dL_looks_13 : decode cL_looks 13 = .ok (.astore 4, 2) := by decide +kernel
theorem ni_dL_looks_15 : decode cL_looks 15 = .ok (.iconst 1, 1) := by decide +kernel
theorem ni_dL_looks_16 : decode cL_looks 16 = .ok (.ireturn, 1) := by decide +kernel
theorem ni_dL_meanLate_0 : decode cL_meanLate 0 = .ok (.aload_n 2, 1) := by decide +kernel
theorem ni_dL_meanLate_1 : decode cL_meanLate 1 = .ok (.iconst 0, 1) := by decide +kernel
theorem ni_dL_meanLate_2 : decode cL_meanLate 2 = .ok (.aload_n 0, 1) := by decide +kernel
theorem ni_dL_meanLate_3 : decode cL_meanLate 3 = .ok (.iload_n 1, 1) := by decide +kernel
theorem ni_dL_meanLate_4 : decode cL_meanLate 4 = .ok (.invokevirtual 138, 3) := by decide +kernel
theorem ni_dL_meanLate_11 : decode cL_meanLate 11 = .ok (.astore_n 3, 1) := by decide +kernel
theorem ni_dL_meanLate_12 : decode cL_meanLate 12 = .ok (.iconst 1, 1) := by decide +kernel
theorem ni_dL_meanLate_13 : decode cL_meanLate 13 = .ok (.ireturn, 1) := by decide +kernel
theorem ni_dL_nextLink_0 : decode cL_nextLink 0 = .ok (.aload_n 3, 1) := by decide +kernel
theorem ni_dL_nextLink_1 : decode cL_nextLink 1 = .ok (.iconst 0, 1) := by decide +kernel
theorem ni_dL_nextLink_2 : decode cL_nextLink 2 = .ok (.aload_n 0, 1) := by decide +kernel
theorem ni_dL_nextLink_3 : decode cL_nextLink 3 = .ok (.iload_n 1, 1) := by decide +kernel
theorem ni_dL_nextLink_4 : decode cL_nextLink 4 = .ok (.iload_n 2, 1) := by decide +kernel
theorem ni_dL_nextLink_5 : decode cL_nextLink 5 = .ok (.invokevirtual 97, 3) := by decide +kernel
theorem ni_dL_nextLink_13 : decode cL_nextLink 13 = .ok (.astore 4, 2) := by decide +kernel
theorem ni_dL_nextLink_15 : decode cL_nextLink 15 = .ok (.iconst 1, 1) := by decide +kernel
theorem ni_dL_nextLink_16 : decode cL_nextLink 16 = .ok (.ireturn, 1) := by decide +kernel
theorem ni_dL_offered_0 : decode cL_offered 0 = .ok (.aload_n 2, 1) := by decide +kernel
theorem ni_dL_offered_1 : decode cL_offered 1 = .ok (.iconst 0, 1) := by decide +kernel
theorem ni_dL_offered_2 : decode cL_offered 2 = .ok (.aload_n 0, 1) := by decide +kernel
theorem ni_dL_offered_3 : decode cL_offered 3 = .ok (.iload_n 1, 1) := by decide +kernel
theorem ni_dL_offered_4 : decode cL_offered 4 = .ok (.invokevirtual 120, 3) := by decide +kernel
theorem ni_dL_offered_12 : decode cL_offered 12 = .ok (.astore_n 3, 1) := by decide +kernel
theorem ni_dL_offered_13 : decode cL_offered 13 = .ok (.iconst 1, 1) := by decide +kernel
theorem ni_dL_offered_14 : decode cL_offered 14 = .ok (.ireturn, 1) := by decide +kernel
theorem ni_dL_onLink_0 : decode cL_onLink 0 = .ok (.aload_n 2, 1) := by decide +kernel
theorem ni_dL_onLink_1 : decode cL_onLink 1 = .ok (.iconst 0, 1) := by decide +kernel
theorem ni_dL_onLink_2 : decode cL_onLink 2 = .ok (.aload_n 0, 1) := by decide +kernel
theorem ni_dL_onLink_3 : decode cL_onLink 3 = .ok (.iload_n 1, 1) := by decide +kernel
theorem ni_dL_onLink_4 : decode cL_onLink 4 = .ok (.invokevirtual 117, 3) := by decide +kernel
theorem ni_dL_onLink_12 : decode cL_onLink 12 = .ok (.astore_n 3, 1) := by decide +kernel
theorem ni_dL_onLink_13 : decode cL_onLink 13 = .ok (.iconst 1, 1) := by decide +kernel
theorem ni_dL_onLink_14 : decode cL_onLink 14 = .ok (.ireturn, 1) := by decide +kernel
theorem ni_dL_outOfOrder_0 : decode cL_outOfOrder 0 = .ok (.aload_n 2, 1) := by decide +kernel
theorem ni_dL_outOfOrder_1 : decode cL_outOfOrder 1 = .ok (.iconst 0, 1) := by decide +kernel
theorem ni_dL_outOfOrder_2 : decode cL_outOfOrder 2 = .ok (.aload_n 0, 1) := by decide +kernel
theorem ni_dL_outOfOrder_3 : decode cL_outOfOrder 3 = .ok (.iload_n 1, 1) := by decide +kernel
theorem ni_dL_outOfOrder_4 : decode cL_outOfOrder 4 = .ok (.invokevirtual 142, 3) := by decide +kernel
theorem ni_dL_outOfOrder_12 : decode cL_outOfOrder 12 = .ok (.astore_n 3, 1) := by decide +kernel
theorem ni_dL_outOfOrder_13 : decode cL_outOfOrder 13 = .ok (.iconst 1, 1) := by decide +kernel
theorem ni_dL_outOfOrder_14 : decode cL_outOfOrder 14 = .ok (.ireturn, 1) := by decide +kernel
theorem ni_dL_queued_0 : decode cL_queued 0 = .ok (.aload 4, 2) := by decide +kernel
theorem ni_dL_queued_2 : decode cL_queued 2 = .ok (.iconst 0, 1) := by decide +kernel
theorem ni_dL_queued_3 : decode cL_queued 3 = .ok (.aload_n 0, 1) := by decide +kernel
theorem ni_dL_queued_4 : decode cL_queued 4 = .ok (.iload_n 1, 1) := by decide +kernel
theorem ni_dL_queued_5 : decode cL_queued 5 = .ok (.iload_n 2, 1) := by decide +kernel
theorem ni_dL_queued_6 : decode cL_queued 6 = .ok (.iload_n 3, 1) := by decide +kernel
theorem ni_dL_queued_7 : decode cL_queued 7 = .ok (.invokevirtual 107, 3) := by decide +kernel
theorem ni_dL_queued_15 : decode cL_queued 15 = .ok (.astore 5, 2) := by decide +kernel
theorem ni_dL_queued_17 : decode cL_queued 17 = .ok (.iconst 1, 1) := by decide +kernel
theorem ni_dL_queued_18 : decode cL_queued 18 = .ok (.ireturn, 1) := by decide +kernel
theorem ni_dL_route_0 : decode cL_route 0 = .ok (.aload_n 2, 1) := by decide +kernel
theorem ni_dL_route_1 : decode cL_route 1 = .ok (.iconst 0, 1) := by decide +kernel
theorem ni_dL_route_2 : decode cL_route 2 = .ok (.aload_n 0, 1) := by decide +kernel
theorem ni_dL_route_3 : decode cL_route 3 = .ok (.iload_n 1, 1) := by decide +kernel
theorem ni_dL_route_4 : decode cL_route 4 = .ok (.invokevirtual 100, 3) := by decide +kernel
theorem ni_dL_route_12 : decode cL_route 12 = .ok (.astore_n 3, 1) := by decide +kernel
theorem ni_dL_route_13 : decode cL_route 13 = .ok (.iconst 1, 1) := by decide +kernel
theorem ni_dL_route_14 : decode cL_route 14 = .ok (.ireturn, 1) := by decide +kernel
theorem ni_dL_schedule_0 : decode cL_schedule 0 = .ok (.aload 5, 2) := by decide +kernel
theorem ni_dL_schedule_2 : decode cL_schedule 2 = .ok (.iconst 0, 1) := by decide +kernel
theorem ni_dL_schedule_3 : decode cL_schedule 3 = .ok (.aload_n 0, 1) := by decide +kernel
theorem ni_dL_schedule_4 : decode cL_schedule 4 = .ok (.iload_n 1, 1) := by decide +kernel
theorem ni_dL_schedule_5 : decode cL_schedule 5 = .ok (.iload_n 2, 1) := by decide +kernel
theorem ni_dL_schedule_6 : decode cL_schedule 6 = .ok (.iload_n 3, 1) := by decide +kernel
theorem ni_dL_schedule_7 : decode cL_schedule 7 = .ok (.iload 4, 2) := by decide +kernel
theorem ni_dL_schedule_9 : decode cL_schedule 9 = .ok (.invokevirtual 57, 3) := by decide +kernel
theorem ni_dL_schedule_17 : decode cL_schedule 17 = .ok (.astore 6, 2) := by decide +kernel
theorem ni_dL_schedule_19 : decode cL_schedule 19 = .ok (.iconst 1, 1) := by decide +kernel
theorem ni_dL_schedule_20 : decode cL_schedule 20 = .ok (.ireturn, 1) := by decide +kernel
theorem ni_dL_sending_0 : decode cL_sending 0 = .ok (.aload_n 3, 1) := by decide +kernel
theorem ni_dL_sending_1 : decode cL_sending 1 = .ok (.iconst 0, 1) := by decide +kernel
theorem ni_dL_sending_2 : decode cL_sending 2 = .ok (.aload_n 0, 1) := by decide +kernel
theorem ni_dL_sending_3 : decode cL_sending 3 = .ok (.iload_n 1, 1) := by decide +kernel
theorem ni_dL_sending_4 : decode cL_sending 4 = .ok (.iload_n 2, 1) := by decide +kernel
theorem ni_dL_sending_5 : decode cL_sending 5 = .ok (.invokevirtual 111, 3) := by decide +kernel
theorem ni_dL_sending_13 : decode cL_sending 13 = .ok (.astore 4, 2) := by decide +kernel
theorem ni_dL_sending_15 : decode cL_sending 15 = .ok (.iconst 1, 1) := by decide +kernel
theorem ni_dL_sending_16 : decode cL_sending 16 = .ok (.ireturn, 1) := by decide +kernel
theorem ni_dL_setCost_0 : decode cL_setCost 0 = .ok (.aload_n 3, 1) := by decide +kernel
theorem ni_dL_setCost_1 : decode cL_setCost 1 = .ok (.iconst 0, 1) := by decide +kernel
theorem ni_dL_setCost_2 : decode cL_setCost 2 = .ok (.aload_n 0, 1) := by decide +kernel
theorem ni_dL_setCost_3 : decode cL_setCost 3 = .ok (.iload_n 1, 1) := by decide +kernel
theorem ni_dL_setCost_4 : decode cL_setCost 4 = .ok (.iload_n 2, 1) := by decide +kernel
theorem ni_dL_setCost_5 : decode cL_setCost 5 = .ok (.invokevirtual 23, 3) := by decide +kernel
theorem ni_dL_setCost_13 : decode cL_setCost 13 = .ok (.astore 4, 2) := by decide +kernel
theorem ni_dL_setCost_15 : decode cL_setCost 15 = .ok (.iconst 1, 1) := by decide +kernel
theorem ni_dL_setCost_16 : decode cL_setCost 16 = .ok (.ireturn, 1) := by decide +kernel
theorem ni_dL_setPort_0 : decode cL_setPort 0 = .ok (.aload 6, 2) := by decide +kernel
theorem ni_dL_setPort_2 : decode cL_setPort 2 = .ok (.iconst 0, 1) := by decide +kernel
theorem ni_dL_setPort_3 : decode cL_setPort 3 = .ok (.aload_n 0, 1) := by decide +kernel
theorem ni_dL_setPort_4 : decode cL_setPort 4 = .ok (.iload_n 1, 1) := by decide +kernel
theorem ni_dL_setPort_5 : decode cL_setPort 5 = .ok (.iload_n 2, 1) := by decide +kernel
theorem ni_dL_setPort_6 : decode cL_setPort 6 = .ok (.iload_n 3, 1) := by decide +kernel
theorem ni_dL_setPort_7 : decode cL_setPort 7 = .ok (.iload 4, 2) := by decide +kernel
theorem ni_dL_setPort_9 : decode cL_setPort 9 = .ok (.iload 5, 2) := by decide +kernel
theorem ni_dL_setPort_11 : decode cL_setPort 11 = .ok (.invokevirtual 46, 3) := by decide +kernel
theorem ni_dL_setPort_19 : decode cL_setPort 19 = .ok (.astore 7, 2) := by decide +kernel
theorem ni_dL_setPort_21 : decode cL_setPort 21 = .ok (.iconst 1, 1) := by decide +kernel
theorem ni_dL_setPort_22 : decode cL_setPort 22 = .ok (.ireturn, 1) := by decide +kernel
theorem ni_dL_setUp_0 : decode cL_setUp 0 = .ok (.aload_n 3, 1) := by decide +kernel
theorem ni_dL_setUp_1 : decode cL_setUp 1 = .ok (.iconst 0, 1) := by decide +kernel
theorem ni_dL_setUp_2 : decode cL_setUp 2 = .ok (.aload_n 0, 1) := by decide +kernel
theorem ni_dL_setUp_3 : decode cL_setUp 3 = .ok (.iload_n 1, 1) := by decide +kernel
theorem ni_dL_setUp_4 : decode cL_setUp 4 = .ok (.iload_n 2, 1) := by decide +kernel
theorem ni_dL_setUp_5 : decode cL_setUp 5 = .ok (.invokevirtual 27, 3) := by decide +kernel
theorem ni_dL_setUp_20 : decode cL_setUp 20 = .ok (.astore 4, 2) := by decide +kernel
theorem ni_dL_setUp_22 : decode cL_setUp 22 = .ok (.iconst 1, 1) := by decide +kernel
theorem ni_dL_setUp_23 : decode cL_setUp 23 = .ok (.ireturn, 1) := by decide +kernel
theorem ni_dL_setWeight_0 : decode cL_setWeight 0 = .ok (.aload 5, 2) := by decide +kernel
theorem ni_dL_setWeight_2 : decode cL_setWeight 2 = .ok (.iconst 0, 1) := by decide +kernel
theorem ni_dL_setWeight_3 : decode cL_setWeight 3 = .ok (.aload_n 0, 1) := by decide +kernel
theorem ni_dL_setWeight_4 : decode cL_setWeight 4 = .ok (.iload_n 1, 1) := by decide +kernel
theorem ni_dL_setWeight_5 : decode cL_setWeight 5 = .ok (.iload_n 2, 1) := by decide +kernel
theorem ni_dL_setWeight_6 : decode cL_setWeight 6 = .ok (.iload_n 3, 1) := by decide +kernel
theorem ni_dL_setWeight_7 : decode cL_setWeight 7 = .ok (.iload 4, 2) := by decide +kernel
theorem ni_dL_setWeight_9 : decode cL_setWeight 9 = .ok (.invokevirtual 50, 3) := by decide +kernel
theorem ni_dL_setWeight_17 : decode cL_setWeight 17 = .ok (.astore 6, 2) := by decide +kernel
theorem ni_dL_setWeight_19 : decode cL_setWeight 19 = .ok (.iconst 1, 1) := by decide +kernel
theorem ni_dL_setWeight_20 : decode cL_setWeight 20 = .ok (.ireturn, 1) := by decide +kernel
theorem ni_dL_settledIn_0 : decode cL_settledIn 0 = .ok (.aload_n 2, 1) := by decide +kernel
theorem ni_dL_settledIn_1 : decode cL_settledIn 1 = .ok (.iconst 0, 1) := by decide +kernel
theorem ni_dL_settledIn_2 : decode cL_settledIn 2 = .ok (.aload_n 0, 1) := by decide +kernel
theorem ni_dL_settledIn_3 : decode cL_settledIn 3 = .ok (.iload_n 1, 1) := by decide +kernel
theorem ni_dL_settledIn_4 : decode cL_settledIn 4 = .ok (.invokevirtual 148, 3) := by decide +kernel
theorem ni_dL_settledIn_7 : decode cL_settledIn 7 = .ok (.i2l, 1) := by decide +kernel
theorem ni_dL_settledIn_8 : decode cL_settledIn 8 = .ok (.lastore, 1) := by decide +kernel
theorem ni_dL_settledIn_9 : decode cL_settledIn 9 = .ok (.goto 6, 3) := by decide +kernel
theorem ni_dL_settledIn_12 : decode cL_settledIn 12 = .ok (.astore_n 3, 1) := by decide +kernel
theorem ni_dL_settledIn_13 : decode cL_settledIn 13 = .ok (.iconst 1, 1) := by decide +kernel
theorem ni_dL_settledIn_14 : decode cL_settledIn 14 = .ok (.ireturn, 1) := by decide +kernel
theorem ni_dL_settledIn_15 : decode cL_settledIn 15 = .ok (.iconst 0, 1) := by decide +kernel
theorem ni_dL_settledIn_16 : decode cL_settledIn 16 = .ok (.ireturn, 1) := by decide +kernel
theorem ni_dL_shape_0 : decode cL_shape 0 = .ok (.aload 4, 2) := by decide +kernel
theorem ni_dL_shape_2 : decode cL_shape 2 = .ok (.iconst 0, 1) := by decide +kernel
theorem ni_dL_shape_3 : decode cL_shape 3 = .ok (.aload_n 0, 1) := by decide +kernel
theorem ni_dL_shape_4 : decode cL_shape 4 = .ok (.iload_n 1, 1) := by decide +kernel
theorem ni_dL_shape_5 : decode cL_shape 5 = .ok (.iload_n 2, 1) := by decide +kernel
theorem ni_dL_shape_6 : decode cL_shape 6 = .ok (.iload_n 3, 1) := by decide +kernel
theorem ni_dL_shape_7 : decode cL_shape 7 = .ok (.invokevirtual 60, 3) := by decide +kernel
theorem ni_dL_shape_15 : decode cL_shape 15 = .ok (.astore 5, 2) := by decide +kernel
theorem ni_dL_shape_17 : decode cL_shape 17 = .ok (.iconst 1, 1) := by decide +kernel
theorem ni_dL_shape_18 : decode cL_shape 18 = .ok (.ireturn, 1) := by decide +kernel
theorem ni_dL_shaping_0 : decode cL_shaping 0 = .ok (.aload_n 2, 1) := by decide +kernel
theorem ni_dL_shaping_1 : decode cL_shaping 1 = .ok (.iconst 0, 1) := by decide +kernel
theorem ni_dL_shaping_2 : decode cL_shaping 2 = .ok (.aload_n 0, 1) := by decide +kernel
theorem ni_dL_shaping_3 : decode cL_shaping 3 = .ok (.iload_n 1, 1) := by decide +kernel
theorem ni_dL_shaping_4 : decode cL_shaping 4 = .ok (.invokevirtual 123, 3) := by decide +kernel
theorem ni_dL_shaping_12 : decode cL_shaping 12 = .ok (.astore_n 3, 1) := by decide +kernel
theorem ni_dL_shaping_13 : decode cL_shaping 13 = .ok (.iconst 1, 1) := by decide +kernel
theorem ni_dL_shaping_14 : decode cL_shaping 14 = .ok (.ireturn, 1) := by decide +kernel
theorem ni_dL_sortOf_0 : decode cL_sortOf 0 = .ok (.aload_n 3, 1) := by decide +kernel
theorem ni_dL_sortOf_1 : decode cL_sortOf 1 = .ok (.iconst 0, 1) := by decide +kernel
theorem ni_dL_sortOf_2 : decode cL_sortOf 2 = .ok (.aload_n 0, 1) := by decide +kernel
theorem ni_dL_sortOf_3 : decode cL_sortOf 3 = .ok (.iload_n 1, 1) := by decide +kernel
theorem ni_dL_sortOf_4 : decode cL_sortOf 4 = .ok (.iload_n 2, 1) := by decide +kernel
theorem ni_dL_sortOf_5 : decode cL_sortOf 5 = .ok (.invokevirtual 94, 3) := by decide +kernel
theorem ni_dL_sortOf_13 : decode cL_sortOf 13 = .ok (.astore 4, 2) := by decide +kernel
theorem ni_dL_sortOf_15 : decode cL_sortOf 15 = .ok (.iconst 1, 1) := by decide +kernel
theorem ni_dL_sortOf_16 : decode cL_sortOf 16 = .ok (.ireturn, 1) := by decide +kernel
theorem ni_dL_step_0 : decode cL_step 0 = .ok (.aload_n 2, 1) := by decide +kernel
theorem ni_dL_step_1 : decode cL_step 1 = .ok (.iconst 0, 1) := by decide +kernel
theorem ni_dL_step_2 : decode cL_step 2 = .ok (.aload_n 0, 1) := by decide +kernel
theorem ni_dL_step_3 : decode cL_step 3 = .ok (.iload_n 1, 1) := by decide +kernel
theorem ni_dL_step_4 : decode cL_step 4 = .ok (.invokevirtual 63, 3) := by decide +kernel
theorem ni_dL_step_7 : decode cL_step 7 = .ok (.i2l, 1) := by decide +kernel
theorem ni_dL_step_8 : decode cL_step 8 = .ok (.lastore, 1) := by decide +kernel
theorem ni_dL_step_9 : decode cL_step 9 = .ok (.goto 6, 3) := by decide +kernel
theorem ni_dL_step_12 : decode cL_step 12 = .ok (.astore_n 3, 1) := by decide +kernel
theorem ni_dL_step_13 : decode cL_step 13 = .ok (.iconst 1, 1) := by decide +kernel
theorem ni_dL_step_14 : decode cL_step 14 = .ok (.ireturn, 1) := by decide +kernel
theorem ni_dL_step_15 : decode cL_step 15 = .ok (.iconst 0, 1) := by decide +kernel
theorem ni_dL_step_16 : decode cL_step 16 = .ok (.ireturn, 1) := by decide +kernel
theorem ni_dL_tokens_0 : decode cL_tokens 0 = .ok (.aload_n 2, 1) := by decide +kernel
theorem ni_dL_tokens_1 : decode cL_tokens 1 = .ok (.iconst 0, 1) := by decide +kernel
theorem ni_dL_tokens_2 : decode cL_tokens 2 = .ok (.aload_n 0, 1) := by decide +kernel
theorem ni_dL_tokens_3 : decode cL_tokens 3 = .ok (.iload_n 1, 1) := by decide +kernel
theorem ni_dL_tokens_4 : decode cL_tokens 4 = .ok (.invokevirtual 126, 3) := by decide +kernel
theorem ni_dL_tokens_12 : decode cL_tokens 12 = .ok (.astore_n 3, 1) := by decide +kernel
theorem ni_dL_tokens_13 : decode cL_tokens 13 = .ok (.iconst 1, 1) := by decide +kernel
theorem ni_dL_tokens_14 : decode cL_tokens 14 = .ok (.ireturn, 1) := by decide +kernel
theorem ni_dL_trieDepth_0 : decode cL_trieDepth 0 = .ok (.aload_n 2, 1) := by decide +kernel
theorem ni_dL_trieDepth_1 : decode cL_trieDepth 1 = .ok (.iconst 0, 1) := by decide +kernel
theorem ni_dL_trieDepth_2 : decode cL_trieDepth 2 = .ok (.aload_n 0, 1) := by decide +kernel
theorem ni_dL_trieDepth_3 : decode cL_trieDepth 3 = .ok (.iload_n 1, 1) := by decide +kernel
theorem ni_dL_trieDepth_4 : decode cL_trieDepth 4 = .ok (.invokevirtual 85, 3) := by decide +kernel
theorem ni_dL_trieDepth_12 : decode cL_trieDepth 12 = .ok (.astore_n 3, 1) := by decide +kernel
theorem ni_dL_trieDepth_13 : decode cL_trieDepth 13 = .ok (.iconst 1, 1) := by decide +kernel
theorem ni_dL_trieDepth_14 : decode cL_trieDepth 14 = .ok (.ireturn, 1) := by decide +kernel
theorem ni_dL_trieNodes_0 : decode cL_trieNodes 0 = .ok (.aload_n 2, 1) := by decide +kernel
theorem ni_dL_trieNodes_1 : decode cL_trieNodes 1 = .ok (.iconst 0, 1) := by decide +kernel
theorem ni_dL_trieNodes_2 : decode cL_trieNodes 2 = .ok (.aload_n 0, 1) := by decide +kernel
theorem ni_dL_trieNodes_3 : decode cL_trieNodes 3 = .ok (.iload_n 1, 1) := by decide +kernel
theorem ni_dL_trieNodes_4 : decode cL_trieNodes 4 = .ok (.invokevirtual 82, 3) := by decide +kernel
theorem ni_dL_trieNodes_12 : decode cL_trieNodes 12 = .ok (.astore_n 3, 1) := by decide +kernel
theorem ni_dL_trieNodes_13 : decode cL_trieNodes 13 = .ok (.iconst 1, 1) := by decide +kernel
theorem ni_dL_trieNodes_14 : decode cL_trieNodes 14 = .ok (.ireturn, 1) := by decide +kernel
theorem ni_dL_waiting_0 : decode cL_waiting 0 = .ok (.aload_n 3, 1) := by decide +kernel
theorem ni_dL_waiting_1 : decode cL_waiting 1 = .ok (.iconst 0, 1) := by decide +kernel
theorem ni_dL_waiting_2 : decode cL_waiting 2 = .ok (.aload_n 0, 1) := by decide +kernel
theorem ni_dL_waiting_3 : decode cL_waiting 3 = .ok (.iload_n 1, 1) := by decide +kernel
theorem ni_dL_waiting_4 : decode cL_waiting 4 = .ok (.iload_n 2, 1) := by decide +kernel
theorem ni_dL_waiting_5 : decode cL_waiting 5 = .ok (.invokevirtual 103, 3) := by decide +kernel
theorem ni_dL_waiting_13 : decode cL_waiting 13 = .ok (.astore 4, 2) := by decide +kernel
theorem ni_dL_waiting_15 : decode cL_waiting 15 = .ok (.iconst 1, 1) := by decide +kernel
theorem ni_dL_waiting_16 : decode cL_waiting 16 = .ok (.ireturn, 1) := by decide +kernel
theorem ni_dX19_init_0 : decode cX19_init 0 = .ok (.aload_n 0, 1) := by decide +kernel
theorem ni_dX19_init_1 : decode cX19_init 1 = .ok (.invokespecial 1, 3) := by decide +kernel
theorem ni_dX19_init_4 : decode cX19_init 4 = .ok (.aload_n 0, 1) := by decide +kernel
theorem ni_dX19_init_5 : decode cX19_init 5 = .ok (.new 7, 3) := by decide +kernel
theorem ni_dX19_init_8 : decode cX19_init 8 = .ok (.dup, 1) := by decide +kernel
theorem ni_dX19_init_9 : decode cX19_init 9 = .ok (.invokespecial 9, 3) := by decide +kernel
theorem ni_dX19_init_12 : decode cX19_init 12 = .ok (.putfield 10, 3) := by decide +kernel
theorem ni_dX19_init_15 : decode cX19_init 15 = .ok (.return_, 1) := by decide +kernel
theorem ni_dX19_add_0 : decode cX19_add 0 = .ok (.lload_n 0, 1) := by decide +kernel
theorem ni_dX19_add_1 : decode cX19_add 1 = .ok (.ldc2_w 344, 3) := by decide +kernel
theorem ni_dX19_add_4 : decode cX19_add 4 = .ok (.lmul, 1) := by decide +kernel
theorem ni_dX19_add_5 : decode cX19_add 5 = .ok (.lload_n 2, 1) := by decide +kernel
theorem ni_dX19_add_6 : decode cX19_add 6 = .ok (.ladd, 1) := by decide +kernel
theorem ni_dX19_add_7 : decode cX19_add 7 = .ok (.lreturn, 1) := by decide +kernel
theorem ni_dX19_addFlow_0 : decode cX19_addFlow 0 = .ok (.aload_n 0, 1) := by decide +kernel
theorem ni_dX19_addFlow_1 : decode cX19_addFlow 1 = .ok (.iload_n 1, 1) := by decide +kernel
theorem ni_dX19_addFlow_2 : decode cX19_addFlow 2 = .ok (.invokevirtual 75, 3) := by decide +kernel
theorem ni_dX19_addFlow_5 : decode cX19_addFlow 5 = .ok (.ifCond .ne 76, 3) := by decide +kernel
theorem ni_dX19_addFlow_81 : decode cX19_addFlow 81 = .ok (.iconst 0, 1) := by decide +kernel
theorem ni_dX19_addFlow_82 : decode cX19_addFlow 82 = .ok (.ireturn, 1) := by decide +kernel
theorem ni_dX19_addLink_0 : decode cX19_addLink 0 = .ok (.aload_n 0, 1) := by decide +kernel
theorem ni_dX19_addLink_1 : decode cX19_addLink 1 = .ok (.iload_n 1, 1) := by decide +kernel
theorem ni_dX19_addLink_2 : decode cX19_addLink 2 = .ok (.iload_n 2, 1) := by decide +kernel
theorem ni_dX19_addLink_3 : decode cX19_addLink 3 = .ok (.invokevirtual 86, 3) := by decide +kernel
theorem ni_dX19_addLink_6 : decode cX19_addLink 6 = .ok (.ifCond .ne 79, 3) := by decide +kernel
theorem ni_dX19_addLink_85 : decode cX19_addLink 85 = .ok (.iconst 0, 1) := by decide +kernel
theorem ni_dX19_addLink_86 : decode cX19_addLink 86 = .ok (.ireturn, 1) := by decide +kernel
theorem ni_dX19_addNetwork_0 : decode cX19_addNetwork 0 = .ok (.aload_n 0, 1) := by decide +kernel
theorem ni_dX19_addNetwork_1 : decode cX19_addNetwork 1 = .ok (.iload_n 1, 1) := by decide +kernel
theorem ni_dX19_addNetwork_2 : decode cX19_addNetwork 2 = .ok (.invokevirtual 75, 3) := by decide +kernel
theorem ni_dX19_addNetwork_5 : decode cX19_addNetwork 5 = .ok (.ifCond .ne 59, 3) := by decide +kernel
theorem ni_dX19_addNetwork_64 : decode cX19_addNetwork 64 = .ok (.iconst 0, 1) := by decide +kernel
theorem ni_dX19_addNetwork_65 : decode cX19_addNetwork 65 = .ok (.ireturn, 1) := by decide +kernel
theorem ni_dX19_addRouter_0 : decode cX19_addRouter 0 = .ok (.aload_n 0, 1) := by decide +kernel
theorem ni_dX19_addRouter_1 : decode cX19_addRouter 1 = .ok (.aload_n 0, 1) := by decide +kernel
theorem ni_dX19_addRouter_2 : decode cX19_addRouter 2 = .ok (.getfield 10, 3) := by decide +kernel
theorem ni_dX19_addRouter_5 : decode cX19_addRouter 5 = .ok (.getfield 66, 3) := by decide +kernel
theorem ni_dX19_addRouter_8 : decode cX19_addRouter 8 = .ok (.bipush 8, 2) := by decide +kernel
theorem ni_dX19_addRouter_10 : decode cX19_addRouter 10 = .ok (.if_icmp .ne 7, 3) := by decide +kernel
theorem ni_dX19_addRouter_17 : decode cX19_addRouter 17 = .ok (.iconst 0, 1) := by decide +kernel
theorem ni_dX19_addRouter_18 : decode cX19_addRouter 18 = .ok (.iconst 1, 1) := by decide +kernel
theorem ni_dX19_addRouter_19 : decode cX19_addRouter 19 = .ok (.invokevirtual 72, 3) := by decide +kernel
theorem ni_dX19_addRouter_22 : decode cX19_addRouter 22 = .ok (.ifCond .eq 5, 3) := by decide +kernel
theorem ni_dX19_addRouter_27 : decode cX19_addRouter 27 = .ok (.aload_n 0, 1) := by decide +kernel
theorem ni_dX19_addRouter_28 : decode cX19_addRouter 28 = .ok (.getfield 10, 3) := by decide +kernel
theorem ni_dX19_addRouter_31 : decode cX19_addRouter 31 = .ok (.dup, 1) := by decide +kernel
theorem ni_dX19_addRouter_32 : decode cX19_addRouter 32 = .ok (.getfield 66, 3) := by decide +kernel
theorem ni_dX19_addRouter_35 : decode cX19_addRouter 35 = .ok (.iconst 1, 1) := by decide +kernel
theorem ni_dX19_addRouter_36 : decode cX19_addRouter 36 = .ok (.iadd, 1) := by decide +kernel
theorem ni_dX19_addRouter_37 : decode cX19_addRouter 37 = .ok (.putfield 66, 3) := by decide +kernel
theorem ni_dX19_addRouter_40 : decode cX19_addRouter 40 = .ok (.aload_n 0, 1) := by decide +kernel
theorem ni_dX19_addRouter_41 : decode cX19_addRouter 41 = .ok (.getfield 10, 3) := by decide +kernel
theorem ni_dX19_addRouter_44 : decode cX19_addRouter 44 = .ok (.getfield 66, 3) := by decide +kernel
theorem ni_dX19_addRouter_47 : decode cX19_addRouter 47 = .ok (.iconst 1, 1) := by decide +kernel
theorem ni_dX19_addRouter_48 : decode cX19_addRouter 48 = .ok (.isub, 1) := by decide +kernel
theorem ni_dX19_addRouter_49 : decode cX19_addRouter 49 = .ok (.ireturn, 1) := by decide +kernel
theorem ni_dX19_addStatic_0 : decode cX19_addStatic 0 = .ok (.aload_n 0, 1) := by decide +kernel
theorem ni_dX19_addStatic_1 : decode cX19_addStatic 1 = .ok (.iload_n 1, 1) := by decide +kernel
theorem ni_dX19_addStatic_2 : decode cX19_addStatic 2 = .ok (.invokevirtual 75, 3) := by decide +kernel
theorem ni_dX19_addStatic_5 : decode cX19_addStatic 5 = .ok (.ifCond .ne 93, 3) := by decide +kernel
theorem ni_dX19_addStatic_98 : decode cX19_addStatic 98 = .ok (.iconst 0, 1) := by decide +kernel
theorem ni_dX19_addStatic_99 : decode cX19_addStatic 99 = .ok (.ireturn, 1) := by decide +kernel
theorem ni_dX19_areNone_0 : decode cX19_areNone 0 = .ok (.aload_n 0, 1) := by decide +kernel
theorem ni_dX19_areNone_1 : decode cX19_areNone 1 = .ok (.iload_n 1, 1) := by decide +kernel
theorem ni_dX19_areNone_2 : decode cX19_areNone 2 = .ok (.invokevirtual 75, 3) := by decide +kernel
theorem ni_dX19_areNone_5 : decode cX19_areNone 5 = .ok (.ifCond .ne 33, 3) := by decide +kernel
theorem ni_dX19_areNone_38 : decode cX19_areNone 38 = .ok (.iconst 1, 1) := by decide +kernel
theorem ni_dX19_areNone_39 : decode cX19_areNone 39 = .ok (.goto 4, 3) := by decide +kernel
theorem ni_dX19_areNone_43 : decode cX19_areNone 43 = .ok (.ireturn, 1) := by decide +kernel
theorem ni_dX19_deficit_0 : decode cX19_deficit 0 = .ok (.aload_n 0, 1) := by decide +kernel
theorem ni_dX19_deficit_1 : decode cX19_deficit 1 = .ok (.iload_n 1, 1) := by decide +kernel
theorem ni_dX19_deficit_2 : decode cX19_deficit 2 = .ok (.iload_n 3, 1) := by decide +kernel
theorem ni_dX19_deficit_3 : decode cX19_deficit 3 = .ok (.invokevirtual 302, 3) := by decide +kernel
theorem ni_dX19_deficit_6 : decode cX19_deficit 6 = .ok (.ifCond .eq 7, 3) := by decide +kernel
theorem ni_dX19_deficit_9 : decode cX19_deficit 9 = .ok (.iconst 0, 1) := by decide +kernel
theorem ni_dX19_deficit_10 : decode cX19_deficit 10 = .ok (.goto 14, 3) := by decide +kernel
theorem ni_dX19_deficit_24 : decode cX19_deficit 24 = .ok (.ireturn, 1) := by decide +kernel
theorem ni_dX19_delivered_0 : decode cX19_delivered 0 = .ok (.aload_n 0, 1) := by decide +kernel
theorem ni_dX19_delivered_1 : decode cX19_delivered 1 = .ok (.iload_n 1, 1) := by decide +kernel
theorem ni_dX19_delivered_2 : decode cX19_delivered 2 = .ok (.invokevirtual 213, 3) := by decide +kernel
theorem ni_dX19_delivered_5 : decode cX19_delivered 5 = .ok (.ifCond .eq 7, 3) := by decide +kernel
theorem ni_dX19_delivered_8 : decode cX19_delivered 8 = .ok (.iconst 0, 1) := by decide +kernel
theorem ni_dX19_delivered_9 : decode cX19_delivered 9 = .ok (.goto 20, 3) := by decide +kernel
theorem ni_dX19_delivered_29 : decode cX19_delivered 29 = .ok (.ireturn, 1) := by decide +kernel
theorem ni_dX19_deliveredIn_0 : decode cX19_deliveredIn 0 = .ok (.aload_n 0, 1) := by decide +kernel
theorem ni_dX19_deliveredIn_1 : decode cX19_deliveredIn 1 = .ok (.iload_n 1, 1) := by decide +kernel
theorem ni_dX19_deliveredIn_2 : decode cX19_deliveredIn 2 = .ok (.invokevirtual 213, 3) := by decide +kernel
theorem ni_dX19_deliveredIn_5 : decode cX19_deliveredIn 5 = .ok (.ifCond .ne 26, 3) := by decide +kernel
theorem ni_dX19_deliveredIn_31 : decode cX19_deliveredIn 31 = .ok (.iconst 0, 1) := by decide +kernel
theorem ni_dX19_deliveredIn_32 : decode cX19_deliveredIn 32 = .ok (.ireturn, 1) := by decide +kernel
theorem ni_dX19_digest_0 : decode cX19_digest 0 = .ok (.aload_n 0, 1) := by decide +kernel
theorem ni_dX19_digest_1 : decode cX19_digest 1 = .ok (.iconst 0, 1) := by decide +kernel
theorem ni_dX19_digest_2 : decode cX19_digest 2 = .ok (.putfield 59, 3) := by decide +kernel
theorem ni_dX19_digest_5 : decode cX19_digest 5 = .ok (.ldc2_w 346, 3) := by decide +kernel
theorem ni_dX19_digest_8 : decode cX19_digest 8 = .ok (.aload_n 0, 1) := by decide +kernel
theorem ni_dX19_digest_9 : decode cX19_digest 9 = .ok (.getfield 10, 3) := by decide +kernel
theorem ni_dX19_digest_12 : decode cX19_digest 12 = .ok (.getfield 216, 3) := by decide +kernel
theorem ni_dX19_digest_15 : decode cX19_digest 15 = .ok (.i2l, 1) := by decide +kernel
theorem ni_dX19_digest_16 : decode cX19_digest 16 = .ok (.invokestatic 348, 3) := by decide +kernel
theorem ni_dX19_digest_19 : decode cX19_digest 19 = .ok (.aload_n 0, 1) := by decide +kernel
theorem ni_dX19_digest_20 : decode cX19_digest 20 = .ok (.getfield 10, 3) := by decide +kernel
theorem ni_dX19_digest_23 : decode cX19_digest 23 = .ok (.getfield 66, 3) := by decide +kernel
theorem ni_dX19_digest_26 : decode cX19_digest 26 = .ok (.i2l, 1) := by decide +kernel
theorem ni_dX19_digest_27 : decode cX19_digest 27 = .ok (.invokestatic 348, 3) := by decide +kernel
theorem ni_dX19_digest_30 : decode cX19_digest 30 = .ok (.aload_n 0, 1) := by decide +kernel
theorem ni_dX19_digest_31 : decode cX19_digest 31 = .ok (.getfield 10, 3) := by decide +kernel
theorem ni_dX19_digest_34 : decode cX19_digest 34 = .ok (.getfield 79, 3) := by decide +kernel
theorem ni_dX19_digest_37 : decode cX19_digest 37 = .ok (.i2l, 1) := by decide +kernel
theorem ni_dX19_digest_38 : decode cX19_digest 38 = .ok (.invokestatic 348, 3) := by decide +kernel
theorem ni_dX19_digest_41 : decode cX19_digest 41 = .ok (.aload_n 0, 1) := by decide +kernel
theorem ni_dX19_digest_42 : decode cX19_digest 42 = .ok (.getfield 10, 3) := by decide +kernel
theorem ni_dX19_digest_45 : decode cX19_digest 45 = .ok (.getfield 131, 3) := by decide +kernel
theorem ni_dX19_digest_48 : decode cX19_digest 48 = .ok (.i2l, 1) := by decide +kernel
theorem ni_dX19_digest_49 : decode cX19_digest 49 = .ok (.invokestatic 348, 3) := by decide +kernel
theorem ni_dX19_digest_52 : decode cX19_digest 52 = .ok (.aload_n 0, 1) := by decide +kernel
theorem ni_dX19_digest_53 : decode cX19_digest 53 = .ok (.getfield 10, 3) := by decide +kernel
theorem ni_dX19_digest_56 : decode cX19_digest 56 = .ok (.getfield 156, 3) := by decide +kernel
theorem ni_dX19_digest_59 : decode cX19_digest 59 = .ok (.i2l, 1) := by decide +kernel
theorem ni_dX19_digest_60 : decode cX19_digest 60 = .ok (.invokestatic 348, 3) := by decide +kernel
theorem ni_dX19_digest_63 : decode cX19_digest 63 = .ok (.aload_n 0, 1) := by decide +kernel
theorem ni_dX19_digest_64 : decode cX19_digest 64 = .ok (.getfield 10, 3) := by decide +kernel
theorem ni_dX19_digest_67 : decode cX19_digest 67 = .ok (.getfield 82, 3) := by decide +kernel
theorem ni_dX19_digest_70 : decode cX19_digest 70 = .ok (.invokevirtual 20, 3) := by decide +kernel
theorem ni_dX19_digest_73 : decode cX19_digest 73 = .ok (.i2l, 1) := by decide +kernel
theorem ni_dX19_digest_74 : decode cX19_digest 74 = .ok (.invokestatic 348, 3) := by decide +kernel
theorem ni_dX19_digest_77 : decode cX19_digest 77 = .ok (.aload_n 0, 1) := by decide +kernel
theorem ni_dX19_digest_78 : decode cX19_digest 78 = .ok (.getfield 10, 3) := by decide +kernel
theorem ni_dX19_digest_81 : decode cX19_digest 81 = .ok (.invokevirtual 254, 3) := by decide +kernel
theorem ni_dX19_digest_84 : decode cX19_digest 84 = .ok (.i2l, 1) := by decide +kernel
theorem ni_dX19_digest_85 : decode cX19_digest 85 = .ok (.invokestatic 348, 3) := by decide +kernel
theorem ni_dX19_digest_88 : decode cX19_digest 88 = .ok (.lstore_n 1, 1) := by decide +kernel
theorem ni_dX19_digest_89 : decode cX19_digest 89 = .ok (.iconst 0, 1) := by decide +kernel
theorem ni_dX19_digest_90 : decode cX19_digest 90 = .ok (.istore_n 3, 1) := by decide +kernel
theorem ni_dX19_digest_91 : decode cX19_digest 91 = .ok (.iload_n 3, 1) := by decide +kernel
theorem ni_dX19_digest_92 : decode cX19_digest 92 = .ok (.aload_n 0, 1) := by decide +kernel
theorem ni_dX19_digest_93 : decode cX19_digest 93 = .ok (.getfield 10, 3) := by decide +kernel
theorem ni_dX19_digest_96 : decode cX19_digest 96 = .ok (.getfield 66, 3) := by decide +kernel
theorem ni_dX19_digest_99 : decode cX19_digest 99 = .ok (.if_icmp .ge 145, 3) := by decide +kernel
theorem ni_dX19_digest_244 : decode cX19_digest 244 = .ok (.iconst 0, 1) := by decide +kernel
theorem ni_dX19_digest_245 : decode cX19_digest 245 = .ok (.istore_n 3, 1) := by decide +kernel
theorem ni_dX19_digest_246 : decode cX19_digest 246 = .ok (.iload_n 3, 1) := by decide +kernel
theorem ni_dX19_digest_247 : decode cX19_digest 247 = .ok (.aload_n 0, 1) := by decide +kernel
theorem ni_dX19_digest_248 : decode cX19_digest 248 = .ok (.getfield 10, 3) := by decide +kernel
theorem ni_dX19_digest_251 : decode cX19_digest 251 = .ok (.getfield 79, 3) := by decide +kernel
theorem ni_dX19_digest_254 : decode cX19_digest 254 = .ok (.if_icmp .ge 136, 3) := by decide +kernel
theorem ni_dX19_digest_390 : decode cX19_digest 390 = .ok (.iconst 0, 1) := by decide +kernel
theorem ni_dX19_digest_391 : decode cX19_digest 391 = .ok (.istore_n 3, 1) := by decide +kernel
theorem ni_dX19_digest_392 : decode cX19_digest 392 = .ok (.iload_n 3, 1) := by decide +kernel
theorem ni_dX19_digest_393 : decode cX19_digest 393 = .ok (.aload_n 0, 1) := by decide +kernel
theorem ni_dX19_digest_394 : decode cX19_digest 394 = .ok (.getfield 10, 3) := by decide +kernel
theorem ni_dX19_digest_397 : decode cX19_digest 397 = .ok (.getfield 82, 3) := by decide +kernel
theorem ni_dX19_digest_400 : decode cX19_digest 400 = .ok (.invokevirtual 20, 3) := by decide +kernel
theorem ni_dX19_digest_403 : decode cX19_digest 403 = .ok (.if_icmp .ge 165, 3) := by decide +kernel
theorem ni_dX19_digest_568 : decode cX19_digest 568 = .ok (.lload_n 1, 1) := by decide +kernel
theorem ni_dX19_digest_569 : decode cX19_digest 569 = .ok (.lreturn, 1) := by decide +kernel
theorem ni_dX19_distance_0 : decode cX19_distance 0 = .ok (.aload_n 0, 1) := by decide +kernel
theorem ni_dX19_distance_1 : decode cX19_distance 1 = .ok (.iload_n 1, 1) := by decide +kernel
theorem ni_dX19_distance_2 : decode cX19_distance 2 = .ok (.iload_n 2, 1) := by decide +kernel
theorem ni_dX19_distance_3 : decode cX19_distance 3 = .ok (.invokevirtual 86, 3) := by decide +kernel
theorem ni_dX19_distance_6 : decode cX19_distance 6 = .ok (.ifCond .eq 7, 3) := by decide +kernel
theorem ni_dX19_distance_9 : decode cX19_distance 9 = .ok (.iconst 0, 1) := by decide +kernel
theorem ni_dX19_distance_10 : decode cX19_distance 10 = .ok (.goto 17, 3) := by decide +kernel
theorem ni_dX19_distance_27 : decode cX19_distance 27 = .ok (.ireturn, 1) := by decide +kernel
theorem ni_dX19_dropNetwork_0 : decode cX19_dropNetwork 0 = .ok (.aload_n 0, 1) := by decide +kernel
theorem ni_dX19_dropNetwork_1 : decode cX19_dropNetwork 1 = .ok (.iload_n 1, 1) := by decide +kernel
theorem ni_dX19_dropNetwork_2 : decode cX19_dropNetwork 2 = .ok (.iconst 0, 1) := by decide +kernel
theorem ni_dX19_dropNetwork_3 : decode cX19_dropNetwork 3 = .ok (.aload_n 0, 1) := by decide +kernel
theorem ni_dX19_dropNetwork_4 : decode cX19_dropNetwork 4 = .ok (.getfield 10, 3) := by decide +kernel
theorem ni_dX19_dropNetwork_7 : decode cX19_dropNetwork 7 = .ok (.getfield 131, 3) := by decide +kernel
theorem ni_dX19_dropNetwork_10 : decode cX19_dropNetwork 10 = .ok (.iconst 1, 1) := by decide +kernel
theorem ni_dX19_dropNetwork_11 : decode cX19_dropNetwork 11 = .ok (.isub, 1) := by decide +kernel
theorem ni_dX19_dropNetwork_12 : decode cX19_dropNetwork 12 = .ok (.invokestatic 69, 3) := by decide +kernel
theorem ni_dX19_dropNetwork_15 : decode cX19_dropNetwork 15 = .ok (.ifCond .ne 7, 3) := by decide +kernel
theorem ni_dX19_dropNetwork_18 : decode cX19_dropNetwork 18 = .ok (.iconst 1, 1) := by decide +kernel
theorem ni_dX19_dropNetwork_19 : decode cX19_dropNetwork 19 = .ok (.goto 4, 3) := by decide +kernel
theorem ni_dX19_dropNetwork_23 : decode cX19_dropNetwork 23 = .ok (.iconst 1, 1) := by decide +kernel
theorem ni_dX19_dropNetwork_24 : decode cX19_dropNetwork 24 = .ok (.invokevirtual 72, 3) := by decide +kernel
theorem ni_dX19_dropNetwork_27 : decode cX19_dropNetwork 27 = .ok (.ifCond .eq 5, 3) := by decide +kernel
theorem ni_dX19_dropNetwork_30 : decode cX19_dropNetwork 30 = .ok (.iconst 0, 1) := by decide +kernel
theorem ni_dX19_dropNetwork_31 : decode cX19_dropNetwork 31 = .ok (.ireturn, 1) := by decide +kernel
theorem ni_dX19_dropStatic_0 : decode cX19_dropStatic 0 = .ok (.aload_n 0, 1) := by decide +kernel
theorem ni_dX19_dropStatic_1 : decode cX19_dropStatic 1 = .ok (.iload_n 1, 1) := by decide +kernel
theorem ni_dX19_dropStatic_2 : decode cX19_dropStatic 2 = .ok (.iconst 0, 1) := by decide +kernel
theorem ni_dX19_dropStatic_3 : decode cX19_dropStatic 3 = .ok (.aload_n 0, 1) := by decide +kernel
theorem ni_dX19_dropStatic_4 : decode cX19_dropStatic 4 = .ok (.getfield 10, 3) := by decide +kernel
theorem ni_dX19_dropStatic_7 : decode cX19_dropStatic 7 = .ok (.getfield 156, 3) := by decide +kernel
theorem ni_dX19_dropStatic_10 : decode cX19_dropStatic 10 = .ok (.iconst 1, 1) := by decide +kernel
theorem ni_dX19_dropStatic_11 : decode cX19_dropStatic 11 = .ok (.isub, 1) := by decide +kernel
theorem ni_dX19_dropStatic_12 : decode cX19_dropStatic 12 = .ok (.invokestatic 69, 3) := by decide +kernel
theorem ni_dX19_dropStatic_15 : decode cX19_dropStatic 15 = .ok (.ifCond .ne 7, 3) := by decide +kernel
theorem ni_dX19_dropStatic_18 : decode cX19_dropStatic 18 = .ok (.iconst 1, 1) := by decide +kernel
theorem ni_dX19_dropStatic_19 : decode cX19_dropStatic 19 = .ok (.goto 4, 3) := by decide +kernel
theorem ni_dX19_dropStatic_23 : decode cX19_dropStatic 23 = .ok (.iconst 1, 1) := by decide +kernel
theorem ni_dX19_dropStatic_24 : decode cX19_dropStatic 24 = .ok (.invokevirtual 72, 3) := by decide +kernel
theorem ni_dX19_dropStatic_27 : decode cX19_dropStatic 27 = .ok (.ifCond .eq 5, 3) := by decide +kernel
theorem ni_dX19_dropStatic_30 : decode cX19_dropStatic 30 = .ok (.iconst 0, 1) := by decide +kernel
theorem ni_dX19_dropStatic_31 : decode cX19_dropStatic 31 = .ok (.ireturn, 1) := by decide +kernel
theorem ni_dX19_dropped_0 : decode cX19_dropped 0 = .ok (.aload_n 0, 1) := by decide +kernel
theorem ni_dX19_dropped_1 : decode cX19_dropped 1 = .ok (.iload_n 1, 1) := by decide +kernel
theorem ni_dX19_dropped_2 : decode cX19_dropped 2 = .ok (.invokevirtual 213, 3) := by decide +kernel
theorem ni_dX19_dropped_5 : decode cX19_dropped 5 = .ok (.ifCond .ne 26, 3) := by decide +kernel
theorem ni_dX19_dropped_31 : decode cX19_dropped 31 = .ok (.iconst 0, 1) := by decide +kernel
theorem ni_dX19_dropped_32 : decode cX19_dropped 32 = .ok (.goto 22, 3) := by decide +kernel
theorem ni_dX19_dropped_54 : decode cX19_dropped 54 = .ok (.ireturn, 1) := by decide +kernel
theorem ni_dX19_entries_0 : decode cX19_entries 0 = .ok (.aload_n 0, 1) := by decide +kernel
theorem ni_dX19_entries_1 : decode cX19_entries 1 = .ok (.iload_n 1, 1) := by decide +kernel
theorem ni_dX19_entries_2 : decode cX19_entries 2 = .ok (.invokevirtual 75, 3) := by decide +kernel
theorem ni_dX19_entries_5 : decode cX19_entries 5 = .ok (.ifCond .eq 7, 3) := by decide +kernel
theorem ni_dX19_entries_8 : decode cX19_entries 8 = .ok (.iconst 0, 1) := by decide +kernel
theorem ni_dX19_entries_9 : decode cX19_entries 9 = .ok (.goto 20, 3) := by decide +kernel
theorem ni_dX19_entries_29 : decode cX19_entries 29 = .ok (.ireturn, 1) := by decide +kernel
theorem ni_dX19_firstLinks_0 : decode cX19_firstLinks 0 = .ok (.aload_n 0, 1) := by decide +kernel
theorem ni_dX19_firstLinks_1 : decode cX19_firstLinks 1 = .ok (.iload_n 1, 1) := by decide +kernel
theorem ni_dX19_firstLinks_2 : decode cX19_firstLinks 2 = .ok (.iload_n 2, 1) := by decide +kernel
theorem ni_dX19_firstLinks_3 : decode cX19_firstLinks 3 = .ok (.invokevirtual 86, 3) := by decide +kernel
theorem ni_dX19_firstLinks_6 : decode cX19_firstLinks 6 = .ok (.ifCond .eq 7, 3) := by decide +kernel
theorem ni_dX19_firstLinks_9 : decode cX19_firstLinks 9 = .ok (.iconst 0, 1) := by decide +kernel
theorem ni_dX19_firstLinks_10 : decode cX19_firstLinks 10 = .ok (.goto 18, 3) := by decide +kernel
theorem ni_dX19_firstLinks_28 : decode cX19_firstLinks 28 = .ok (.ireturn, 1) := by decide +kernel
theorem ni_dX19_flows_0 : decode cX19_flows 0 = .ok (.aload_n 0, 1) := by decide +kernel
theorem ni_dX19_flows_1 : decode cX19_flows 1 = .ok (.aload_n 0, 1) := by decide +kernel
theorem ni_dX19_flows_2 : decode cX19_flows 2 = .ok (.getfield 10, 3) := by decide +kernel
theorem ni_dX19_flows_5 : decode cX19_flows 5 = .ok (.getfield 82, 3) := by decide +kernel
theorem ni_dX19_flows_8 : decode cX19_flows 8 = .ok (.invokevirtual 20, 3) := by decide +kernel
theorem ni_dX19_flows_11 : decode cX19_flows 11 = .ok (.invokevirtual 247, 3) := by decide +kernel
theorem ni_dX19_flows_14 : decode cX19_flows 14 = .ok (.ireturn, 1) := by decide +kernel
theorem ni_dX19_found_0 : decode cX19_found 0 = .ok (.aload_n 0, 1) := by decide +kernel
theorem ni_dX19_found_1 : decode cX19_found 1 = .ok (.iload_n 1, 1) := by decide +kernel
theorem ni_dX19_found_2 : decode cX19_found 2 = .ok (.iload_n 2, 1) := by decide +kernel
theorem ni_dX19_found_3 : decode cX19_found 3 = .ok (.invokevirtual 275, 3) := by decide +kernel
theorem ni_dX19_found_6 : decode cX19_found 6 = .ok (.ifCond .eq 5, 3) := by decide +kernel
theorem ni_dX19_found_9 : decode cX19_found 9 = .ok (.iconst 0, 1) := by decide +kernel
theorem ni_dX19_found_10 : decode cX19_found 10 = .ok (.ireturn, 1) := by decide +kernel
theorem ni_dX19_isIn_0 : decode cX19_isIn 0 = .ok (.iload_n 0, 1) := by decide +kernel
theorem ni_dX19_isIn_1 : decode cX19_isIn 1 = .ok (.iload_n 1, 1) := by decide +kernel
theorem ni_dX19_isIn_2 : decode cX19_isIn 2 = .ok (.if_icmp .lt 12, 3) := by decide +kernel
theorem ni_dX19_isIn_5 : decode cX19_isIn 5 = .ok (.iload_n 0, 1) := by decide +kernel
theorem ni_dX19_isIn_6 : decode cX19_isIn 6 = .ok (.iload_n 2, 1) := by decide +kernel
theorem ni_dX19_isIn_7 : decode cX19_isIn 7 = .ok (.if_icmp .gt 7, 3) := by decide +kernel
theorem ni_dX19_isIn_10 : decode cX19_isIn 10 = .ok (.iconst 1, 1) := by decide +kernel
theorem ni_dX19_isIn_11 : decode cX19_isIn 11 = .ok (.goto 4, 3) := by decide +kernel
theorem ni_dX19_isIn_14 : decode cX19_isIn 14 = .ok (.iconst 0, 1) := by decide +kernel
theorem ni_dX19_isIn_15 : decode cX19_isIn 15 = .ok (.ireturn, 1) := by decide +kernel
theorem ni_dX19_isNoAddress_0 : decode cX19_isNoAddress 0 = .ok (.aload_n 0, 1) := by decide +kernel
theorem ni_dX19_isNoAddress_1 : decode cX19_isNoAddress 1 = .ok (.iload_n 1, 1) := by decide +kernel
theorem ni_dX19_isNoAddress_2 : decode cX19_isNoAddress 2 = .ok (.invokevirtual 75, 3) := by decide +kernel
theorem ni_dX19_isNoAddress_5 : decode cX19_isNoAddress 5 = .ok (.ifCond .ne 26, 3) := by decide +kernel
theorem ni_dX19_isNoAddress_31 : decode cX19_isNoAddress 31 = .ok (.iconst 1, 1) := by decide +kernel
theorem ni_dX19_isNoAddress_32 : decode cX19_isNoAddress 32 = .ok (.goto 4, 3) := by decide +kernel
theorem ni_dX19_isNoAddress_36 : decode cX19_isNoAddress 36 = .ok (.ireturn, 1) := by decide +kernel
theorem ni_dX19_isNoClass_0 : decode cX19_isNoClass 0 = .ok (.aload_n 0, 1) := by decide +kernel
theorem ni_dX19_isNoClass_1 : decode cX19_isNoClass 1 = .ok (.iload_n 1, 1) := by decide +kernel
theorem ni_dX19_isNoClass_2 : decode cX19_isNoClass 2 = .ok (.invokevirtual 117, 3) := by decide +kernel
theorem ni_dX19_isNoClass_5 : decode cX19_isNoClass 5 = .ok (.ifCond .ne 25, 3) := by decide +kernel
theorem ni_dX19_isNoClass_30 : decode cX19_isNoClass 30 = .ok (.iconst 1, 1) := by decide +kernel
theorem ni_dX19_isNoClass_31 : decode cX19_isNoClass 31 = .ok (.goto 4, 3) := by decide +kernel
theorem ni_dX19_isNoClass_35 : decode cX19_isNoClass 35 = .ok (.ireturn, 1) := by decide +kernel
theorem ni_dX19_isNoFlow_0 : decode cX19_isNoFlow 0 = .ok (.aload_n 0, 1) := by decide +kernel
theorem ni_dX19_isNoFlow_1 : decode cX19_isNoFlow 1 = .ok (.iload_n 1, 1) := by decide +kernel
theorem ni_dX19_isNoFlow_2 : decode cX19_isNoFlow 2 = .ok (.iconst 0, 1) := by decide +kernel
theorem ni_dX19_isNoFlow_3 : decode cX19_isNoFlow 3 = .ok (.aload_n 0, 1) := by decide +kernel
theorem ni_dX19_isNoFlow_4 : decode cX19_isNoFlow 4 = .ok (.getfield 10, 3) := by decide +kernel
theorem ni_dX19_isNoFlow_7 : decode cX19_isNoFlow 7 = .ok (.getfield 82, 3) := by decide +kernel
theorem ni_dX19_isNoFlow_10 : decode cX19_isNoFlow 10 = .ok (.invokevirtual 20, 3) := by decide +kernel
theorem ni_dX19_isNoFlow_13 : decode cX19_isNoFlow 13 = .ok (.iconst 1, 1) := by decide +kernel
theorem ni_dX19_isNoFlow_14 : decode cX19_isNoFlow 14 = .ok (.isub, 1) := by decide +kernel
theorem ni_dX19_isNoFlow_15 : decode cX19_isNoFlow 15 = .ok (.invokestatic 69, 3) := by decide +kernel
theorem ni_dX19_isNoFlow_18 : decode cX19_isNoFlow 18 = .ok (.ifCond .ne 7, 3) := by decide +kernel
theorem ni_dX19_isNoFlow_21 : decode cX19_isNoFlow 21 = .ok (.iconst 1, 1) := by decide +kernel
theorem ni_dX19_isNoFlow_22 : decode cX19_isNoFlow 22 = .ok (.goto 4, 3) := by decide +kernel
theorem ni_dX19_isNoFlow_26 : decode cX19_isNoFlow 26 = .ok (.iconst 1, 1) := by decide +kernel
theorem ni_dX19_isNoFlow_27 : decode cX19_isNoFlow 27 = .ok (.invokevirtual 72, 3) := by decide +kernel
theorem ni_dX19_isNoFlow_30 : decode cX19_isNoFlow 30 = .ok (.ireturn, 1) := by decide +kernel
theorem ni_dX19_isNoLink_0 : decode cX19_isNoLink 0 = .ok (.aload_n 0, 1) := by decide +kernel
theorem ni_dX19_isNoLink_1 : decode cX19_isNoLink 1 = .ok (.iload_n 1, 1) := by decide +kernel
theorem ni_dX19_isNoLink_2 : decode cX19_isNoLink 2 = .ok (.iconst 0, 1) := by decide +kernel
theorem ni_dX19_isNoLink_3 : decode cX19_isNoLink 3 = .ok (.aload_n 0, 1) := by decide +kernel
theorem ni_dX19_isNoLink_4 : decode cX19_isNoLink 4 = .ok (.getfield 10, 3) := by decide +kernel
theorem ni_dX19_isNoLink_7 : decode cX19_isNoLink 7 = .ok (.getfield 79, 3) := by decide +kernel
theorem ni_dX19_isNoLink_10 : decode cX19_isNoLink 10 = .ok (.iconst 1, 1) := by decide +kernel
theorem ni_dX19_isNoLink_11 : decode cX19_isNoLink 11 = .ok (.isub, 1) := by decide +kernel
theorem ni_dX19_isNoLink_12 : decode cX19_isNoLink 12 = .ok (.invokestatic 69, 3) := by decide +kernel
theorem ni_dX19_isNoLink_15 : decode cX19_isNoLink 15 = .ok (.ifCond .ne 7, 3) := by decide +kernel
theorem ni_dX19_isNoLink_18 : decode cX19_isNoLink 18 = .ok (.iconst 1, 1) := by decide +kernel
theorem ni_dX19_isNoLink_19 : decode cX19_isNoLink 19 = .ok (.goto 4, 3) := by decide +kernel
theorem ni_dX19_isNoLink_23 : decode cX19_isNoLink 23 = .ok (.iconst 1, 1) := by decide +kernel
theorem ni_dX19_isNoLink_24 : decode cX19_isNoLink 24 = .ok (.invokevirtual 72, 3) := by decide +kernel
theorem ni_dX19_isNoLink_27 : decode cX19_isNoLink 27 = .ok (.ireturn, 1) := by decide +kernel
theorem ni_dX19_isNoRouter_0 : decode cX19_isNoRouter 0 = .ok (.aload_n 0, 1) := by decide +kernel
theorem ni_dX19_isNoRouter_1 : decode cX19_isNoRouter 1 = .ok (.iload_n 1, 1) := by decide +kernel
theorem ni_dX19_isNoRouter_2 : decode cX19_isNoRouter 2 = .ok (.iconst 0, 1) := by decide +kernel
theorem ni_dX19_isNoRouter_3 : decode cX19_isNoRouter 3 = .ok (.aload_n 0, 1) := by decide +kernel
theorem ni_dX19_isNoRouter_4 : decode cX19_isNoRouter 4 = .ok (.getfield 10, 3) := by decide +kernel
theorem ni_dX19_isNoRouter_7 : decode cX19_isNoRouter 7 = .ok (.getfield 66, 3) := by decide +kernel
theorem ni_dX19_isNoRouter_10 : decode cX19_isNoRouter 10 = .ok (.iconst 1, 1) := by decide +kernel
theorem ni_dX19_isNoRouter_11 : decode cX19_isNoRouter 11 = .ok (.isub, 1) := by decide +kernel
theorem ni_dX19_isNoRouter_12 : decode cX19_isNoRouter 12 = .ok (.invokestatic 69, 3) := by decide +kernel
theorem ni_dX19_isNoRouter_15 : decode cX19_isNoRouter 15 = .ok (.ifCond .ne 7, 3) := by decide +kernel
theorem ni_dX19_isNoRouter_18 : decode cX19_isNoRouter 18 = .ok (.iconst 1, 1) := by decide +kernel
theorem ni_dX19_isNoRouter_19 : decode cX19_isNoRouter 19 = .ok (.goto 4, 3) := by decide +kernel
theorem ni_dX19_isNoRouter_23 : decode cX19_isNoRouter 23 = .ok (.iconst 1, 1) := by decide +kernel
theorem ni_dX19_isNoRouter_24 : decode cX19_isNoRouter 24 = .ok (.invokevirtual 72, 3) := by decide +kernel
theorem ni_dX19_isNoRouter_27 : decode cX19_isNoRouter 27 = .ok (.ireturn, 1) := by decide +kernel
theorem ni_dX19_isSettled_0 : decode cX19_isSettled 0 = .ok (.aload_n 0, 1) := by decide +kernel
theorem ni_dX19_isSettled_1 : decode cX19_isSettled 1 = .ok (.iconst 0, 1) := by decide +kernel
theorem ni_dX19_isSettled_2 : decode cX19_isSettled 2 = .ok (.putfield 59, 3) := by decide +kernel
theorem ni_dX19_isSettled_5 : decode cX19_isSettled 5 = .ok (.aload_n 0, 1) := by decide +kernel
theorem ni_dX19_isSettled_6 : decode cX19_isSettled 6 = .ok (.getfield 10, 3) := by decide +kernel
theorem ni_dX19_isSettled_9 : decode cX19_isSettled 9 = .ok (.invokevirtual 254, 3) := by decide +kernel
theorem ni_dX19_isSettled_12 : decode cX19_isSettled 12 = .ok (.ifCond .ne 7, 3) := by decide +kernel
theorem ni_dX19_isSettled_15 : decode cX19_isSettled 15 = .ok (.iconst 1, 1) := by decide +kernel
theorem ni_dX19_isSettled_16 : decode cX19_isSettled 16 = .ok (.goto 4, 3) := by decide +kernel
theorem ni_dX19_isSettled_20 : decode cX19_isSettled 20 = .ok (.ireturn, 1) := by decide +kernel
theorem ni_dX19_isUp_0 : decode cX19_isUp 0 = .ok (.aload_n 0, 1) := by decide +kernel
theorem ni_dX19_isUp_1 : decode cX19_isUp 1 = .ok (.iload_n 1, 1) := by decide +kernel
theorem ni_dX19_isUp_2 : decode cX19_isUp 2 = .ok (.invokevirtual 117, 3) := by decide +kernel
theorem ni_dX19_isUp_5 : decode cX19_isUp 5 = .ok (.ifCond .ne 19, 3) := by decide +kernel
theorem ni_dX19_isUp_24 : decode cX19_isUp 24 = .ok (.iconst 0, 1) := by decide +kernel
theorem ni_dX19_isUp_25 : decode cX19_isUp 25 = .ok (.ireturn, 1) := by decide +kernel
theorem ni_dX19_latest_0 : decode cX19_latest 0 = .ok (.aload_n 0, 1) := by decide +kernel
theorem ni_dX19_latest_1 : decode cX19_latest 1 = .ok (.iload_n 1, 1) := by decide +kernel
theorem ni_dX19_latest_2 : decode cX19_latest 2 = .ok (.invokevirtual 213, 3) := by decide +kernel
theorem ni_dX19_latest_5 : decode cX19_latest 5 = .ok (.ifCond .eq 7, 3) := by decide +kernel
theorem ni_dX19_latest_8 : decode cX19_latest 8 = .ok (.iconst 0, 1) := by decide +kernel
theorem ni_dX19_latest_9 : decode cX19_latest 9 = .ok (.goto 20, 3) := by decide +kernel
theorem ni_dX19_latest_29 : decode cX19_latest 29 = .ok (.ireturn, 1) := by decide +kernel
theorem ni_dX19_letterOf_0 : decode cX19_letterOf 0 = .ok (.aload_n 0, 1) := by decide +kernel
theorem ni_dX19_letterOf_1 : decode cX19_letterOf 1 = .ok (.iload_n 1, 1) := by decide +kernel
theorem ni_dX19_letterOf_2 : decode cX19_letterOf 2 = .ok (.iload_n 2, 1) := by decide +kernel
theorem ni_dX19_letterOf_3 : decode cX19_letterOf 3 = .ok (.invokevirtual 86, 3) := by decide +kernel
theorem ni_dX19_letterOf_6 : decode cX19_letterOf 6 = .ok (.ifCond .eq 7, 3) := by decide +kernel
theorem ni_dX19_letterOf_9 : decode cX19_letterOf 9 = .ok (.iconst 0, 1) := by decide +kernel
theorem ni_dX19_letterOf_10 : decode cX19_letterOf 10 = .ok (.goto 12, 3) := by decide +kernel
theorem ni_dX19_letterOf_22 : decode cX19_letterOf 22 = .ok (.ireturn, 1) := by decide +kernel
theorem ni_dX19_letters_0 : decode cX19_letters 0 = .ok (.aload_n 0, 1) := by decide +kernel
theorem ni_dX19_letters_1 : decode cX19_letters 1 = .ok (.aload_n 0, 1) := by decide +kernel
theorem ni_dX19_letters_2 : decode cX19_letters 2 = .ok (.getfield 10, 3) := by decide +kernel
theorem ni_dX19_letters_5 : decode cX19_letters 5 = .ok (.invokevirtual 254, 3) := by decide +kernel
theorem ni_dX19_letters_8 : decode cX19_letters 8 = .ok (.invokevirtual 247, 3) := by decide +kernel
theorem ni_dX19_letters_11 : decode cX19_letters 11 = .ok (.ireturn, 1) := by decide +kernel
theorem ni_dX19_links_0 : decode cX19_links 0 = .ok (.aload_n 0, 1) := by decide +kernel
theorem ni_dX19_links_1 : decode cX19_links 1 = .ok (.aload_n 0, 1) := by decide +kernel
theorem ni_dX19_links_2 : decode cX19_links 2 = .ok (.getfield 10, 3) := by decide +kernel
theorem ni_dX19_links_5 : decode cX19_links 5 = .ok (.getfield 79, 3) := by decide +kernel
theorem ni_dX19_links_8 : decode cX19_links 8 = .ok (.invokevirtual 247, 3) := by decide +kernel
theorem ni_dX19_links_11 : decode cX19_links 11 = .ok (.ireturn, 1) := by decide +kernel
theorem ni_dX19_looks__0 : decode cX19_looks_ 0 = .ok (.aload_n 0, 1) := by decide +kernel
theorem ni_dX19_looks__1 : decode cX19_looks_ 1 = .ok (.iload_n 1, 1) := by decide +kernel
theorem ni_dX19_looks__2 : decode cX19_looks_ 2 = .ok (.iload_n 2, 1) := by decide +kernel
theorem ni_dX19_looks__3 : decode cX19_looks_ 3 = .ok (.invokevirtual 275, 3) := by decide +kernel
end
section
theorem ni_dX19_looks__6 : decode cX19_looks_ 6 = .ok (.ifCond .eq 7, 3) := by decide +kernel
theorem ni_dX19_looks__9 : decode cX19_looks_ 9 = .ok (.iconst 0, 1) := by decide +kernel
theorem ni_dX19_looks__10 : decode cX19_looks_ 10 = .ok (.goto 24, 3) := by decide +kernel
theorem ni_dX19_looks__34 : decode cX19_looks_ 34 = .ok (.ireturn, 1) := by decide +kernel
theorem ni_dX19_meanLate_0 : decode cX19_meanLate 0 = .ok (.aload_n 0, 1) := by decide +kernel
theorem ni_dX19_meanLate_1 : decode cX19_meanLate 1 = .ok (.iload_n 1, 1) := by decide +kernel
theorem ni_dX19_meanLate_2 : decode cX19_meanLate 2 = .ok (.invokevirtual 213, 3) := by decide +kernel
theorem ni_dX19_meanLate_5 : decode cX19_meanLate 5 = .ok (.ifCond .eq 5, 3) := by decide +kernel
theorem ni_dX19_meanLate_8 : decode cX19_meanLate 8 = .ok (.dconst 0, 1) := by decide +kernel
theorem ni_dX19_meanLate_9 : decode cX19_meanLate 9 = .ok (.dreturn, 1) := by decide +kernel
theorem ni_dX19_networks_0 : decode cX19_networks 0 = .ok (.aload_n 0, 1) := by decide +kernel
theorem ni_dX19_networks_1 : decode cX19_networks 1 = .ok (.aload_n 0, 1) := by decide +kernel
theorem ni_dX19_networks_2 : decode cX19_networks 2 = .ok (.getfield 10, 3) := by decide +kernel
theorem ni_dX19_networks_5 : decode cX19_networks 5 = .ok (.getfield 131, 3) := by decide +kernel
theorem ni_dX19_networks_8 : decode cX19_networks 8 = .ok (.invokevirtual 247, 3) := by decide +kernel
theorem ni_dX19_networks_11 : decode cX19_networks 11 = .ok (.ireturn, 1) := by decide +kernel
theorem ni_dX19_nextLink_0 : decode cX19_nextLink 0 = .ok (.aload_n 0, 1) := by decide +kernel
theorem ni_dX19_nextLink_1 : decode cX19_nextLink 1 = .ok (.iload_n 1, 1) := by decide +kernel
theorem ni_dX19_nextLink_2 : decode cX19_nextLink 2 = .ok (.invokevirtual 75, 3) := by decide +kernel
theorem ni_dX19_nextLink_5 : decode cX19_nextLink 5 = .ok (.ifCond .ne 36, 3) := by decide +kernel
theorem ni_dX19_nextLink_41 : decode cX19_nextLink 41 = .ok (.iconst 0, 1) := by decide +kernel
theorem ni_dX19_nextLink_42 : decode cX19_nextLink 42 = .ok (.goto 12, 3) := by decide +kernel
theorem ni_dX19_nextLink_54 : decode cX19_nextLink 54 = .ok (.ireturn, 1) := by decide +kernel
theorem ni_dX19_offered_0 : decode cX19_offered 0 = .ok (.aload_n 0, 1) := by decide +kernel
theorem ni_dX19_offered_1 : decode cX19_offered 1 = .ok (.iload_n 1, 1) := by decide +kernel
theorem ni_dX19_offered_2 : decode cX19_offered 2 = .ok (.invokevirtual 213, 3) := by decide +kernel
theorem ni_dX19_offered_5 : decode cX19_offered 5 = .ok (.ifCond .eq 7, 3) := by decide +kernel
theorem ni_dX19_offered_8 : decode cX19_offered 8 = .ok (.iconst 0, 1) := by decide +kernel
theorem ni_dX19_offered_9 : decode cX19_offered 9 = .ok (.goto 20, 3) := by decide +kernel
theorem ni_dX19_offered_29 : decode cX19_offered 29 = .ok (.ireturn, 1) := by decide +kernel
theorem ni_dX19_onLink_0 : decode cX19_onLink 0 = .ok (.aload_n 0, 1) := by decide +kernel
theorem ni_dX19_onLink_1 : decode cX19_onLink 1 = .ok (.iload_n 1, 1) := by decide +kernel
theorem ni_dX19_onLink_2 : decode cX19_onLink 2 = .ok (.invokevirtual 117, 3) := by decide +kernel
theorem ni_dX19_onLink_5 : decode cX19_onLink 5 = .ok (.ifCond .eq 7, 3) := by decide +kernel
theorem ni_dX19_onLink_8 : decode cX19_onLink 8 = .ok (.iconst 0, 1) := by decide +kernel
theorem ni_dX19_onLink_9 : decode cX19_onLink 9 = .ok (.goto 8, 3) := by decide +kernel
theorem ni_dX19_onLink_17 : decode cX19_onLink 17 = .ok (.ireturn, 1) := by decide +kernel
theorem ni_dX19_outOfOrder_0 : decode cX19_outOfOrder 0 = .ok (.aload_n 0, 1) := by decide +kernel
theorem ni_dX19_outOfOrder_1 : decode cX19_outOfOrder 1 = .ok (.iload_n 1, 1) := by decide +kernel
theorem ni_dX19_outOfOrder_2 : decode cX19_outOfOrder 2 = .ok (.invokevirtual 213, 3) := by decide +kernel
theorem ni_dX19_outOfOrder_5 : decode cX19_outOfOrder 5 = .ok (.ifCond .eq 7, 3) := by decide +kernel
theorem ni_dX19_outOfOrder_8 : decode cX19_outOfOrder 8 = .ok (.iconst 0, 1) := by decide +kernel
theorem ni_dX19_outOfOrder_9 : decode cX19_outOfOrder 9 = .ok (.goto 20, 3) := by decide +kernel
theorem ni_dX19_outOfOrder_29 : decode cX19_outOfOrder 29 = .ok (.ireturn, 1) := by decide +kernel
theorem ni_dX19_plain_0 : decode cX19_plain 0 = .ok (.aload_n 0, 1) := by decide +kernel
theorem ni_dX19_plain_1 : decode cX19_plain 1 = .ok (.iconst 0, 1) := by decide +kernel
theorem ni_dX19_plain_2 : decode cX19_plain 2 = .ok (.putfield 59, 3) := by decide +kernel
theorem ni_dX19_plain_5 : decode cX19_plain 5 = .ok (.iload_n 1, 1) := by decide +kernel
theorem ni_dX19_plain_6 : decode cX19_plain 6 = .ok (.ireturn, 1) := by decide +kernel
theorem ni_dX19_queued_0 : decode cX19_queued 0 = .ok (.aload_n 0, 1) := by decide +kernel
theorem ni_dX19_queued_1 : decode cX19_queued 1 = .ok (.iload_n 1, 1) := by decide +kernel
theorem ni_dX19_queued_2 : decode cX19_queued 2 = .ok (.iload_n 3, 1) := by decide +kernel
theorem ni_dX19_queued_3 : decode cX19_queued 3 = .ok (.invokevirtual 302, 3) := by decide +kernel
theorem ni_dX19_queued_6 : decode cX19_queued 6 = .ok (.ifCond .eq 7, 3) := by decide +kernel
theorem ni_dX19_queued_9 : decode cX19_queued 9 = .ok (.iconst 0, 1) := by decide +kernel
theorem ni_dX19_queued_10 : decode cX19_queued 10 = .ok (.goto 14, 3) := by decide +kernel
theorem ni_dX19_queued_24 : decode cX19_queued 24 = .ok (.ireturn, 1) := by decide +kernel
theorem ni_dX19_refuse_0 : decode cX19_refuse 0 = .ok (.iload_n 1, 1) := by decide +kernel
theorem ni_dX19_refuse_1 : decode cX19_refuse 1 = .ok (.ifCond .eq 15, 3) := by decide +kernel
theorem ni_dX19_refuse_4 : decode cX19_refuse 4 = .ok (.aload_n 0, 1) := by decide +kernel
theorem ni_dX19_refuse_5 : decode cX19_refuse 5 = .ok (.getfield 59, 3) := by decide +kernel
theorem ni_dX19_refuse_8 : decode cX19_refuse 8 = .ok (.ifCond .ne 8, 3) := by decide +kernel
theorem ni_dX19_refuse_11 : decode cX19_refuse 11 = .ok (.aload_n 0, 1) := by decide +kernel
theorem ni_dX19_refuse_12 : decode cX19_refuse 12 = .ok (.iload_n 2, 1) := by decide +kernel
theorem ni_dX19_refuse_13 : decode cX19_refuse 13 = .ok (.putfield 59, 3) := by decide +kernel
theorem ni_dX19_refuse_16 : decode cX19_refuse 16 = .ok (.aload_n 0, 1) := by decide +kernel
theorem ni_dX19_refuse_17 : decode cX19_refuse 17 = .ok (.getfield 59, 3) := by decide +kernel
theorem ni_dX19_refuse_20 : decode cX19_refuse 20 = .ok (.ifCond .le 7, 3) := by decide +kernel
theorem ni_dX19_refuse_23 : decode cX19_refuse 23 = .ok (.iconst 1, 1) := by decide +kernel
theorem ni_dX19_refuse_24 : decode cX19_refuse 24 = .ok (.goto 4, 3) := by decide +kernel
theorem ni_dX19_refuse_27 : decode cX19_refuse 27 = .ok (.iconst 0, 1) := by decide +kernel
theorem ni_dX19_refuse_28 : decode cX19_refuse 28 = .ok (.ireturn, 1) := by decide +kernel
theorem ni_dX19_route_0 : decode cX19_route 0 = .ok (.aload_n 0, 1) := by decide +kernel
theorem ni_dX19_route_1 : decode cX19_route 1 = .ok (.iload_n 1, 1) := by decide +kernel
theorem ni_dX19_route_2 : decode cX19_route 2 = .ok (.invokevirtual 213, 3) := by decide +kernel
theorem ni_dX19_route_5 : decode cX19_route 5 = .ok (.ifCond .eq 7, 3) := by decide +kernel
theorem ni_dX19_route_8 : decode cX19_route 8 = .ok (.iconst 0, 1) := by decide +kernel
theorem ni_dX19_route_9 : decode cX19_route 9 = .ok (.goto 11, 3) := by decide +kernel
theorem ni_dX19_route_20 : decode cX19_route 20 = .ok (.ireturn, 1) := by decide +kernel
theorem ni_dX19_routers_0 : decode cX19_routers 0 = .ok (.aload_n 0, 1) := by decide +kernel
theorem ni_dX19_routers_1 : decode cX19_routers 1 = .ok (.aload_n 0, 1) := by decide +kernel
theorem ni_dX19_routers_2 : decode cX19_routers 2 = .ok (.getfield 10, 3) := by decide +kernel
theorem ni_dX19_routers_5 : decode cX19_routers 5 = .ok (.getfield 66, 3) := by decide +kernel
theorem ni_dX19_routers_8 : decode cX19_routers 8 = .ok (.invokevirtual 247, 3) := by decide +kernel
theorem ni_dX19_routers_11 : decode cX19_routers 11 = .ok (.ireturn, 1) := by decide +kernel
theorem ni_dX19_schedule_0 : decode cX19_schedule 0 = .ok (.aload_n 0, 1) := by decide +kernel
theorem ni_dX19_schedule_1 : decode cX19_schedule 1 = .ok (.iload_n 1, 1) := by decide +kernel
theorem ni_dX19_schedule_2 : decode cX19_schedule 2 = .ok (.invokevirtual 213, 3) := by decide +kernel
theorem ni_dX19_schedule_5 : decode cX19_schedule 5 = .ok (.ifCond .ne 88, 3) := by decide +kernel
theorem ni_dX19_schedule_93 : decode cX19_schedule 93 = .ok (.iconst 0, 1) := by decide +kernel
theorem ni_dX19_schedule_94 : decode cX19_schedule 94 = .ok (.ireturn, 1) := by decide +kernel
theorem ni_dX19_sending_0 : decode cX19_sending 0 = .ok (.aload_n 0, 1) := by decide +kernel
theorem ni_dX19_sending_1 : decode cX19_sending 1 = .ok (.iload_n 1, 1) := by decide +kernel
theorem ni_dX19_sending_2 : decode cX19_sending 2 = .ok (.invokevirtual 117, 3) := by decide +kernel
theorem ni_dX19_sending_5 : decode cX19_sending 5 = .ok (.ifCond .eq 7, 3) := by decide +kernel
theorem ni_dX19_sending_8 : decode cX19_sending 8 = .ok (.iconst 0, 1) := by decide +kernel
theorem ni_dX19_sending_9 : decode cX19_sending 9 = .ok (.goto 12, 3) := by decide +kernel
theorem ni_dX19_sending_21 : decode cX19_sending 21 = .ok (.ireturn, 1) := by decide +kernel
theorem ni_dX19_setCost_0 : decode cX19_setCost 0 = .ok (.aload_n 0, 1) := by decide +kernel
theorem ni_dX19_setCost_1 : decode cX19_setCost 1 = .ok (.iload_n 1, 1) := by decide +kernel
theorem ni_dX19_setCost_2 : decode cX19_setCost 2 = .ok (.invokevirtual 117, 3) := by decide +kernel
theorem ni_dX19_setCost_5 : decode cX19_setCost 5 = .ok (.ifCond .ne 26, 3) := by decide +kernel
theorem ni_dX19_setCost_31 : decode cX19_setCost 31 = .ok (.iconst 0, 1) := by decide +kernel
theorem ni_dX19_setCost_32 : decode cX19_setCost 32 = .ok (.ireturn, 1) := by decide +kernel
theorem ni_dX19_setPort_0 : decode cX19_setPort 0 = .ok (.aload_n 0, 1) := by decide +kernel
theorem ni_dX19_setPort_1 : decode cX19_setPort 1 = .ok (.iload_n 1, 1) := by decide +kernel
theorem ni_dX19_setPort_2 : decode cX19_setPort 2 = .ok (.invokevirtual 117, 3) := by decide +kernel
theorem ni_dX19_setPort_5 : decode cX19_setPort 5 = .ok (.ifCond .ne 38, 3) := by decide +kernel
theorem ni_dX19_setPort_43 : decode cX19_setPort 43 = .ok (.iconst 0, 1) := by decide +kernel
theorem ni_dX19_setPort_44 : decode cX19_setPort 44 = .ok (.ireturn, 1) := by decide +kernel
theorem ni_dX19_setUp_0 : decode cX19_setUp 0 = .ok (.aload_n 0, 1) := by decide +kernel
theorem ni_dX19_setUp_1 : decode cX19_setUp 1 = .ok (.iload_n 1, 1) := by decide +kernel
theorem ni_dX19_setUp_2 : decode cX19_setUp 2 = .ok (.invokevirtual 117, 3) := by decide +kernel
theorem ni_dX19_setUp_5 : decode cX19_setUp 5 = .ok (.ifCond .eq 5, 3) := by decide +kernel
theorem ni_dX19_setUp_8 : decode cX19_setUp 8 = .ok (.iconst 0, 1) := by decide +kernel
theorem ni_dX19_setUp_9 : decode cX19_setUp 9 = .ok (.ireturn, 1) := by decide +kernel
theorem ni_dX19_setWeight_0 : decode cX19_setWeight 0 = .ok (.aload_n 0, 1) := by decide +kernel
theorem ni_dX19_setWeight_1 : decode cX19_setWeight 1 = .ok (.iload_n 1, 1) := by decide +kernel
theorem ni_dX19_setWeight_2 : decode cX19_setWeight 2 = .ok (.invokevirtual 117, 3) := by decide +kernel
theorem ni_dX19_setWeight_5 : decode cX19_setWeight 5 = .ok (.ifCond .ne 48, 3) := by decide +kernel
theorem ni_dX19_setWeight_53 : decode cX19_setWeight 53 = .ok (.iconst 0, 1) := by decide +kernel
theorem ni_dX19_setWeight_54 : decode cX19_setWeight 54 = .ok (.ireturn, 1) := by decide +kernel
theorem ni_dX19_settledIn_0 : decode cX19_settledIn 0 = .ok (.aload_n 0, 1) := by decide +kernel
theorem ni_dX19_settledIn_1 : decode cX19_settledIn 1 = .ok (.iload_n 1, 1) := by decide +kernel
theorem ni_dX19_settledIn_2 : decode cX19_settledIn 2 = .ok (.iconst 1, 1) := by decide +kernel
theorem ni_dX19_settledIn_3 : decode cX19_settledIn 3 = .ok (.bipush 60, 2) := by decide +kernel
theorem ni_dX19_settledIn_5 : decode cX19_settledIn 5 = .ok (.invokestatic 69, 3) := by decide +kernel
theorem ni_dX19_settledIn_8 : decode cX19_settledIn 8 = .ok (.ifCond .ne 7, 3) := by decide +kernel
theorem ni_dX19_settledIn_11 : decode cX19_settledIn 11 = .ok (.iconst 1, 1) := by decide +kernel
theorem ni_dX19_settledIn_12 : decode cX19_settledIn 12 = .ok (.goto 4, 3) := by decide +kernel
theorem ni_dX19_settledIn_15 : decode cX19_settledIn 15 = .ok (.iconst 0, 1) := by decide +kernel
theorem ni_dX19_settledIn_16 : decode cX19_settledIn 16 = .ok (.iconst 1, 1) := by decide +kernel
theorem ni_dX19_settledIn_17 : decode cX19_settledIn 17 = .ok (.invokevirtual 72, 3) := by decide +kernel
theorem ni_dX19_settledIn_20 : decode cX19_settledIn 20 = .ok (.ifCond .eq 5, 3) := by decide +kernel
theorem ni_dX19_settledIn_23 : decode cX19_settledIn 23 = .ok (.iconst 0, 1) := by decide +kernel
theorem ni_dX19_settledIn_24 : decode cX19_settledIn 24 = .ok (.ireturn, 1) := by decide +kernel
theorem ni_dX19_settledIn_25 : decode cX19_settledIn 25 = .ok (.aload_n 0, 1) := by decide +kernel
theorem ni_dX19_settledIn_26 : decode cX19_settledIn 26 = .ok (.getfield 10, 3) := by decide +kernel
theorem ni_dX19_settledIn_29 : decode cX19_settledIn 29 = .ok (.invokevirtual 340, 3) := by decide +kernel
theorem ni_dX19_settledIn_32 : decode cX19_settledIn 32 = .ok (.astore_n 2, 1) := by decide +kernel
theorem ni_dX19_settledIn_33 : decode cX19_settledIn 33 = .ok (.iconst 0, 1) := by decide +kernel
theorem ni_dX19_settledIn_34 : decode cX19_settledIn 34 = .ok (.istore_n 3, 1) := by decide +kernel
theorem ni_dX19_settledIn_35 : decode cX19_settledIn 35 = .ok (.iload_n 3, 1) := by decide +kernel
theorem ni_dX19_settledIn_36 : decode cX19_settledIn 36 = .ok (.iload_n 1, 1) := by decide +kernel
theorem ni_dX19_settledIn_37 : decode cX19_settledIn 37 = .ok (.if_icmp .gt 22, 3) := by decide +kernel
theorem ni_dX19_settledIn_40 : decode cX19_settledIn 40 = .ok (.aload_n 2, 1) := by decide +kernel
theorem ni_dX19_settledIn_41 : decode cX19_settledIn 41 = .ok (.invokevirtual 254, 3) := by decide +kernel
theorem ni_dX19_settledIn_44 : decode cX19_settledIn 44 = .ok (.ifCond .ne 5, 3) := by decide +kernel
theorem ni_dX19_settledIn_47 : decode cX19_settledIn 47 = .ok (.iload_n 3, 1) := by decide +kernel
theorem ni_dX19_settledIn_48 : decode cX19_settledIn 48 = .ok (.ireturn, 1) := by decide +kernel
theorem ni_dX19_shape_0 : decode cX19_shape 0 = .ok (.aload_n 0, 1) := by decide +kernel
theorem ni_dX19_shape_1 : decode cX19_shape 1 = .ok (.iload_n 1, 1) := by decide +kernel
theorem ni_dX19_shape_2 : decode cX19_shape 2 = .ok (.invokevirtual 213, 3) := by decide +kernel
theorem ni_dX19_shape_5 : decode cX19_shape 5 = .ok (.ifCond .ne 54, 3) := by decide +kernel
theorem ni_dX19_shape_59 : decode cX19_shape 59 = .ok (.iconst 0, 1) := by decide +kernel
theorem ni_dX19_shape_60 : decode cX19_shape 60 = .ok (.ireturn, 1) := by decide +kernel
theorem ni_dX19_shaping_0 : decode cX19_shaping 0 = .ok (.aload_n 0, 1) := by decide +kernel
theorem ni_dX19_shaping_1 : decode cX19_shaping 1 = .ok (.iload_n 1, 1) := by decide +kernel
theorem ni_dX19_shaping_2 : decode cX19_shaping 2 = .ok (.invokevirtual 213, 3) := by decide +kernel
theorem ni_dX19_shaping_5 : decode cX19_shaping 5 = .ok (.ifCond .eq 7, 3) := by decide +kernel
theorem ni_dX19_shaping_8 : decode cX19_shaping 8 = .ok (.iconst 0, 1) := by decide +kernel
theorem ni_dX19_shaping_9 : decode cX19_shaping 9 = .ok (.goto 23, 3) := by decide +kernel
theorem ni_dX19_shaping_32 : decode cX19_shaping 32 = .ok (.ireturn, 1) := by decide +kernel
theorem ni_dX19_sortOf_0 : decode cX19_sortOf 0 = .ok (.aload_n 0, 1) := by decide +kernel
theorem ni_dX19_sortOf_1 : decode cX19_sortOf 1 = .ok (.iload_n 1, 1) := by decide +kernel
theorem ni_dX19_sortOf_2 : decode cX19_sortOf 2 = .ok (.iload_n 2, 1) := by decide +kernel
theorem ni_dX19_sortOf_3 : decode cX19_sortOf 3 = .ok (.invokevirtual 275, 3) := by decide +kernel
theorem ni_dX19_sortOf_6 : decode cX19_sortOf 6 = .ok (.ifCond .eq 5, 3) := by decide +kernel
theorem ni_dX19_sortOf_9 : decode cX19_sortOf 9 = .ok (.iconst 0, 1) := by decide +kernel
theorem ni_dX19_sortOf_10 : decode cX19_sortOf 10 = .ok (.ireturn, 1) := by decide +kernel
theorem ni_dX19_start_0 : decode cX19_start 0 = .ok (.aload_n 0, 1) := by decide +kernel
theorem ni_dX19_start_1 : decode cX19_start 1 = .ok (.iconst 0, 1) := by decide +kernel
theorem ni_dX19_start_2 : decode cX19_start 2 = .ok (.putfield 59, 3) := by decide +kernel
theorem ni_dX19_start_5 : decode cX19_start 5 = .ok (.aload_n 0, 1) := by decide +kernel
theorem ni_dX19_start_6 : decode cX19_start 6 = .ok (.iload_n 1, 1) := by decide +kernel
theorem ni_dX19_start_7 : decode cX19_start 7 = .ok (.iload_n 2, 1) := by decide +kernel
theorem ni_dX19_start_8 : decode cX19_start 8 = .ok (.invokevirtual 62, 3) := by decide +kernel
theorem ni_dX19_start_11 : decode cX19_start 11 = .ok (.ireturn, 1) := by decide +kernel
theorem ni_dX19_statics_0 : decode cX19_statics 0 = .ok (.aload_n 0, 1) := by decide +kernel
theorem ni_dX19_statics_1 : decode cX19_statics 1 = .ok (.aload_n 0, 1) := by decide +kernel
theorem ni_dX19_statics_2 : decode cX19_statics 2 = .ok (.getfield 10, 3) := by decide +kernel
theorem ni_dX19_statics_5 : decode cX19_statics 5 = .ok (.getfield 156, 3) := by decide +kernel
theorem ni_dX19_statics_8 : decode cX19_statics 8 = .ok (.invokevirtual 247, 3) := by decide +kernel
theorem ni_dX19_statics_11 : decode cX19_statics 11 = .ok (.ireturn, 1) := by decide +kernel
theorem ni_dX19_step_0 : decode cX19_step 0 = .ok (.aload_n 0, 1) := by decide +kernel
theorem ni_dX19_step_1 : decode cX19_step 1 = .ok (.iload_n 1, 1) := by decide +kernel
theorem ni_dX19_step_2 : decode cX19_step 2 = .ok (.iconst 1, 1) := by decide +kernel
theorem ni_dX19_step_3 : decode cX19_step 3 = .ok (.bipush 60, 2) := by decide +kernel
theorem ni_dX19_step_5 : decode cX19_step 5 = .ok (.invokestatic 69, 3) := by decide +kernel
theorem ni_dX19_step_8 : decode cX19_step 8 = .ok (.ifCond .ne 7, 3) := by decide +kernel
theorem ni_dX19_step_11 : decode cX19_step 11 = .ok (.iconst 1, 1) := by decide +kernel
theorem ni_dX19_step_12 : decode cX19_step 12 = .ok (.goto 4, 3) := by decide +kernel
theorem ni_dX19_step_15 : decode cX19_step 15 = .ok (.iconst 0, 1) := by decide +kernel
theorem ni_dX19_step_16 : decode cX19_step 16 = .ok (.iconst 1, 1) := by decide +kernel
theorem ni_dX19_step_17 : decode cX19_step 17 = .ok (.invokevirtual 72, 3) := by decide +kernel
theorem ni_dX19_step_20 : decode cX19_step 20 = .ok (.ifCond .eq 5, 3) := by decide +kernel
theorem ni_dX19_step_23 : decode cX19_step 23 = .ok (.iconst 0, 1) := by decide +kernel
theorem ni_dX19_step_24 : decode cX19_step 24 = .ok (.ireturn, 1) := by decide +kernel
theorem ni_dX19_step_25 : decode cX19_step 25 = .ok (.iconst 0, 1) := by decide +kernel
theorem ni_dX19_step_26 : decode cX19_step 26 = .ok (.istore_n 2, 1) := by decide +kernel
theorem ni_dX19_step_27 : decode cX19_step 27 = .ok (.iload_n 2, 1) := by decide +kernel
theorem ni_dX19_step_28 : decode cX19_step 28 = .ok (.iload_n 1, 1) := by decide +kernel
theorem ni_dX19_step_29 : decode cX19_step 29 = .ok (.if_icmp .ge 16, 3) := by decide +kernel
theorem ni_dX19_step_32 : decode cX19_step 32 = .ok (.aload_n 0, 1) := by decide +kernel
theorem ni_dX19_step_33 : decode cX19_step 33 = .ok (.getfield 10, 3) := by decide +kernel
theorem ni_dX19_step_36 : decode cX19_step 36 = .ok (.invokevirtual 244, 3) := by decide +kernel
theorem ni_dX19_step_39 : decode cX19_step 39 = .ok (.iinc 2 1, 3) := by decide +kernel
theorem ni_dX19_step_42 : decode cX19_step 42 = .ok (.goto (-15), 3) := by decide +kernel
theorem ni_dX19_step_45 : decode cX19_step 45 = .ok (.aload_n 0, 1) := by decide +kernel
theorem ni_dX19_step_46 : decode cX19_step 46 = .ok (.getfield 10, 3) := by decide +kernel
theorem ni_dX19_step_49 : decode cX19_step 49 = .ok (.getfield 216, 3) := by decide +kernel
theorem ni_dX19_step_52 : decode cX19_step 52 = .ok (.ireturn, 1) := by decide +kernel
theorem ni_dX19_thrown_0 : decode cX19_thrown 0 = .ok (.aload_n 0, 1) := by decide +kernel
theorem ni_dX19_thrown_1 : decode cX19_thrown 1 = .ok (.getfield 59, 3) := by decide +kernel
theorem ni_dX19_thrown_4 : decode cX19_thrown 4 = .ok (.ireturn, 1) := by decide +kernel
theorem ni_dX19_time_0 : decode cX19_time 0 = .ok (.aload_n 0, 1) := by decide +kernel
theorem ni_dX19_time_1 : decode cX19_time 1 = .ok (.aload_n 0, 1) := by decide +kernel
theorem ni_dX19_time_2 : decode cX19_time 2 = .ok (.getfield 10, 3) := by decide +kernel
theorem ni_dX19_time_5 : decode cX19_time 5 = .ok (.getfield 216, 3) := by decide +kernel
theorem ni_dX19_time_8 : decode cX19_time 8 = .ok (.invokevirtual 247, 3) := by decide +kernel
theorem ni_dX19_time_11 : decode cX19_time 11 = .ok (.ireturn, 1) := by decide +kernel
theorem ni_dX19_tokens_0 : decode cX19_tokens 0 = .ok (.aload_n 0, 1) := by decide +kernel
theorem ni_dX19_tokens_1 : decode cX19_tokens 1 = .ok (.iload_n 1, 1) := by decide +kernel
theorem ni_dX19_tokens_2 : decode cX19_tokens 2 = .ok (.invokevirtual 213, 3) := by decide +kernel
theorem ni_dX19_tokens_5 : decode cX19_tokens 5 = .ok (.ifCond .eq 7, 3) := by decide +kernel
theorem ni_dX19_tokens_8 : decode cX19_tokens 8 = .ok (.iconst 0, 1) := by decide +kernel
theorem ni_dX19_tokens_9 : decode cX19_tokens 9 = .ok (.goto 20, 3) := by decide +kernel
theorem ni_dX19_tokens_29 : decode cX19_tokens 29 = .ok (.ireturn, 1) := by decide +kernel
theorem ni_dX19_trieDepth_0 : decode cX19_trieDepth 0 = .ok (.aload_n 0, 1) := by decide +kernel
theorem ni_dX19_trieDepth_1 : decode cX19_trieDepth 1 = .ok (.iload_n 1, 1) := by decide +kernel
theorem ni_dX19_trieDepth_2 : decode cX19_trieDepth 2 = .ok (.invokevirtual 75, 3) := by decide +kernel
theorem ni_dX19_trieDepth_5 : decode cX19_trieDepth 5 = .ok (.ifCond .eq 7, 3) := by decide +kernel
theorem ni_dX19_trieDepth_8 : decode cX19_trieDepth 8 = .ok (.iconst 0, 1) := by decide +kernel
theorem ni_dX19_trieDepth_9 : decode cX19_trieDepth 9 = .ok (.goto 23, 3) := by decide +kernel
theorem ni_dX19_trieDepth_32 : decode cX19_trieDepth 32 = .ok (.ireturn, 1) := by decide +kernel
theorem ni_dX19_trieNodes_0 : decode cX19_trieNodes 0 = .ok (.aload_n 0, 1) := by decide +kernel
theorem ni_dX19_trieNodes_1 : decode cX19_trieNodes 1 = .ok (.iload_n 1, 1) := by decide +kernel
theorem ni_dX19_trieNodes_2 : decode cX19_trieNodes 2 = .ok (.invokevirtual 75, 3) := by decide +kernel
theorem ni_dX19_trieNodes_5 : decode cX19_trieNodes 5 = .ok (.ifCond .eq 7, 3) := by decide +kernel
theorem ni_dX19_trieNodes_8 : decode cX19_trieNodes 8 = .ok (.iconst 0, 1) := by decide +kernel
theorem ni_dX19_trieNodes_9 : decode cX19_trieNodes 9 = .ok (.goto 23, 3) := by decide +kernel
theorem ni_dX19_trieNodes_32 : decode cX19_trieNodes 32 = .ok (.ireturn, 1) := by decide +kernel
theorem ni_dX19_waiting_0 : decode cX19_waiting 0 = .ok (.aload_n 0, 1) := by decide +kernel
theorem ni_dX19_waiting_1 : decode cX19_waiting 1 = .ok (.iload_n 1, 1) := by decide +kernel
theorem ni_dX19_waiting_2 : decode cX19_waiting 2 = .ok (.invokevirtual 117, 3) := by decide +kernel
theorem ni_dX19_waiting_5 : decode cX19_waiting 5 = .ok (.ifCond .eq 7, 3) := by decide +kernel
theorem ni_dX19_waiting_8 : decode cX19_waiting 8 = .ok (.iconst 0, 1) := by decide +kernel
theorem ni_dX19_waiting_9 : decode cX19_waiting 9 = .ok (.goto 16, 3) := by decide +kernel
theorem ni_dX19_waiting_25 : decode cX19_waiting 25 = .ok (.ireturn, 1) := by decide +kernel
theorem ni_dX15_init_0 : decode cX15_init 0 = .ok (.aload_n 0, 1) := by decide +kernel
theorem ni_dX15_init_1 : decode cX15_init 1 = .ok (.invokespecial 3, 3) := by decide +kernel
theorem ni_dX15_init_4 : decode cX15_init 4 = .ok (.aload_n 0, 1) := by decide +kernel
theorem ni_dX15_init_5 : decode cX15_init 5 = .ok (.bipush 14, 2) := by decide +kernel
theorem ni_dX15_init_7 : decode cX15_init 7 = .ok (.newarray .int, 2) := by decide +kernel
theorem ni_dX15_init_9 : decode cX15_init 9 = .ok (.putfield 9, 3) := by decide +kernel
theorem ni_dX15_init_12 : decode cX15_init 12 = .ok (.aload_n 0, 1) := by decide +kernel
theorem ni_dX15_init_13 : decode cX15_init 13 = .ok (.bipush 14, 2) := by decide +kernel
theorem ni_dX15_init_15 : decode cX15_init 15 = .ok (.newarray .int, 2) := by decide +kernel
theorem ni_dX15_init_17 : decode cX15_init 17 = .ok (.putfield 15, 3) := by decide +kernel
theorem ni_dX15_init_20 : decode cX15_init 20 = .ok (.aload_n 0, 1) := by decide +kernel
theorem ni_dX15_init_21 : decode cX15_init 21 = .ok (.bipush 14, 2) := by decide +kernel
theorem ni_dX15_init_23 : decode cX15_init 23 = .ok (.newarray .int, 2) := by decide +kernel
theorem ni_dX15_init_25 : decode cX15_init 25 = .ok (.putfield 18, 3) := by decide +kernel
theorem ni_dX15_init_28 : decode cX15_init 28 = .ok (.aload_n 0, 1) := by decide +kernel
theorem ni_dX15_init_29 : decode cX15_init 29 = .ok (.bipush 14, 2) := by decide +kernel
theorem ni_dX15_init_31 : decode cX15_init 31 = .ok (.newarray .int, 2) := by decide +kernel
theorem ni_dX15_init_33 : decode cX15_init 33 = .ok (.putfield 21, 3) := by decide +kernel
theorem ni_dX15_init_36 : decode cX15_init 36 = .ok (.aload_n 0, 1) := by decide +kernel
theorem ni_dX15_init_37 : decode cX15_init 37 = .ok (.bipush 14, 2) := by decide +kernel
theorem ni_dX15_init_39 : decode cX15_init 39 = .ok (.newarray .int, 2) := by decide +kernel
theorem ni_dX15_init_41 : decode cX15_init 41 = .ok (.putfield 24, 3) := by decide +kernel
theorem ni_dX15_init_44 : decode cX15_init 44 = .ok (.aload_n 0, 1) := by decide +kernel
theorem ni_dX15_init_45 : decode cX15_init 45 = .ok (.bipush 14, 2) := by decide +kernel
theorem ni_dX15_init_47 : decode cX15_init 47 = .ok (.newarray .boolean, 2) := by decide +kernel
theorem ni_dX15_init_49 : decode cX15_init 49 = .ok (.putfield 27, 3) := by decide +kernel
theorem ni_dX15_init_52 : decode cX15_init 52 = .ok (.aload_n 0, 1) := by decide +kernel
theorem ni_dX15_init_53 : decode cX15_init 53 = .ok (.bipush 28, 2) := by decide +kernel
theorem ni_dX15_init_55 : decode cX15_init 55 = .ok (.anewarray 31, 3) := by decide +kernel
theorem ni_dX15_init_58 : decode cX15_init 58 = .ok (.putfield 33, 3) := by decide +kernel
theorem ni_dX15_init_61 : decode cX15_init 61 = .ok (.aload_n 0, 1) := by decide +kernel
theorem ni_dX15_init_62 : decode cX15_init 62 = .ok (.bipush 24, 2) := by decide +kernel
theorem ni_dX15_init_64 : decode cX15_init 64 = .ok (.newarray .int, 2) := by decide +kernel
theorem ni_dX15_init_66 : decode cX15_init 66 = .ok (.putfield 37, 3) := by decide +kernel
theorem ni_dX15_init_69 : decode cX15_init 69 = .ok (.aload_n 0, 1) := by decide +kernel
theorem ni_dX15_init_70 : decode cX15_init 70 = .ok (.bipush 24, 2) := by decide +kernel
theorem ni_dX15_init_72 : decode cX15_init 72 = .ok (.newarray .int, 2) := by decide +kernel
theorem ni_dX15_init_74 : decode cX15_init 74 = .ok (.putfield 40, 3) := by decide +kernel
theorem ni_dX15_init_77 : decode cX15_init 77 = .ok (.aload_n 0, 1) := by decide +kernel
theorem ni_dX15_init_78 : decode cX15_init 78 = .ok (.bipush 24, 2) := by decide +kernel
theorem ni_dX15_init_80 : decode cX15_init 80 = .ok (.newarray .int, 2) := by decide +kernel
theorem ni_dX15_init_82 : decode cX15_init 82 = .ok (.putfield 43, 3) := by decide +kernel
theorem ni_dX15_init_85 : decode cX15_init 85 = .ok (.aload_n 0, 1) := by decide +kernel
theorem ni_dX15_init_86 : decode cX15_init 86 = .ok (.bipush 24, 2) := by decide +kernel
theorem ni_dX15_init_88 : decode cX15_init 88 = .ok (.newarray .int, 2) := by decide +kernel
theorem ni_dX15_init_90 : decode cX15_init 90 = .ok (.putfield 46, 3) := by decide +kernel
theorem ni_dX15_init_93 : decode cX15_init 93 = .ok (.aload_n 0, 1) := by decide +kernel
theorem ni_dX15_init_94 : decode cX15_init 94 = .ok (.bipush 24, 2) := by decide +kernel
theorem ni_dX15_init_96 : decode cX15_init 96 = .ok (.newarray .int, 2) := by decide +kernel
theorem ni_dX15_init_98 : decode cX15_init 98 = .ok (.putfield 49, 3) := by decide +kernel
theorem ni_dX15_init_101 : decode cX15_init 101 = .ok (.aload_n 0, 1) := by decide +kernel
theorem ni_dX15_init_102 : decode cX15_init 102 = .ok (.bipush 24, 2) := by decide +kernel
theorem ni_dX15_init_104 : decode cX15_init 104 = .ok (.newarray .int, 2) := by decide +kernel
theorem ni_dX15_init_106 : decode cX15_init 106 = .ok (.putfield 52, 3) := by decide +kernel
theorem ni_dX15_init_109 : decode cX15_init 109 = .ok (.aload_n 0, 1) := by decide +kernel
theorem ni_dX15_init_110 : decode cX15_init 110 = .ok (.bipush 24, 2) := by decide +kernel
theorem ni_dX15_init_112 : decode cX15_init 112 = .ok (.newarray .int, 2) := by decide +kernel
theorem ni_dX15_init_114 : decode cX15_init 114 = .ok (.putfield 55, 3) := by decide +kernel
theorem ni_dX15_init_117 : decode cX15_init 117 = .ok (.aload_n 0, 1) := by decide +kernel
theorem ni_dX15_init_118 : decode cX15_init 118 = .ok (.new 58, 3) := by decide +kernel
theorem ni_dX15_init_121 : decode cX15_init 121 = .ok (.dup, 1) := by decide +kernel
theorem ni_dX15_init_122 : decode cX15_init 122 = .ok (.invokespecial 60, 3) := by decide +kernel
theorem ni_dX15_init_125 : decode cX15_init 125 = .ok (.putfield 61, 3) := by decide +kernel
theorem ni_dX15_init_128 : decode cX15_init 128 = .ok (.aload_n 0, 1) := by decide +kernel
theorem ni_dX15_init_129 : decode cX15_init 129 = .ok (.bipush 64, 2) := by decide +kernel
theorem ni_dX15_init_131 : decode cX15_init 131 = .ok (.anewarray 65, 3) := by decide +kernel
theorem ni_dX15_init_134 : decode cX15_init 134 = .ok (.putfield 67, 3) := by decide +kernel
theorem ni_dX15_init_137 : decode cX15_init 137 = .ok (.aload_n 0, 1) := by decide +kernel
theorem ni_dX15_init_138 : decode cX15_init 138 = .ok (.bipush 64, 2) := by decide +kernel
theorem ni_dX15_init_140 : decode cX15_init 140 = .ok (.newarray .int, 2) := by decide +kernel
theorem ni_dX15_init_142 : decode cX15_init 142 = .ok (.putfield 71, 3) := by decide +kernel
theorem ni_dX15_init_145 : decode cX15_init 145 = .ok (.aload_n 0, 1) := by decide +kernel
theorem ni_dX15_init_146 : decode cX15_init 146 = .ok (.bipush 64, 2) := by decide +kernel
theorem ni_dX15_init_148 : decode cX15_init 148 = .ok (.anewarray 74, 3) := by decide +kernel
theorem ni_dX15_init_151 : decode cX15_init 151 = .ok (.putfield 75, 3) := by decide +kernel
theorem ni_dX15_init_154 : decode cX15_init 154 = .ok (.aload_n 0, 1) := by decide +kernel
theorem ni_dX15_init_155 : decode cX15_init 155 = .ok (.new 58, 3) := by decide +kernel
theorem ni_dX15_init_158 : decode cX15_init 158 = .ok (.dup, 1) := by decide +kernel
theorem ni_dX15_init_159 : decode cX15_init 159 = .ok (.invokespecial 60, 3) := by decide +kernel
theorem ni_dX15_init_162 : decode cX15_init 162 = .ok (.putfield 79, 3) := by decide +kernel
theorem ni_dX15_init_165 : decode cX15_init 165 = .ok (.iconst 0, 1) := by decide +kernel
theorem ni_dX15_init_166 : decode cX15_init 166 = .ok (.istore_n 1, 1) := by decide +kernel
theorem ni_dX15_init_167 : decode cX15_init 167 = .ok (.iload_n 1, 1) := by decide +kernel
theorem ni_dX15_init_168 : decode cX15_init 168 = .ok (.bipush 64, 2) := by decide +kernel
theorem ni_dX15_init_170 : decode cX15_init 170 = .ok (.if_icmp .ge 40, 3) := by decide +kernel
theorem ni_dX15_init_173 : decode cX15_init 173 = .ok (.aload_n 0, 1) := by decide +kernel
theorem ni_dX15_init_174 : decode cX15_init 174 = .ok (.getfield 71, 3) := by decide +kernel
theorem ni_dX15_init_177 : decode cX15_init 177 = .ok (.iload_n 1, 1) := by decide +kernel
theorem ni_dX15_init_178 : decode cX15_init 178 = .ok (.iload_n 1, 1) := by decide +kernel
theorem ni_dX15_init_179 : decode cX15_init 179 = .ok (.bipush 8, 2) := by decide +kernel
theorem ni_dX15_init_181 : decode cX15_init 181 = .ok (.idiv, 1) := by decide +kernel
theorem ni_dX15_init_182 : decode cX15_init 182 = .ok (.iload_n 1, 1) := by decide +kernel
theorem ni_dX15_init_183 : decode cX15_init 183 = .ok (.bipush 8, 2) := by decide +kernel
theorem ni_dX15_init_185 : decode cX15_init 185 = .ok (.irem, 1) := by decide +kernel
theorem ni_dX15_init_186 : decode cX15_init 186 = .ok (.if_icmp .ne 7, 3) := by decide +kernel
theorem ni_dX15_init_189 : decode cX15_init 189 = .ok (.iconst 0, 1) := by decide +kernel
theorem ni_dX15_init_190 : decode cX15_init 190 = .ok (.goto 4, 3) := by decide +kernel
theorem ni_dX15_init_193 : decode cX15_init 193 = .ok (.iconst (-1), 1) := by decide +kernel
theorem ni_dX15_init_194 : decode cX15_init 194 = .ok (.iastore, 1) := by decide +kernel
theorem ni_dX15_init_195 : decode cX15_init 195 = .ok (.aload_n 0, 1) := by decide +kernel
theorem ni_dX15_init_196 : decode cX15_init 196 = .ok (.getfield 75, 3) := by decide +kernel
theorem ni_dX15_init_199 : decode cX15_init 199 = .ok (.iload_n 1, 1) := by decide +kernel
theorem ni_dX15_init_200 : decode cX15_init 200 = .ok (.iconst 0, 1) := by decide +kernel
theorem ni_dX15_init_201 : decode cX15_init 201 = .ok (.newarray .int, 2) := by decide +kernel
theorem ni_dX15_init_203 : decode cX15_init 203 = .ok (.aastore, 1) := by decide +kernel
theorem ni_dX15_init_204 : decode cX15_init 204 = .ok (.iinc 1 1, 3) := by decide +kernel
theorem ni_dX15_init_207 : decode cX15_init 207 = .ok (.goto (-40), 3) := by decide +kernel
theorem ni_dX15_init_210 : decode cX15_init 210 = .ok (.iconst 0, 1) := by decide +kernel
theorem ni_dX15_init_211 : decode cX15_init 211 = .ok (.istore_n 1, 1) := by decide +kernel
theorem ni_dX15_init_212 : decode cX15_init 212 = .ok (.iload_n 1, 1) := by decide +kernel
theorem ni_dX15_init_213 : decode cX15_init 213 = .ok (.bipush 8, 2) := by decide +kernel
theorem ni_dX15_init_215 : decode cX15_init 215 = .ok (.if_icmp .ge 24, 3) := by decide +kernel
theorem ni_dX15_init_218 : decode cX15_init 218 = .ok (.aload_n 0, 1) := by decide +kernel
theorem ni_dX15_init_219 : decode cX15_init 219 = .ok (.getfield 79, 3) := by decide +kernel
theorem ni_dX15_init_222 : decode cX15_init 222 = .ok (.new 58, 3) := by decide +kernel
theorem ni_dX15_init_225 : decode cX15_init 225 = .ok (.dup, 1) := by decide +kernel
theorem ni_dX15_init_226 : decode cX15_init 226 = .ok (.invokespecial 60, 3) := by decide +kernel
theorem ni_dX15_init_229 : decode cX15_init 229 = .ok (.invokevirtual 82, 3) := by decide +kernel
theorem ni_dX15_init_232 : decode cX15_init 232 = .ok (.pop, 1) := by decide +kernel
theorem ni_dX15_init_233 : decode cX15_init 233 = .ok (.iinc 1 1, 3) := by decide +kernel
theorem ni_dX15_init_236 : decode cX15_init 236 = .ok (.goto (-24), 3) := by decide +kernel
theorem ni_dX15_init_239 : decode cX15_init 239 = .ok (.return_, 1) := by decide +kernel
theorem ni_dX15_copy_0 : decode cX15_copy 0 = .ok (.new 10, 3) := by decide +kernel
theorem ni_dX15_copy_3 : decode cX15_copy 3 = .ok (.dup, 1) := by decide +kernel
theorem ni_dX15_copy_4 : decode cX15_copy 4 = .ok (.invokespecial 86, 3) := by decide +kernel
theorem ni_dX15_copy_7 : decode cX15_copy 7 = .ok (.astore_n 1, 1) := by decide +kernel
theorem ni_dX15_copy_8 : decode cX15_copy 8 = .ok (.aload_n 1, 1) := by decide +kernel
theorem ni_dX15_copy_9 : decode cX15_copy 9 = .ok (.aload_n 0, 1) := by decide +kernel
theorem ni_dX15_copy_10 : decode cX15_copy 10 = .ok (.getfield 87, 3) := by decide +kernel
theorem ni_dX15_copy_13 : decode cX15_copy 13 = .ok (.putfield 87, 3) := by decide +kernel
theorem ni_dX15_copy_16 : decode cX15_copy 16 = .ok (.aload_n 1, 1) := by decide +kernel
theorem ni_dX15_copy_17 : decode cX15_copy 17 = .ok (.aload_n 0, 1) := by decide +kernel
theorem ni_dX15_copy_18 : decode cX15_copy 18 = .ok (.getfield 91, 3) := by decide +kernel
theorem ni_dX15_copy_21 : decode cX15_copy 21 = .ok (.putfield 91, 3) := by decide +kernel
theorem ni_dX15_copy_24 : decode cX15_copy 24 = .ok (.aload_n 1, 1) := by decide +kernel
theorem ni_dX15_copy_25 : decode cX15_copy 25 = .ok (.aload_n 0, 1) := by decide +kernel
theorem ni_dX15_copy_26 : decode cX15_copy 26 = .ok (.getfield 94, 3) := by decide +kernel
theorem ni_dX15_copy_29 : decode cX15_copy 29 = .ok (.putfield 94, 3) := by decide +kernel
theorem ni_dX15_copy_32 : decode cX15_copy 32 = .ok (.iconst 0, 1) := by decide +kernel
theorem ni_dX15_copy_33 : decode cX15_copy 33 = .ok (.istore_n 2, 1) := by decide +kernel
theorem ni_dX15_copy_34 : decode cX15_copy 34 = .ok (.iload_n 2, 1) := by decide +kernel
theorem ni_dX15_copy_35 : decode cX15_copy 35 = .ok (.aload_n 0, 1) := by decide +kernel
theorem ni_dX15_copy_36 : decode cX15_copy 36 = .ok (.getfield 94, 3) := by decide +kernel
theorem ni_dX15_copy_39 : decode cX15_copy 39 = .ok (.if_icmp .ge 123, 3) := by decide +kernel
theorem ni_dX15_copy_162 : decode cX15_copy 162 = .ok (.aload_n 1, 1) := by decide +kernel
theorem ni_dX15_copy_163 : decode cX15_copy 163 = .ok (.aload_n 0, 1) := by decide +kernel
theorem ni_dX15_copy_164 : decode cX15_copy 164 = .ok (.getfield 101, 3) := by decide +kernel
theorem ni_dX15_copy_167 : decode cX15_copy 167 = .ok (.putfield 101, 3) := by decide +kernel
theorem ni_dX15_copy_170 : decode cX15_copy 170 = .ok (.aload_n 1, 1) := by decide +kernel
theorem ni_dX15_copy_171 : decode cX15_copy 171 = .ok (.aload_n 0, 1) := by decide +kernel
theorem ni_dX15_copy_172 : decode cX15_copy 172 = .ok (.getfield 104, 3) := by decide +kernel
theorem ni_dX15_copy_175 : decode cX15_copy 175 = .ok (.putfield 104, 3) := by decide +kernel
theorem ni_dX15_copy_178 : decode cX15_copy 178 = .ok (.iconst 0, 1) := by decide +kernel
theorem ni_dX15_copy_179 : decode cX15_copy 179 = .ok (.istore_n 2, 1) := by decide +kernel
theorem ni_dX15_copy_180 : decode cX15_copy 180 = .ok (.iload_n 2, 1) := by decide +kernel
theorem ni_dX15_copy_181 : decode cX15_copy 181 = .ok (.bipush 24, 2) := by decide +kernel
theorem ni_dX15_copy_183 : decode cX15_copy 183 = .ok (.if_icmp .ge 93, 3) := by decide +kernel
theorem ni_dX15_copy_186 : decode cX15_copy 186 = .ok (.aload_n 1, 1) := by decide +kernel
theorem ni_dX15_copy_187 : decode cX15_copy 187 = .ok (.getfield 37, 3) := by decide +kernel
theorem ni_dX15_copy_190 : decode cX15_copy 190 = .ok (.iload_n 2, 1) := by decide +kernel
theorem ni_dX15_copy_191 : decode cX15_copy 191 = .ok (.aload_n 0, 1) := by decide +kernel
theorem ni_dX15_copy_192 : decode cX15_copy 192 = .ok (.getfield 37, 3) := by decide +kernel
theorem ni_dX15_copy_195 : decode cX15_copy 195 = .ok (.iload_n 2, 1) := by decide +kernel
theorem ni_dX15_copy_196 : decode cX15_copy 196 = .ok (.iaload, 1) := by decide +kernel
theorem ni_dX15_copy_197 : decode cX15_copy 197 = .ok (.iastore, 1) := by decide +kernel
theorem ni_dX15_copy_198 : decode cX15_copy 198 = .ok (.aload_n 1, 1) := by decide +kernel
theorem ni_dX15_copy_199 : decode cX15_copy 199 = .ok (.getfield 40, 3) := by decide +kernel
theorem ni_dX15_copy_202 : decode cX15_copy 202 = .ok (.iload_n 2, 1) := by decide +kernel
theorem ni_dX15_copy_203 : decode cX15_copy 203 = .ok (.aload_n 0, 1) := by decide +kernel
theorem ni_dX15_copy_204 : decode cX15_copy 204 = .ok (.getfield 40, 3) := by decide +kernel
theorem ni_dX15_copy_207 : decode cX15_copy 207 = .ok (.iload_n 2, 1) := by decide +kernel
theorem ni_dX15_copy_208 : decode cX15_copy 208 = .ok (.iaload, 1) := by decide +kernel
theorem ni_dX15_copy_209 : decode cX15_copy 209 = .ok (.iastore, 1) := by decide +kernel
theorem ni_dX15_copy_210 : decode cX15_copy 210 = .ok (.aload_n 1, 1) := by decide +kernel
theorem ni_dX15_copy_211 : decode cX15_copy 211 = .ok (.getfield 43, 3) := by decide +kernel
theorem ni_dX15_copy_214 : decode cX15_copy 214 = .ok (.iload_n 2, 1) := by decide +kernel
theorem ni_dX15_copy_215 : decode cX15_copy 215 = .ok (.aload_n 0, 1) := by decide +kernel
theorem ni_dX15_copy_216 : decode cX15_copy 216 = .ok (.getfield 43, 3) := by decide +kernel
theorem ni_dX15_copy_219 : decode cX15_copy 219 = .ok (.iload_n 2, 1) := by decide +kernel
theorem ni_dX15_copy_220 : decode cX15_copy 220 = .ok (.iaload, 1) := by decide +kernel
theorem ni_dX15_copy_221 : decode cX15_copy 221 = .ok (.iastore, 1) := by decide +kernel
theorem ni_dX15_copy_222 : decode cX15_copy 222 = .ok (.aload_n 1, 1) := by decide +kernel
theorem ni_dX15_copy_223 : decode cX15_copy 223 = .ok (.getfield 46, 3) := by decide +kernel
theorem ni_dX15_copy_226 : decode cX15_copy 226 = .ok (.iload_n 2, 1) := by decide +kernel
theorem ni_dX15_copy_227 : decode cX15_copy 227 = .ok (.aload_n 0, 1) := by decide +kernel
theorem ni_dX15_copy_228 : decode cX15_copy 228 = .ok (.getfield 46, 3) := by decide +kernel
theorem ni_dX15_copy_231 : decode cX15_copy 231 = .ok (.iload_n 2, 1) := by decide +kernel
theorem ni_dX15_copy_232 : decode cX15_copy 232 = .ok (.iaload, 1) := by decide +kernel
theorem ni_dX15_copy_233 : decode cX15_copy 233 = .ok (.iastore, 1) := by decide +kernel
theorem ni_dX15_copy_234 : decode cX15_copy 234 = .ok (.aload_n 1, 1) := by decide +kernel
theorem ni_dX15_copy_235 : decode cX15_copy 235 = .ok (.getfield 49, 3) := by decide +kernel
theorem ni_dX15_copy_238 : decode cX15_copy 238 = .ok (.iload_n 2, 1) := by decide +kernel
theorem ni_dX15_copy_239 : decode cX15_copy 239 = .ok (.aload_n 0, 1) := by decide +kernel
theorem ni_dX15_copy_240 : decode cX15_copy 240 = .ok (.getfield 49, 3) := by decide +kernel
theorem ni_dX15_copy_243 : decode cX15_copy 243 = .ok (.iload_n 2, 1) := by decide +kernel
theorem ni_dX15_copy_244 : decode cX15_copy 244 = .ok (.iaload, 1) := by decide +kernel
theorem ni_dX15_copy_245 : decode cX15_copy 245 = .ok (.iastore, 1) := by decide +kernel
theorem ni_dX15_copy_246 : decode cX15_copy 246 = .ok (.aload_n 1, 1) := by decide +kernel
theorem ni_dX15_copy_247 : decode cX15_copy 247 = .ok (.getfield 52, 3) := by decide +kernel
theorem ni_dX15_copy_250 : decode cX15_copy 250 = .ok (.iload_n 2, 1) := by decide +kernel
theorem ni_dX15_copy_251 : decode cX15_copy 251 = .ok (.aload_n 0, 1) := by decide +kernel
theorem ni_dX15_copy_252 : decode cX15_copy 252 = .ok (.getfield 52, 3) := by decide +kernel
theorem ni_dX15_copy_255 : decode cX15_copy 255 = .ok (.iload_n 2, 1) := by decide +kernel
theorem ni_dX15_copy_256 : decode cX15_copy 256 = .ok (.iaload, 1) := by decide +kernel
theorem ni_dX15_copy_257 : decode cX15_copy 257 = .ok (.iastore, 1) := by decide +kernel
theorem ni_dX15_copy_258 : decode cX15_copy 258 = .ok (.aload_n 1, 1) := by decide +kernel
theorem ni_dX15_copy_259 : decode cX15_copy 259 = .ok (.getfield 55, 3) := by decide +kernel
theorem ni_dX15_copy_262 : decode cX15_copy 262 = .ok (.iload_n 2, 1) := by decide +kernel
theorem ni_dX15_copy_263 : decode cX15_copy 263 = .ok (.aload_n 0, 1) := by decide +kernel
theorem ni_dX15_copy_264 : decode cX15_copy 264 = .ok (.getfield 55, 3) := by decide +kernel
theorem ni_dX15_copy_267 : decode cX15_copy 267 = .ok (.iload_n 2, 1) := by decide +kernel
theorem ni_dX15_copy_268 : decode cX15_copy 268 = .ok (.iaload, 1) := by decide +kernel
theorem ni_dX15_copy_269 : decode cX15_copy 269 = .ok (.iastore, 1) := by decide +kernel
theorem ni_dX15_copy_270 : decode cX15_copy 270 = .ok (.iinc 2 1, 3) := by decide +kernel
theorem ni_dX15_copy_273 : decode cX15_copy 273 = .ok (.goto (-93), 3) := by decide +kernel
theorem ni_dX15_copy_276 : decode cX15_copy 276 = .ok (.iconst 0, 1) := by decide +kernel
theorem ni_dX15_copy_277 : decode cX15_copy 277 = .ok (.istore_n 2, 1) := by decide +kernel
theorem ni_dX15_copy_278 : decode cX15_copy 278 = .ok (.iload_n 2, 1) := by decide +kernel
theorem ni_dX15_copy_279 : decode cX15_copy 279 = .ok (.aload_n 0, 1) := by decide +kernel
theorem ni_dX15_copy_280 : decode cX15_copy 280 = .ok (.getfield 61, 3) := by decide +kernel
theorem ni_dX15_copy_283 : decode cX15_copy 283 = .ok (.invokevirtual 107, 3) := by decide +kernel
theorem ni_dX15_copy_286 : decode cX15_copy 286 = .ok (.if_icmp .ge 31, 3) := by decide +kernel
theorem ni_dX15_copy_317 : decode cX15_copy 317 = .ok (.iconst 0, 1) := by decide +kernel
theorem ni_dX15_copy_318 : decode cX15_copy 318 = .ok (.istore_n 2, 1) := by decide +kernel
theorem ni_dX15_copy_319 : decode cX15_copy 319 = .ok (.iload_n 2, 1) := by decide +kernel
theorem ni_dX15_copy_320 : decode cX15_copy 320 = .ok (.bipush 64, 2) := by decide +kernel
theorem ni_dX15_copy_322 : decode cX15_copy 322 = .ok (.if_icmp .ge 45, 3) := by decide +kernel
theorem ni_dX15_copy_325 : decode cX15_copy 325 = .ok (.aload_n 1, 1) := by decide +kernel
theorem ni_dX15_copy_326 : decode cX15_copy 326 = .ok (.getfield 67, 3) := by decide +kernel
theorem ni_dX15_copy_329 : decode cX15_copy 329 = .ok (.iload_n 2, 1) := by decide +kernel
theorem ni_dX15_copy_330 : decode cX15_copy 330 = .ok (.aload_n 0, 1) := by decide +kernel
theorem ni_dX15_copy_331 : decode cX15_copy 331 = .ok (.getfield 67, 3) := by decide +kernel
theorem ni_dX15_copy_334 : decode cX15_copy 334 = .ok (.iload_n 2, 1) := by decide +kernel
theorem ni_dX15_copy_335 : decode cX15_copy 335 = .ok (.aaload, 1) := by decide +kernel
theorem ni_dX15_copy_336 : decode cX15_copy 336 = .ok (.aastore, 1) := by decide +kernel
theorem ni_dX15_copy_337 : decode cX15_copy 337 = .ok (.aload_n 1, 1) := by decide +kernel
theorem ni_dX15_copy_338 : decode cX15_copy 338 = .ok (.getfield 71, 3) := by decide +kernel
theorem ni_dX15_copy_341 : decode cX15_copy 341 = .ok (.iload_n 2, 1) := by decide +kernel
theorem ni_dX15_copy_342 : decode cX15_copy 342 = .ok (.aload_n 0, 1) := by decide +kernel
theorem ni_dX15_copy_343 : decode cX15_copy 343 = .ok (.getfield 71, 3) := by decide +kernel
theorem ni_dX15_copy_346 : decode cX15_copy 346 = .ok (.iload_n 2, 1) := by decide +kernel
theorem ni_dX15_copy_347 : decode cX15_copy 347 = .ok (.iaload, 1) := by decide +kernel
theorem ni_dX15_copy_348 : decode cX15_copy 348 = .ok (.iastore, 1) := by decide +kernel
theorem ni_dX15_copy_349 : decode cX15_copy 349 = .ok (.aload_n 1, 1) := by decide +kernel
theorem ni_dX15_copy_350 : decode cX15_copy 350 = .ok (.getfield 75, 3) := by decide +kernel
theorem ni_dX15_copy_353 : decode cX15_copy 353 = .ok (.iload_n 2, 1) := by decide +kernel
theorem ni_dX15_copy_354 : decode cX15_copy 354 = .ok (.aload_n 0, 1) := by decide +kernel
theorem ni_dX15_copy_355 : decode cX15_copy 355 = .ok (.getfield 75, 3) := by decide +kernel
theorem ni_dX15_copy_358 : decode cX15_copy 358 = .ok (.iload_n 2, 1) := by decide +kernel
theorem ni_dX15_copy_359 : decode cX15_copy 359 = .ok (.aaload, 1) := by decide +kernel
theorem ni_dX15_copy_360 : decode cX15_copy 360 = .ok (.aastore, 1) := by decide +kernel
theorem ni_dX15_copy_361 : decode cX15_copy 361 = .ok (.iinc 2 1, 3) := by decide +kernel
theorem ni_dX15_copy_364 : decode cX15_copy 364 = .ok (.goto (-45), 3) := by decide +kernel
theorem ni_dX15_copy_367 : decode cX15_copy 367 = .ok (.iconst 0, 1) := by decide +kernel
theorem ni_dX15_copy_368 : decode cX15_copy 368 = .ok (.istore_n 2, 1) := by decide +kernel
theorem ni_dX15_copy_369 : decode cX15_copy 369 = .ok (.iload_n 2, 1) := by decide +kernel
theorem ni_dX15_copy_370 : decode cX15_copy 370 = .ok (.bipush 8, 2) := by decide +kernel
theorem ni_dX15_copy_372 : decode cX15_copy 372 = .ok (.if_icmp .ge 35, 3) := by decide +kernel
theorem ni_dX15_copy_375 : decode cX15_copy 375 = .ok (.aload_n 1, 1) := by decide +kernel
theorem ni_dX15_copy_376 : decode cX15_copy 376 = .ok (.getfield 79, 3) := by decide +kernel
theorem ni_dX15_copy_379 : decode cX15_copy 379 = .ok (.iload_n 2, 1) := by decide +kernel
theorem ni_dX15_copy_380 : decode cX15_copy 380 = .ok (.invokevirtual 111, 3) := by decide +kernel
theorem ni_dX15_copy_383 : decode cX15_copy 383 = .ok (.checkcast 58, 3) := by decide +kernel
theorem ni_dX15_copy_386 : decode cX15_copy 386 = .ok (.aload_n 0, 1) := by decide +kernel
theorem ni_dX15_copy_387 : decode cX15_copy 387 = .ok (.getfield 79, 3) := by decide +kernel
theorem ni_dX15_copy_390 : decode cX15_copy 390 = .ok (.iload_n 2, 1) := by decide +kernel
theorem ni_dX15_copy_391 : decode cX15_copy 391 = .ok (.invokevirtual 111, 3) := by decide +kernel
theorem ni_dX15_copy_394 : decode cX15_copy 394 = .ok (.checkcast 120, 3) := by decide +kernel
theorem ni_dX15_copy_397 : decode cX15_copy 397 = .ok (.invokevirtual 122, 3) := by decide +kernel
theorem ni_dX15_copy_400 : decode cX15_copy 400 = .ok (.pop, 1) := by decide +kernel
theorem ni_dX15_copy_401 : decode cX15_copy 401 = .ok (.iinc 2 1, 3) := by decide +kernel
theorem ni_dX15_copy_404 : decode cX15_copy 404 = .ok (.goto (-35), 3) := by decide +kernel
theorem ni_dX15_copy_407 : decode cX15_copy 407 = .ok (.aload_n 1, 1) := by decide +kernel
theorem ni_dX15_copy_408 : decode cX15_copy 408 = .ok (.areturn, 1) := by decide +kernel
theorem ni_dX15_letters_0 : decode cX15_letters 0 = .ok (.iconst 0, 1) := by decide +kernel
theorem ni_dX15_letters_1 : decode cX15_letters 1 = .ok (.istore_n 1, 1) := by decide +kernel
theorem ni_dX15_letters_2 : decode cX15_letters 2 = .ok (.iconst 0, 1) := by decide +kernel
theorem ni_dX15_letters_3 : decode cX15_letters 3 = .ok (.istore_n 2, 1) := by decide +kernel
theorem ni_dX15_letters_4 : decode cX15_letters 4 = .ok (.iload_n 2, 1) := by decide +kernel
theorem ni_dX15_letters_5 : decode cX15_letters 5 = .ok (.iconst 2, 1) := by decide +kernel
theorem ni_dX15_letters_6 : decode cX15_letters 6 = .ok (.aload_n 0, 1) := by decide +kernel
theorem ni_dX15_letters_7 : decode cX15_letters 7 = .ok (.getfield 94, 3) := by decide +kernel
theorem ni_dX15_letters_10 : decode cX15_letters 10 = .ok (.imul, 1) := by decide +kernel
theorem ni_dX15_letters_11 : decode cX15_letters 11 = .ok (.if_icmp .ge 24, 3) := by decide +kernel
theorem ni_dX15_letters_35 : decode cX15_letters 35 = .ok (.iload_n 1, 1) := by decide +kernel
theorem ni_dX15_letters_36 : decode cX15_letters 36 = .ok (.ireturn, 1) := by decide +kernel
theorem ni_dX15_tick_0 : decode cX15_tick 0 = .ok (.iconst 0, 1) := by decide +kernel
theorem ni_dX15_tick_1 : decode cX15_tick 1 = .ok (.istore_n 1, 1) := by decide +kernel
theorem ni_dX15_tick_2 : decode cX15_tick 2 = .ok (.iload_n 1, 1) := by decide +kernel
theorem ni_dX15_tick_3 : decode cX15_tick 3 = .ok (.iconst 2, 1) := by decide +kernel
theorem ni_dX15_tick_4 : decode cX15_tick 4 = .ok (.aload_n 0, 1) := by decide +kernel
theorem ni_dX15_tick_5 : decode cX15_tick 5 = .ok (.getfield 94, 3) := by decide +kernel
theorem ni_dX15_tick_8 : decode cX15_tick 8 = .ok (.imul, 1) := by decide +kernel
theorem ni_dX15_tick_9 : decode cX15_tick 9 = .ok (.if_icmp .ge 92, 3) := by decide +kernel
theorem ni_dX15_tick_101 : decode cX15_tick 101 = .ok (.iconst 0, 1) := by decide +kernel
theorem ni_dX15_tick_102 : decode cX15_tick 102 = .ok (.istore_n 1, 1) := by decide +kernel
theorem ni_dX15_tick_103 : decode cX15_tick 103 = .ok (.iload_n 1, 1) := by decide +kernel
theorem ni_dX15_tick_104 : decode cX15_tick 104 = .ok (.iconst 2, 1) := by decide +kernel
theorem ni_dX15_tick_105 : decode cX15_tick 105 = .ok (.aload_n 0, 1) := by decide +kernel
theorem ni_dX15_tick_106 : decode cX15_tick 106 = .ok (.getfield 94, 3) := by decide +kernel
theorem ni_dX15_tick_109 : decode cX15_tick 109 = .ok (.imul, 1) := by decide +kernel
theorem ni_dX15_tick_110 : decode cX15_tick 110 = .ok (.if_icmp .ge 86, 3) := by decide +kernel
theorem ni_dX15_tick_196 : decode cX15_tick 196 = .ok (.iconst 0, 1) := by decide +kernel
theorem ni_dX15_tick_197 : decode cX15_tick 197 = .ok (.istore_n 1, 1) := by decide +kernel
theorem ni_dX15_tick_198 : decode cX15_tick 198 = .ok (.iload_n 1, 1) := by decide +kernel
theorem ni_dX15_tick_199 : decode cX15_tick 199 = .ok (.aload_n 0, 1) := by decide +kernel
theorem ni_dX15_tick_200 : decode cX15_tick 200 = .ok (.getfield 61, 3) := by decide +kernel
theorem ni_dX15_tick_203 : decode cX15_tick 203 = .ok (.invokevirtual 107, 3) := by decide +kernel
theorem ni_dX15_tick_206 : decode cX15_tick 206 = .ok (.if_icmp .ge 14, 3) := by decide +kernel
theorem ni_dX15_tick_220 : decode cX15_tick 220 = .ok (.iconst 0, 1) := by decide +kernel
theorem ni_dX15_tick_221 : decode cX15_tick 221 = .ok (.istore_n 1, 1) := by decide +kernel
theorem ni_dX15_tick_222 : decode cX15_tick 222 = .ok (.iload_n 1, 1) := by decide +kernel
theorem ni_dX15_tick_223 : decode cX15_tick 223 = .ok (.aload_n 0, 1) := by decide +kernel
theorem ni_dX15_tick_224 : decode cX15_tick 224 = .ok (.getfield 91, 3) := by decide +kernel
theorem ni_dX15_tick_227 : decode cX15_tick 227 = .ok (.if_icmp .ge 14, 3) := by decide +kernel
theorem ni_dX15_tick_241 : decode cX15_tick 241 = .ok (.iconst 0, 1) := by decide +kernel
theorem ni_dX15_tick_242 : decode cX15_tick 242 = .ok (.istore_n 1, 1) := by decide +kernel
theorem ni_dX15_tick_243 : decode cX15_tick 243 = .ok (.iload_n 1, 1) := by decide +kernel
theorem ni_dX15_tick_244 : decode cX15_tick 244 = .ok (.iconst 2, 1) := by decide +kernel
theorem ni_dX15_tick_245 : decode cX15_tick 245 = .ok (.aload_n 0, 1) := by decide +kernel
theorem ni_dX15_tick_246 : decode cX15_tick 246 = .ok (.getfield 94, 3) := by decide +kernel
theorem ni_dX15_tick_249 : decode cX15_tick 249 = .ok (.imul, 1) := by decide +kernel
theorem ni_dX15_tick_250 : decode cX15_tick 250 = .ok (.if_icmp .ge 14, 3) := by decide +kernel
theorem ni_dX15_tick_264 : decode cX15_tick 264 = .ok (.aload_n 0, 1) := by decide +kernel
theorem ni_dX15_tick_265 : decode cX15_tick 265 = .ok (.dup, 1) := by decide +kernel
theorem ni_dX15_tick_266 : decode cX15_tick 266 = .ok (.getfield 87, 3) := by decide +kernel
theorem ni_dX15_tick_269 : decode cX15_tick 269 = .ok (.iconst 1, 1) := by decide +kernel
theorem ni_dX15_tick_270 : decode cX15_tick 270 = .ok (.iadd, 1) := by decide +kernel
theorem ni_dX15_tick_271 : decode cX15_tick 271 = .ok (.putfield 87, 3) := by decide +kernel
theorem ni_dX15_tick_274 : decode cX15_tick 274 = .ok (.return_, 1) := by decide +kernel
theorem ni_dJxa1e45_init_da8c8_0 : decode cJxa1e45_init_da8c8 0 = .ok (.aload_n 0, 1) := by decide +kernel
theorem ni_dJxa1e45_init_da8c8_1 : decode cJxa1e45_init_da8c8 1 = .ok (.invokespecial 1, 3) := by decide +kernel
theorem ni_dJxa1e45_init_da8c8_4 : decode cJxa1e45_init_da8c8 4 = .ok (.return_, 1) := by decide +kernel
theorem ni_dJxc12de_init_da8c8_0 : decode cJxc12de_init_da8c8 0 = .ok (.aload_n 0, 1) := by decide +kernel
theorem ni_dJxc12de_init_da8c8_1 : decode cJxc12de_init_da8c8 1 = .ok (.invokespecial 1, 3) := by decide +kernel
theorem ni_dJxc12de_init_da8c8_4 : decode cJxc12de_init_da8c8 4 = .ok (.aload_n 0, 1) := by decide +kernel
theorem ni_dJxc12de_init_da8c8_5 : decode cJxc12de_init_da8c8 5 = .ok (.iconst 0, 1) := by decide +kernel
theorem ni_dJxc12de_init_da8c8_6 : decode cJxc12de_init_da8c8 6 = .ok (.putfield 7, 3) := by decide +kernel
theorem ni_dJxc12de_init_da8c8_9 : decode cJxc12de_init_da8c8 9 = .ok (.return_, 1) := by decide +kernel
theorem ni_dJx4a65c_init_da8c8_0 : decode cJx4a65c_init_da8c8 0 = .ok (.aload_n 0, 1) := by decide +kernel
theorem ni_dJx4a65c_init_da8c8_1 : decode cJx4a65c_init_da8c8 1 = .ok (.invokespecial 1, 3) := by decide +kernel
theorem ni_dJx4a65c_init_da8c8_4 : decode cJx4a65c_init_da8c8 4 = .ok (.aload_n 0, 1) := by decide +kernel
theorem ni_dJx4a65c_init_da8c8_5 : decode cJx4a65c_init_da8c8 5 = .ok (.getstatic 39, 3) := by decide +kernel
theorem ni_dJx4a65c_init_da8c8_8 : decode cJx4a65c_init_da8c8 8 = .ok (.putfield 9, 3) := by decide +kernel
theorem ni_dJx4a65c_init_da8c8_11 : decode cJx4a65c_init_da8c8 11 = .ok (.return_, 1) := by decide +kernel
theorem ni_dJx4a65c_add_9ea2d_0 : decode cJx4a65c_add_9ea2d 0 = .ok (.aload_n 0, 1) := by decide +kernel
theorem ni_dJx4a65c_add_9ea2d_1 : decode cJx4a65c_add_9ea2d 1 = .ok (.dup, 1) := by decide +kernel
theorem ni_dJx4a65c_add_9ea2d_2 : decode cJx4a65c_add_9ea2d 2 = .ok (.getfield 63, 3) := by decide +kernel
theorem ni_dJx4a65c_add_9ea2d_5 : decode cJx4a65c_add_9ea2d 5 = .ok (.iconst 1, 1) := by decide +kernel
theorem ni_dJx4a65c_add_9ea2d_6 : decode cJx4a65c_add_9ea2d 6 = .ok (.iadd, 1) := by decide +kernel
theorem ni_dJx4a65c_add_9ea2d_7 : decode cJx4a65c_add_9ea2d 7 = .ok (.putfield 63, 3) := by decide +kernel
theorem ni_dJx4a65c_add_9ea2d_10 : decode cJx4a65c_add_9ea2d 10 = .ok (.aload_n 0, 1) := by decide +kernel
theorem ni_dJx4a65c_add_9ea2d_11 : decode cJx4a65c_add_9ea2d 11 = .ok (.aload_n 1, 1) := by decide +kernel
theorem ni_dJx4a65c_add_9ea2d_12 : decode cJx4a65c_add_9ea2d 12 = .ok (.aload_n 0, 1) := by decide +kernel
theorem ni_dJx4a65c_add_9ea2d_13 : decode cJx4a65c_add_9ea2d 13 = .ok (.getfield 9, 3) := by decide +kernel
theorem ni_dJx4a65c_add_9ea2d_16 : decode cJx4a65c_add_9ea2d 16 = .ok (.aload_n 0, 1) := by decide +kernel
theorem ni_dJx4a65c_add_9ea2d_17 : decode cJx4a65c_add_9ea2d 17 = .ok (.getfield 48, 3) := by decide +kernel
theorem ni_dJx4a65c_add_9ea2d_20 : decode cJx4a65c_add_9ea2d 20 = .ok (.invokevirtual 131, 3) := by decide +kernel
theorem ni_dJx4a65c_add_9ea2d_23 : decode cJx4a65c_add_9ea2d 23 = .ok (.iconst 1, 1) := by decide +kernel
theorem ni_dJx4a65c_add_9ea2d_24 : decode cJx4a65c_add_9ea2d 24 = .ok (.ireturn, 1) := by decide +kernel
theorem ni_dJx4a65c_add_72be8_0 : decode cJx4a65c_add_72be8 0 = .ok (.iload_n 3, 1) := by decide +kernel
theorem ni_dJx4a65c_add_72be8_1 : decode cJx4a65c_add_72be8 1 = .ok (.aload_n 2, 1) := by decide +kernel
theorem ni_dJx4a65c_add_72be8_2 : decode cJx4a65c_add_72be8 2 = .ok (.arraylength, 1) := by decide +kernel
theorem ni_dJx4a65c_add_72be8_3 : decode cJx4a65c_add_72be8 3 = .ok (.if_icmp .ne 8, 3) := by decide +kernel
theorem ni_dJx4a65c_add_72be8_6 : decode cJx4a65c_add_72be8 6 = .ok (.aload_n 0, 1) := by decide +kernel
theorem ni_dJx4a65c_add_72be8_7 : decode cJx4a65c_add_72be8 7 = .ok (.invokevirtual 129, 3) := by decide +kernel
theorem ni_dJx4a65c_add_72be8_10 : decode cJx4a65c_add_72be8 10 = .ok (.astore_n 2, 1) := by decide +kernel
theorem ni_dJx4a65c_add_72be8_11 : decode cJx4a65c_add_72be8 11 = .ok (.aload_n 2, 1) := by decide +kernel
theorem ni_dJx4a65c_add_72be8_12 : decode cJx4a65c_add_72be8 12 = .ok (.iload_n 3, 1) := by decide +kernel
theorem ni_dJx4a65c_add_72be8_13 : decode cJx4a65c_add_72be8 13 = .ok (.aload_n 1, 1) := by decide +kernel
theorem ni_dJx4a65c_add_72be8_14 : decode cJx4a65c_add_72be8 14 = .ok (.aastore, 1) := by decide +kernel
theorem ni_dJx4a65c_add_72be8_15 : decode cJx4a65c_add_72be8 15 = .ok (.aload_n 0, 1) := by decide +kernel
theorem ni_dJx4a65c_add_72be8_16 : decode cJx4a65c_add_72be8 16 = .ok (.iload_n 3, 1) := by decide +kernel
theorem ni_dJx4a65c_add_72be8_17 : decode cJx4a65c_add_72be8 17 = .ok (.iconst 1, 1) := by decide +kernel
theorem ni_dJx4a65c_add_72be8_18 : decode cJx4a65c_add_72be8 18 = .ok (.iadd, 1) := by decide +kernel
theorem ni_dJx4a65c_add_72be8_19 : decode cJx4a65c_add_72be8 19 = .ok (.putfield 48, 3) := by decide +kernel
theorem ni_dJx4a65c_add_72be8_22 : decode cJx4a65c_add_72be8 22 = .ok (.return_, 1) := by decide +kernel
theorem ni_dJx4a65c_addAll_f0b43_0 : decode cJx4a65c_addAll_f0b43 0 = .ok (.aload_n 1, 1) := by decide +kernel
theorem ni_dJx4a65c_addAll_f0b43_6 : decode cJx4a65c_addAll_f0b43 6 = .ok (.astore_n 2, 1) := by decide +kernel
theorem ni_dJx4a65c_addAll_f0b43_7 : decode cJx4a65c_addAll_f0b43 7 = .ok (.aload_n 0, 1) := by decide +kernel
theorem ni_dJx4a65c_addAll_f0b43_8 : decode cJx4a65c_addAll_f0b43 8 = .ok (.dup, 1) := by decide +kernel
theorem ni_dJx4a65c_addAll_f0b43_9 : decode cJx4a65c_addAll_f0b43 9 = .ok (.getfield 63, 3) := by decide +kernel
theorem ni_dJx4a65c_addAll_f0b43_12 : decode cJx4a65c_addAll_f0b43 12 = .ok (.iconst 1, 1) := by decide +kernel
theorem ni_dJx4a65c_addAll_f0b43_13 : decode cJx4a65c_addAll_f0b43 13 = .ok (.iadd, 1) := by decide +kernel
theorem ni_dJx4a65c_addAll_f0b43_14 : decode cJx4a65c_addAll_f0b43 14 = .ok (.putfield 63, 3) := by decide +kernel
theorem ni_dJx4a65c_addAll_f0b43_17 : decode cJx4a65c_addAll_f0b43 17 = .ok (.aload_n 2, 1) := by decide +kernel
theorem ni_dJx4a65c_addAll_f0b43_18 : decode cJx4a65c_addAll_f0b43 18 = .ok (.arraylength, 1) := by decide +kernel
theorem ni_dJx4a65c_addAll_f0b43_19 : decode cJx4a65c_addAll_f0b43 19 = .ok (.istore_n 3, 1) := by decide +kernel
theorem ni_dJx4a65c_addAll_f0b43_20 : decode cJx4a65c_addAll_f0b43 20 = .ok (.iload_n 3, 1) := by decide +kernel
theorem ni_dJx4a65c_addAll_f0b43_21 : decode cJx4a65c_addAll_f0b43 21 = .ok (.ifCond .ne 5, 3) := by decide +kernel
theorem ni_dJx4a65c_addAll_f0b43_24 : decode cJx4a65c_addAll_f0b43 24 = .ok (.iconst 0, 1) := by decide +kernel
theorem ni_dJx4a65c_addAll_f0b43_25 : decode cJx4a65c_addAll_f0b43 25 = .ok (.ireturn, 1) := by decide +kernel
theorem ni_dJx4a65c_elementData_915e3_0 : decode cJx4a65c_elementData_915e3 0 = .ok (.aload_n 0, 1) := by decide +kernel
theorem ni_dJx4a65c_elementData_915e3_1 : decode cJx4a65c_elementData_915e3 1 = .ok (.getfield 9, 3) := by decide +kernel
theorem ni_dJx4a65c_elementData_915e3_4 : decode cJx4a65c_elementData_915e3 4 = .ok (.iload_n 1, 1) := by decide +kernel
theorem ni_dJx4a65c_elementData_915e3_5 : decode cJx4a65c_elementData_915e3 5 = .ok (.aaload, 1) := by decide +kernel
theorem ni_dJx4a65c_elementData_915e3_6 : decode cJx4a65c_elementData_915e3 6 = .ok (.areturn, 1) := by decide +kernel
theorem ni_dJx4a65c_get_915e3_0 : decode cJx4a65c_get_915e3 0 = .ok (.iload_n 1, 1) := by decide +kernel
theorem ni_dJx4a65c_get_915e3_1 : decode cJx4a65c_get_915e3 1 = .ok (.aload_n 0, 1) := by decide +kernel
theorem ni_dJx4a65c_get_915e3_2 : decode cJx4a65c_get_915e3 2 = .ok (.getfield 48, 3) := by decide +kernel
theorem ni_dJx4a65c_get_915e3_5 : decode cJx4a65c_get_915e3 5 = .ok (.invokestatic 118, 3) := by decide +kernel
theorem ni_dJx4a65c_get_915e3_8 : decode cJx4a65c_get_915e3 8 = .ok (.pop, 1) := by decide +kernel
theorem ni_dJx4a65c_get_915e3_9 : decode cJx4a65c_get_915e3 9 = .ok (.aload_n 0, 1) := by decide +kernel
theorem ni_dJx4a65c_get_915e3_10 : decode cJx4a65c_get_915e3 10 = .ok (.iload_n 1, 1) := by decide +kernel
theorem ni_dJx4a65c_get_915e3_11 : decode cJx4a65c_get_915e3 11 = .ok (.invokevirtual 123, 3) := by decide +kernel
theorem ni_dJx4a65c_get_915e3_14 : decode cJx4a65c_get_915e3 14 = .ok (.areturn, 1) := by decide +kernel
theorem ni_dJx4a65c_grow_d5877_0 : decode cJx4a65c_grow_d5877 0 = .ok (.aload_n 0, 1) := by decide +kernel
theorem ni_dJx4a65c_grow_d5877_1 : decode cJx4a65c_grow_d5877 1 = .ok (.aload_n 0, 1) := by decide +kernel
theorem ni_dJx4a65c_grow_d5877_2 : decode cJx4a65c_grow_d5877 2 = .ok (.getfield 48, 3) := by decide +kernel
theorem ni_dJx4a65c_grow_d5877_5 : decode cJx4a65c_grow_d5877 5 = .ok (.iconst 1, 1) := by decide +kernel
theorem ni_dJx4a65c_grow_d5877_6 : decode cJx4a65c_grow_d5877 6 = .ok (.iadd, 1) := by decide +kernel
theorem ni_dJx4a65c_grow_d5877_7 : decode cJx4a65c_grow_d5877 7 = .ok (.invokevirtual 69, 3) := by decide +kernel
theorem ni_dJx4a65c_grow_d5877_10 : decode cJx4a65c_grow_d5877 10 = .ok (.areturn, 1) := by decide +kernel
theorem ni_dJx4a65c_grow_92f84_0 : decode cJx4a65c_grow_92f84 0 = .ok (.aload_n 0, 1) := by decide +kernel
theorem ni_dJx4a65c_grow_92f84_1 : decode cJx4a65c_grow_92f84 1 = .ok (.getfield 9, 3) := by decide +kernel
theorem ni_dJx4a65c_grow_92f84_4 : decode cJx4a65c_grow_92f84 4 = .ok (.arraylength, 1) := by decide +kernel
theorem ni_dJx4a65c_grow_92f84_5 : decode cJx4a65c_grow_92f84 5 = .ok (.istore_n 2, 1) := by decide +kernel
theorem ni_dJx4a65c_grow_92f84_6 : decode cJx4a65c_grow_92f84 6 = .ok (.iload_n 2, 1) := by decide +kernel
theorem ni_dJx4a65c_grow_92f84_7 : decode cJx4a65c_grow_92f84 7 = .ok (.ifCond .gt 13, 3) := by decide +kernel
theorem ni_dJx4a65c_grow_92f84_10 : decode cJx4a65c_grow_92f84 10 = .ok (.aload_n 0, 1) := by decide +kernel
theorem ni_dJx4a65c_grow_92f84_11 : decode cJx4a65c_grow_92f84 11 = .ok (.getfield 9, 3) := by decide +kernel
theorem ni_dJx4a65c_grow_92f84_14 : decode cJx4a65c_grow_92f84 14 = .ok (.getstatic 39, 3) := by decide +kernel
theorem ni_dJx4a65c_grow_92f84_17 : decode cJx4a65c_grow_92f84 17 = .ok (.if_acmp .eq 28, 3) := by decide +kernel
theorem ni_dJx4a65c_grow_92f84_45 : decode cJx4a65c_grow_92f84 45 = .ok (.aload_n 0, 1) := by decide +kernel
theorem ni_dJx4a65c_grow_92f84_46 : decode cJx4a65c_grow_92f84 46 = .ok (.bipush 10, 2) := by decide +kernel
theorem ni_dJx4a65c_grow_92f84_48 : decode cJx4a65c_grow_92f84 48 = .ok (.iload_n 1, 1) := by decide +kernel
theorem ni_dJx4a65c_grow_92f84_49 : decode cJx4a65c_grow_92f84 49 = .ok (.invokestatic 79, 3) := by decide +kernel
theorem ni_dJx4a65c_grow_92f84_52 : decode cJx4a65c_grow_92f84 52 = .ok (.anewarray 7, 3) := by decide +kernel
theorem ni_dJx4a65c_grow_92f84_55 : decode cJx4a65c_grow_92f84 55 = .ok (.dup_x1, 1) := by decide +kernel
theorem ni_dJx4a65c_grow_92f84_56 : decode cJx4a65c_grow_92f84 56 = .ok (.putfield 9, 3) := by decide +kernel
theorem ni_dJx4a65c_grow_92f84_59 : decode cJx4a65c_grow_92f84 59 = .ok (.areturn, 1) := by decide +kernel
theorem ni_dJx4a65c_size_8abf5_0 : decode cJx4a65c_size_8abf5 0 = .ok (.aload_n 0, 1) := by decide +kernel
theorem ni_dJx4a65c_size_8abf5_1 : decode cJx4a65c_size_8abf5 1 = .ok (.getfield 48, 3) := by decide +kernel
theorem ni_dJx4a65c_size_8abf5_4 : decode cJx4a65c_size_8abf5 4 = .ok (.ireturn, 1) := by decide +kernel
theorem ni_dJx4a65c_toArray_d5877_0 : decode cJx4a65c_toArray_d5877 0 = .ok (.aload_n 0, 1) := by decide +kernel
theorem ni_dJx4a65c_toArray_d5877_1 : decode cJx4a65c_toArray_d5877 1 = .ok (.getfield 9, 3) := by decide +kernel
theorem ni_dJx4a65c_toArray_d5877_4 : decode cJx4a65c_toArray_d5877 4 = .ok (.aload_n 0, 1) := by decide +kernel
theorem ni_dJx4a65c_toArray_d5877_5 : decode cJx4a65c_toArray_d5877 5 = .ok (.getfield 48, 3) := by decide +kernel
theorem ni_dJx4a65c_toArray_d5877_8 : decode cJx4a65c_toArray_d5877 8 = .ok (.invokestatic 66, 3) := by decide +kernel
theorem ni_dJx4a65c_toArray_d5877_11 : decode cJx4a65c_toArray_d5877 11 = .ok (.areturn, 1) := by decide +kernel
theorem ni_dJ7_copyOf_1904c_0 : decode cJ7_copyOf_1904c 0 = .ok (.aload_n 0, 1) := by decide +kernel
theorem ni_dJ7_copyOf_1904c_1 : decode cJ7_copyOf_1904c 1 = .ok (.iload_n 1, 1) := by decide +kernel
theorem ni_dJ7_copyOf_1904c_2 : decode cJ7_copyOf_1904c 2 = .ok (.aload_n 0, 1) := by decide +kernel
theorem ni_dJ7_copyOf_1904c_6 : decode cJ7_copyOf_1904c 6 = .ok (.invokestatic 300, 3) := by decide +kernel
theorem ni_dJ7_copyOf_1904c_9 : decode cJ7_copyOf_1904c 9 = .ok (.areturn, 1) := by decide +kernel
theorem ni_dJ7_copyOf_6403c_0 : decode cJ7_copyOf_6403c 0 = .ok (.aload_n 2, 1) := by decide +kernel
theorem ni_dJ7_copyOf_6403c_6 : decode cJ7_copyOf_6403c 6 = .ok (.iload_n 1, 1) := by decide +kernel
theorem ni_dJ7_copyOf_6403c_7 : decode cJ7_copyOf_6403c 7 = .ok (.anewarray 2, 3) := by decide +kernel
theorem ni_dJ7_copyOf_6403c_10 : decode cJ7_copyOf_6403c 10 = .ok (.goto 14, 3) := by decide +kernel
theorem ni_dJ7_copyOf_6403c_24 : decode cJ7_copyOf_6403c 24 = .ok (.astore_n 3, 1) := by decide +kernel
theorem ni_dJ7_copyOf_6403c_25 : decode cJ7_copyOf_6403c 25 = .ok (.aload_n 0, 1) := by decide +kernel
end
section
theorem ni_dJ7_copyOf_6403c_26 : decode cJ7_copyOf_6403c 26 = .ok (.iconst 0, 1) := by decide +kernel
theorem ni_dJ7_copyOf_6403c_27 : decode cJ7_copyOf_6403c 27 = .ok (.aload_n 3, 1) := by decide +kernel
theorem ni_dJ7_copyOf_6403c_28 : decode cJ7_copyOf_6403c 28 = .ok (.iconst 0, 1) := by decide +kernel
theorem ni_dJ7_copyOf_6403c_29 : decode cJ7_copyOf_6403c 29 = .ok (.aload_n 0, 1) := by decide +kernel
theorem ni_dJ7_copyOf_6403c_30 : decode cJ7_copyOf_6403c 30 = .ok (.arraylength, 1) := by decide +kernel
theorem ni_dJ7_copyOf_6403c_31 : decode cJ7_copyOf_6403c 31 = .ok (.iload_n 1, 1) := by decide +kernel
theorem ni_dJ7_copyOf_6403c_32 : decode cJ7_copyOf_6403c 32 = .ok (.invokestatic 304, 3) := by decide +kernel
theorem ni_dJ7_copyOf_6403c_35 : decode cJ7_copyOf_6403c 35 = .ok (.invokestatic 150, 3) := by decide +kernel
theorem ni_dJ7_copyOf_6403c_38 : decode cJ7_copyOf_6403c 38 = .ok (.aload_n 3, 1) := by decide +kernel
theorem ni_dJ7_copyOf_6403c_39 : decode cJ7_copyOf_6403c 39 = .ok (.areturn, 1) := by decide +kernel
theorem ni_dJ15_checkIndex_7cf53_0 : decode cJ15_checkIndex_7cf53 0 = .ok (.iload_n 0, 1) := by decide +kernel
theorem ni_dJ15_checkIndex_7cf53_1 : decode cJ15_checkIndex_7cf53 1 = .ok (.iload_n 1, 1) := by decide +kernel
theorem ni_dJ15_checkIndex_7cf53_2 : decode cJ15_checkIndex_7cf53 2 = .ok (.aconst_null, 1) := by decide +kernel
theorem ni_dJ15_checkIndex_7cf53_3 : decode cJ15_checkIndex_7cf53 3 = .ok (.invokestatic 105, 3) := by decide +kernel
theorem ni_dJ15_checkIndex_7cf53_6 : decode cJ15_checkIndex_7cf53 6 = .ok (.ireturn, 1) := by decide +kernel
theorem ni_dJ3_checkIndex_8e157_0 : decode cJ3_checkIndex_8e157 0 = .ok (.iload_n 0, 1) := by decide +kernel
theorem ni_dJ3_checkIndex_8e157_1 : decode cJ3_checkIndex_8e157 1 = .ok (.ifCond .lt 8, 3) := by decide +kernel
theorem ni_dJ3_checkIndex_8e157_4 : decode cJ3_checkIndex_8e157 4 = .ok (.iload_n 0, 1) := by decide +kernel
theorem ni_dJ3_checkIndex_8e157_5 : decode cJ3_checkIndex_8e157 5 = .ok (.iload_n 1, 1) := by decide +kernel
theorem ni_dJ3_checkIndex_8e157_6 : decode cJ3_checkIndex_8e157 6 = .ok (.if_icmp .lt 10, 3) := by decide +kernel
theorem ni_dJ3_checkIndex_8e157_16 : decode cJ3_checkIndex_8e157 16 = .ok (.iload_n 0, 1) := by decide +kernel
theorem ni_dJ3_checkIndex_8e157_17 : decode cJ3_checkIndex_8e157 17 = .ok (.ireturn, 1) := by decide +kernel
end
section
theorem ni_dL_law_0 : decode cL_law 0 = .ok (.new 8, 3) := by decide +kernel
theorem ni_dL_law_3 : decode cL_law 3 = .ok (.dup, 1) := by decide +kernel
theorem ni_dL_law_4 : decode cL_law 4 = .ok (.invokespecial 151, 3) := by decide +kernel
theorem ni_dL_law_7 : decode cL_law 7 = .ok (.astore_n 1, 1) := by decide +kernel
theorem ni_dL_law_8 : decode cL_law 8 = .ok (.new 152, 3) := by decide +kernel
theorem ni_dL_law_11 : decode cL_law 11 = .ok (.dup, 1) := by decide +kernel
theorem ni_dL_law_12 : decode cL_law 12 = .ok (.invokespecial 154, 3) := by decide +kernel
theorem ni_dL_law_15 : decode cL_law 15 = .ok (.astore_n 2, 1) := by decide +kernel
theorem ni_dL_law_16 : decode cL_law 16 = .ok (.iconst 1, 1) := by decide +kernel
theorem ni_dL_law_17 : decode cL_law 17 = .ok (.newarray .long, 2) := by decide +kernel
theorem ni_dL_law_19 : decode cL_law 19 = .ok (.astore_n 3, 1) := by decide +kernel
theorem ni_dL_law_20 : decode cL_law 20 = .ok (.iconst 1, 1) := by decide +kernel
theorem ni_dL_law_21 : decode cL_law 21 = .ok (.newarray .double, 2) := by decide +kernel
theorem ni_dL_law_23 : decode cL_law 23 = .ok (.astore 4, 2) := by decide +kernel
theorem ni_dL_law_25 : decode cL_law 25 = .ok (.iconst 0, 1) := by decide +kernel
theorem ni_dL_law_26 : decode cL_law 26 = .ok (.istore 5, 2) := by decide +kernel
theorem ni_dL_law_28 : decode cL_law 28 = .ok (.iload 5, 2) := by decide +kernel
theorem ni_dL_law_30 : decode cL_law 30 = .ok (.aload_n 0, 1) := by decide +kernel
theorem ni_dL_law_31 : decode cL_law 31 = .ok (.arraylength, 1) := by decide +kernel
theorem ni_dL_law_32 : decode cL_law 32 = .ok (.bipush 6, 2) := by decide +kernel
theorem ni_dL_law_34 : decode cL_law 34 = .ok (.isub, 1) := by decide +kernel
theorem ni_dL_law_35 : decode cL_law 35 = .ok (.if_icmp .gt 3288, 3) := by decide +kernel
theorem ni_dL_law_38 : decode cL_law 38 = .ok (.aload_n 0, 1) := by decide +kernel
theorem ni_dL_law_39 : decode cL_law 39 = .ok (.iload 5, 2) := by decide +kernel
theorem ni_dL_law_41 : decode cL_law 41 = .ok (.iaload, 1) := by decide +kernel
theorem ni_dL_law_42 : decode cL_law 42 = .ok (.bipush 63, 2) := by decide +kernel
theorem ni_dL_law_44 : decode cL_law 44 = .ok (.iand, 1) := by decide +kernel
theorem ni_dL_law_45 : decode cL_law 45 = .ok (.tableswitch 3272 0 49 #[215, 259, 363, 431, 522, 602, 658, 750, 806, 942, 1050, 1142, 1234, 1314, 1370, 1383, 1396, 1409, 1422, 1435, 1448, 1511, 1579, 1592, 1605, 1673, 1741, 1797, 1853, 1909, 1977, 2045, 2113, 2181, 2237, 2321, 2417, 2501, 2597, 2653, 2709, 2765, 2821, 2877, 2945, 3001, 3078, 3134, 3202, 3258], 215) := by decide +kernel
theorem ni_dL_law_260 : decode cL_law 260 = .ok (.aload_n 1, 1) := by decide +kernel
theorem ni_dL_law_261 : decode cL_law 261 = .ok (.aload_n 3, 1) := by decide +kernel
theorem ni_dL_law_262 : decode cL_law 262 = .ok (.invokestatic 155, 3) := by decide +kernel
theorem ni_dL_law_265 : decode cL_law 265 = .ok (.istore 6, 2) := by decide +kernel
theorem ni_dL_law_267 : decode cL_law 267 = .ok (.aload_n 2, 1) := by decide +kernel
theorem ni_dL_law_268 : decode cL_law 268 = .ok (.invokevirtual 160, 3) := by decide +kernel
theorem ni_dL_law_271 : decode cL_law 271 = .ok (.istore 7, 2) := by decide +kernel
theorem ni_dL_law_273 : decode cL_law 273 = .ok (.aload_n 2, 1) := by decide +kernel
theorem ni_dL_law_274 : decode cL_law 274 = .ok (.invokevirtual 161, 3) := by decide +kernel
theorem ni_dL_law_277 : decode cL_law 277 = .ok (.iload 6, 2) := by decide +kernel
theorem ni_dL_law_279 : decode cL_law 279 = .ok (.if_icmp .eq 5, 3) := by decide +kernel
theorem ni_dL_law_284 : decode cL_law 284 = .ok (.iload 6, 2) := by decide +kernel
theorem ni_dL_law_286 : decode cL_law 286 = .ok (.ifCond .ne 15, 3) := by decide +kernel
theorem ni_dL_law_289 : decode cL_law 289 = .ok (.aload_n 3, 1) := by decide +kernel
theorem ni_dL_law_290 : decode cL_law 290 = .ok (.iconst 0, 1) := by decide +kernel
theorem ni_dL_law_291 : decode cL_law 291 = .ok (.laload, 1) := by decide +kernel
theorem ni_dL_law_292 : decode cL_law 292 = .ok (.iload 7, 2) := by decide +kernel
theorem ni_dL_law_294 : decode cL_law 294 = .ok (.i2l, 1) := by decide +kernel
theorem ni_dL_law_295 : decode cL_law 295 = .ok (.lcmp, 1) := by decide +kernel
theorem ni_dL_law_296 : decode cL_law 296 = .ok (.ifCond .eq 5, 3) := by decide +kernel
theorem ni_dL_law_301 : decode cL_law 301 = .ok (.goto 3016, 3) := by decide +kernel
theorem ni_dL_law_304 : decode cL_law 304 = .ok (.aload_n 1, 1) := by decide +kernel
theorem ni_dL_law_305 : decode cL_law 305 = .ok (.aload_n 0, 1) := by decide +kernel
theorem ni_dL_law_306 : decode cL_law 306 = .ok (.iload 5, 2) := by decide +kernel
theorem ni_dL_law_308 : decode cL_law 308 = .ok (.iconst 1, 1) := by decide +kernel
theorem ni_dL_law_309 : decode cL_law 309 = .ok (.iadd, 1) := by decide +kernel
theorem ni_dL_law_310 : decode cL_law 310 = .ok (.iaload, 1) := by decide +kernel
theorem ni_dL_law_311 : decode cL_law 311 = .ok (.aload_n 0, 1) := by decide +kernel
theorem ni_dL_law_312 : decode cL_law 312 = .ok (.iload 5, 2) := by decide +kernel
theorem ni_dL_law_314 : decode cL_law 314 = .ok (.iconst 2, 1) := by decide +kernel
theorem ni_dL_law_315 : decode cL_law 315 = .ok (.iadd, 1) := by decide +kernel
theorem ni_dL_law_316 : decode cL_law 316 = .ok (.iaload, 1) := by decide +kernel
theorem ni_dL_law_317 : decode cL_law 317 = .ok (.aload_n 0, 1) := by decide +kernel
theorem ni_dL_law_318 : decode cL_law 318 = .ok (.iload 5, 2) := by decide +kernel
theorem ni_dL_law_320 : decode cL_law 320 = .ok (.iconst 3, 1) := by decide +kernel
theorem ni_dL_law_321 : decode cL_law 321 = .ok (.iadd, 1) := by decide +kernel
theorem ni_dL_law_322 : decode cL_law 322 = .ok (.iaload, 1) := by decide +kernel
theorem ni_dL_law_323 : decode cL_law 323 = .ok (.aload_n 0, 1) := by decide +kernel
theorem ni_dL_law_324 : decode cL_law 324 = .ok (.iload 5, 2) := by decide +kernel
theorem ni_dL_law_326 : decode cL_law 326 = .ok (.iconst 4, 1) := by decide +kernel
theorem ni_dL_law_327 : decode cL_law 327 = .ok (.iadd, 1) := by decide +kernel
theorem ni_dL_law_328 : decode cL_law 328 = .ok (.iaload, 1) := by decide +kernel
theorem ni_dL_law_329 : decode cL_law 329 = .ok (.aload_n 0, 1) := by decide +kernel
theorem ni_dL_law_330 : decode cL_law 330 = .ok (.iload 5, 2) := by decide +kernel
theorem ni_dL_law_332 : decode cL_law 332 = .ok (.iconst 5, 1) := by decide +kernel
theorem ni_dL_law_333 : decode cL_law 333 = .ok (.iadd, 1) := by decide +kernel
theorem ni_dL_law_334 : decode cL_law 334 = .ok (.iaload, 1) := by decide +kernel
theorem ni_dL_law_335 : decode cL_law 335 = .ok (.aload_n 3, 1) := by decide +kernel
theorem ni_dL_law_336 : decode cL_law 336 = .ok (.invokestatic 164, 3) := by decide +kernel
theorem ni_dL_law_339 : decode cL_law 339 = .ok (.istore 6, 2) := by decide +kernel
theorem ni_dL_law_341 : decode cL_law 341 = .ok (.aload_n 2, 1) := by decide +kernel
theorem ni_dL_law_342 : decode cL_law 342 = .ok (.aload_n 0, 1) := by decide +kernel
theorem ni_dL_law_343 : decode cL_law 343 = .ok (.iload 5, 2) := by decide +kernel
theorem ni_dL_law_345 : decode cL_law 345 = .ok (.iconst 1, 1) := by decide +kernel
theorem ni_dL_law_346 : decode cL_law 346 = .ok (.iadd, 1) := by decide +kernel
theorem ni_dL_law_347 : decode cL_law 347 = .ok (.iaload, 1) := by decide +kernel
theorem ni_dL_law_348 : decode cL_law 348 = .ok (.aload_n 0, 1) := by decide +kernel
theorem ni_dL_law_349 : decode cL_law 349 = .ok (.iload 5, 2) := by decide +kernel
theorem ni_dL_law_351 : decode cL_law 351 = .ok (.iconst 2, 1) := by decide +kernel
theorem ni_dL_law_352 : decode cL_law 352 = .ok (.iadd, 1) := by decide +kernel
theorem ni_dL_law_353 : decode cL_law 353 = .ok (.iaload, 1) := by decide +kernel
theorem ni_dL_law_354 : decode cL_law 354 = .ok (.aload_n 0, 1) := by decide +kernel
theorem ni_dL_law_355 : decode cL_law 355 = .ok (.iload 5, 2) := by decide +kernel
theorem ni_dL_law_357 : decode cL_law 357 = .ok (.iconst 3, 1) := by decide +kernel
theorem ni_dL_law_358 : decode cL_law 358 = .ok (.iadd, 1) := by decide +kernel
theorem ni_dL_law_359 : decode cL_law 359 = .ok (.iaload, 1) := by decide +kernel
theorem ni_dL_law_360 : decode cL_law 360 = .ok (.aload_n 0, 1) := by decide +kernel
theorem ni_dL_law_361 : decode cL_law 361 = .ok (.iload 5, 2) := by decide +kernel
theorem ni_dL_law_363 : decode cL_law 363 = .ok (.iconst 4, 1) := by decide +kernel
theorem ni_dL_law_364 : decode cL_law 364 = .ok (.iadd, 1) := by decide +kernel
theorem ni_dL_law_365 : decode cL_law 365 = .ok (.iaload, 1) := by decide +kernel
theorem ni_dL_law_366 : decode cL_law 366 = .ok (.aload_n 0, 1) := by decide +kernel
theorem ni_dL_law_367 : decode cL_law 367 = .ok (.iload 5, 2) := by decide +kernel
theorem ni_dL_law_369 : decode cL_law 369 = .ok (.iconst 5, 1) := by decide +kernel
theorem ni_dL_law_370 : decode cL_law 370 = .ok (.iadd, 1) := by decide +kernel
theorem ni_dL_law_371 : decode cL_law 371 = .ok (.iaload, 1) := by decide +kernel
theorem ni_dL_law_372 : decode cL_law 372 = .ok (.invokevirtual 167, 3) := by decide +kernel
theorem ni_dL_law_375 : decode cL_law 375 = .ok (.istore 7, 2) := by decide +kernel
theorem ni_dL_law_377 : decode cL_law 377 = .ok (.aload_n 2, 1) := by decide +kernel
theorem ni_dL_law_378 : decode cL_law 378 = .ok (.invokevirtual 161, 3) := by decide +kernel
theorem ni_dL_law_381 : decode cL_law 381 = .ok (.iload 6, 2) := by decide +kernel
theorem ni_dL_law_383 : decode cL_law 383 = .ok (.if_icmp .eq 5, 3) := by decide +kernel
theorem ni_dL_law_388 : decode cL_law 388 = .ok (.iload 6, 2) := by decide +kernel
theorem ni_dL_law_390 : decode cL_law 390 = .ok (.ifCond .ne 15, 3) := by decide +kernel
theorem ni_dL_law_405 : decode cL_law 405 = .ok (.goto 2912, 3) := by decide +kernel
theorem ni_dL_law_408 : decode cL_law 408 = .ok (.aload_n 1, 1) := by decide +kernel
theorem ni_dL_law_409 : decode cL_law 409 = .ok (.aload_n 0, 1) := by decide +kernel
theorem ni_dL_law_410 : decode cL_law 410 = .ok (.iload 5, 2) := by decide +kernel
theorem ni_dL_law_412 : decode cL_law 412 = .ok (.iconst 1, 1) := by decide +kernel
theorem ni_dL_law_413 : decode cL_law 413 = .ok (.iadd, 1) := by decide +kernel
theorem ni_dL_law_414 : decode cL_law 414 = .ok (.iaload, 1) := by decide +kernel
theorem ni_dL_law_415 : decode cL_law 415 = .ok (.aload_n 0, 1) := by decide +kernel
theorem ni_dL_law_416 : decode cL_law 416 = .ok (.iload 5, 2) := by decide +kernel
theorem ni_dL_law_418 : decode cL_law 418 = .ok (.iconst 2, 1) := by decide +kernel
theorem ni_dL_law_419 : decode cL_law 419 = .ok (.iadd, 1) := by decide +kernel
theorem ni_dL_law_420 : decode cL_law 420 = .ok (.iaload, 1) := by decide +kernel
theorem ni_dL_law_421 : decode cL_law 421 = .ok (.aload_n 3, 1) := by decide +kernel
theorem ni_dL_law_422 : decode cL_law 422 = .ok (.invokestatic 168, 3) := by decide +kernel
theorem ni_dL_law_425 : decode cL_law 425 = .ok (.istore 6, 2) := by decide +kernel
theorem ni_dL_law_427 : decode cL_law 427 = .ok (.aload_n 2, 1) := by decide +kernel
theorem ni_dL_law_428 : decode cL_law 428 = .ok (.aload_n 0, 1) := by decide +kernel
theorem ni_dL_law_429 : decode cL_law 429 = .ok (.iload 5, 2) := by decide +kernel
theorem ni_dL_law_431 : decode cL_law 431 = .ok (.iconst 1, 1) := by decide +kernel
theorem ni_dL_law_432 : decode cL_law 432 = .ok (.iadd, 1) := by decide +kernel
theorem ni_dL_law_433 : decode cL_law 433 = .ok (.iaload, 1) := by decide +kernel
theorem ni_dL_law_434 : decode cL_law 434 = .ok (.aload_n 0, 1) := by decide +kernel
theorem ni_dL_law_435 : decode cL_law 435 = .ok (.iload 5, 2) := by decide +kernel
theorem ni_dL_law_437 : decode cL_law 437 = .ok (.iconst 2, 1) := by decide +kernel
theorem ni_dL_law_438 : decode cL_law 438 = .ok (.iadd, 1) := by decide +kernel
theorem ni_dL_law_439 : decode cL_law 439 = .ok (.iaload, 1) := by decide +kernel
theorem ni_dL_law_440 : decode cL_law 440 = .ok (.invokevirtual 171, 3) := by decide +kernel
theorem ni_dL_law_443 : decode cL_law 443 = .ok (.istore 7, 2) := by decide +kernel
theorem ni_dL_law_445 : decode cL_law 445 = .ok (.aload_n 2, 1) := by decide +kernel
theorem ni_dL_law_446 : decode cL_law 446 = .ok (.invokevirtual 161, 3) := by decide +kernel
theorem ni_dL_law_449 : decode cL_law 449 = .ok (.iload 6, 2) := by decide +kernel
theorem ni_dL_law_451 : decode cL_law 451 = .ok (.if_icmp .eq 5, 3) := by decide +kernel
theorem ni_dL_law_456 : decode cL_law 456 = .ok (.iload 6, 2) := by decide +kernel
theorem ni_dL_law_458 : decode cL_law 458 = .ok (.ifCond .ne 15, 3) := by decide +kernel
theorem ni_dL_law_473 : decode cL_law 473 = .ok (.goto 2844, 3) := by decide +kernel
theorem ni_dL_law_476 : decode cL_law 476 = .ok (.aload_n 1, 1) := by decide +kernel
theorem ni_dL_law_477 : decode cL_law 477 = .ok (.aload_n 0, 1) := by decide +kernel
theorem ni_dL_law_478 : decode cL_law 478 = .ok (.iload 5, 2) := by decide +kernel
theorem ni_dL_law_480 : decode cL_law 480 = .ok (.iconst 1, 1) := by decide +kernel
theorem ni_dL_law_481 : decode cL_law 481 = .ok (.iadd, 1) := by decide +kernel
theorem ni_dL_law_482 : decode cL_law 482 = .ok (.iaload, 1) := by decide +kernel
theorem ni_dL_law_483 : decode cL_law 483 = .ok (.aload_n 0, 1) := by decide +kernel
theorem ni_dL_law_484 : decode cL_law 484 = .ok (.iload 5, 2) := by decide +kernel
theorem ni_dL_law_486 : decode cL_law 486 = .ok (.iconst 2, 1) := by decide +kernel
theorem ni_dL_law_487 : decode cL_law 487 = .ok (.iadd, 1) := by decide +kernel
theorem ni_dL_law_488 : decode cL_law 488 = .ok (.iaload, 1) := by decide +kernel
theorem ni_dL_law_489 : decode cL_law 489 = .ok (.ifCond .eq 7, 3) := by decide +kernel
theorem ni_dL_law_492 : decode cL_law 492 = .ok (.iconst 1, 1) := by decide +kernel
theorem ni_dL_law_493 : decode cL_law 493 = .ok (.goto 4, 3) := by decide +kernel
theorem ni_dL_law_496 : decode cL_law 496 = .ok (.iconst 0, 1) := by decide +kernel
theorem ni_dL_law_497 : decode cL_law 497 = .ok (.aload_n 3, 1) := by decide +kernel
theorem ni_dL_law_498 : decode cL_law 498 = .ok (.invokestatic 172, 3) := by decide +kernel
theorem ni_dL_law_501 : decode cL_law 501 = .ok (.istore 6, 2) := by decide +kernel
theorem ni_dL_law_503 : decode cL_law 503 = .ok (.aload_n 2, 1) := by decide +kernel
theorem ni_dL_law_504 : decode cL_law 504 = .ok (.aload_n 0, 1) := by decide +kernel
theorem ni_dL_law_505 : decode cL_law 505 = .ok (.iload 5, 2) := by decide +kernel
theorem ni_dL_law_507 : decode cL_law 507 = .ok (.iconst 1, 1) := by decide +kernel
theorem ni_dL_law_508 : decode cL_law 508 = .ok (.iadd, 1) := by decide +kernel
theorem ni_dL_law_509 : decode cL_law 509 = .ok (.iaload, 1) := by decide +kernel
theorem ni_dL_law_510 : decode cL_law 510 = .ok (.aload_n 0, 1) := by decide +kernel
theorem ni_dL_law_511 : decode cL_law 511 = .ok (.iload 5, 2) := by decide +kernel
theorem ni_dL_law_513 : decode cL_law 513 = .ok (.iconst 2, 1) := by decide +kernel
theorem ni_dL_law_514 : decode cL_law 514 = .ok (.iadd, 1) := by decide +kernel
theorem ni_dL_law_515 : decode cL_law 515 = .ok (.iaload, 1) := by decide +kernel
theorem ni_dL_law_516 : decode cL_law 516 = .ok (.ifCond .eq 7, 3) := by decide +kernel
theorem ni_dL_law_519 : decode cL_law 519 = .ok (.iconst 1, 1) := by decide +kernel
theorem ni_dL_law_520 : decode cL_law 520 = .ok (.goto 4, 3) := by decide +kernel
theorem ni_dL_law_523 : decode cL_law 523 = .ok (.iconst 0, 1) := by decide +kernel
theorem ni_dL_law_524 : decode cL_law 524 = .ok (.invokevirtual 175, 3) := by decide +kernel
theorem ni_dL_law_527 : decode cL_law 527 = .ok (.istore 7, 2) := by decide +kernel
theorem ni_dL_law_529 : decode cL_law 529 = .ok (.aload_n 2, 1) := by decide +kernel
theorem ni_dL_law_530 : decode cL_law 530 = .ok (.invokevirtual 161, 3) := by decide +kernel
theorem ni_dL_law_533 : decode cL_law 533 = .ok (.iload 6, 2) := by decide +kernel
theorem ni_dL_law_535 : decode cL_law 535 = .ok (.if_icmp .eq 5, 3) := by decide +kernel
theorem ni_dL_law_540 : decode cL_law 540 = .ok (.iload 6, 2) := by decide +kernel
theorem ni_dL_law_542 : decode cL_law 542 = .ok (.ifCond .ne 22, 3) := by decide +kernel
theorem ni_dL_law_564 : decode cL_law 564 = .ok (.goto 2753, 3) := by decide +kernel
theorem ni_dL_law_567 : decode cL_law 567 = .ok (.aload_n 1, 1) := by decide +kernel
theorem ni_dL_law_568 : decode cL_law 568 = .ok (.aload_n 0, 1) := by decide +kernel
theorem ni_dL_law_569 : decode cL_law 569 = .ok (.iload 5, 2) := by decide +kernel
theorem ni_dL_law_571 : decode cL_law 571 = .ok (.iconst 1, 1) := by decide +kernel
theorem ni_dL_law_572 : decode cL_law 572 = .ok (.iadd, 1) := by decide +kernel
theorem ni_dL_law_573 : decode cL_law 573 = .ok (.iaload, 1) := by decide +kernel
theorem ni_dL_law_574 : decode cL_law 574 = .ok (.aload_n 0, 1) := by decide +kernel
theorem ni_dL_law_575 : decode cL_law 575 = .ok (.iload 5, 2) := by decide +kernel
theorem ni_dL_law_577 : decode cL_law 577 = .ok (.iconst 2, 1) := by decide +kernel
theorem ni_dL_law_578 : decode cL_law 578 = .ok (.iadd, 1) := by decide +kernel
theorem ni_dL_law_579 : decode cL_law 579 = .ok (.iaload, 1) := by decide +kernel
end
section
theorem ni_dL_law_580 : decode cL_law 580 = .ok (.aload_n 0, 1) := by decide +kernel
theorem ni_dL_law_581 : decode cL_law 581 = .ok (.iload 5, 2) := by decide +kernel
theorem ni_dL_law_583 : decode cL_law 583 = .ok (.iconst 3, 1) := by decide +kernel
theorem ni_dL_law_584 : decode cL_law 584 = .ok (.iadd, 1) := by decide +kernel
theorem ni_dL_law_585 : decode cL_law 585 = .ok (.iaload, 1) := by decide +kernel
theorem ni_dL_law_586 : decode cL_law 586 = .ok (.aload_n 3, 1) := by decide +kernel
theorem ni_dL_law_587 : decode cL_law 587 = .ok (.invokestatic 176, 3) := by decide +kernel
theorem ni_dL_law_590 : decode cL_law 590 = .ok (.istore 6, 2) := by decide +kernel
theorem ni_dL_law_592 : decode cL_law 592 = .ok (.aload_n 2, 1) := by decide +kernel
theorem ni_dL_law_593 : decode cL_law 593 = .ok (.aload_n 0, 1) := by decide +kernel
theorem ni_dL_law_594 : decode cL_law 594 = .ok (.iload 5, 2) := by decide +kernel
theorem ni_dL_law_596 : decode cL_law 596 = .ok (.iconst 1, 1) := by decide +kernel
theorem ni_dL_law_597 : decode cL_law 597 = .ok (.iadd, 1) := by decide +kernel
theorem ni_dL_law_598 : decode cL_law 598 = .ok (.iaload, 1) := by decide +kernel
theorem ni_dL_law_599 : decode cL_law 599 = .ok (.aload_n 0, 1) := by decide +kernel
theorem ni_dL_law_600 : decode cL_law 600 = .ok (.iload 5, 2) := by decide +kernel
theorem ni_dL_law_602 : decode cL_law 602 = .ok (.iconst 2, 1) := by decide +kernel
theorem ni_dL_law_603 : decode cL_law 603 = .ok (.iadd, 1) := by decide +kernel
theorem ni_dL_law_604 : decode cL_law 604 = .ok (.iaload, 1) := by decide +kernel
theorem ni_dL_law_605 : decode cL_law 605 = .ok (.aload_n 0, 1) := by decide +kernel
theorem ni_dL_law_606 : decode cL_law 606 = .ok (.iload 5, 2) := by decide +kernel
theorem ni_dL_law_608 : decode cL_law 608 = .ok (.iconst 3, 1) := by decide +kernel
theorem ni_dL_law_609 : decode cL_law 609 = .ok (.iadd, 1) := by decide +kernel
theorem ni_dL_law_610 : decode cL_law 610 = .ok (.iaload, 1) := by decide +kernel
theorem ni_dL_law_611 : decode cL_law 611 = .ok (.invokevirtual 179, 3) := by decide +kernel
theorem ni_dL_law_614 : decode cL_law 614 = .ok (.istore 7, 2) := by decide +kernel
theorem ni_dL_law_616 : decode cL_law 616 = .ok (.aload_n 2, 1) := by decide +kernel
theorem ni_dL_law_617 : decode cL_law 617 = .ok (.invokevirtual 161, 3) := by decide +kernel
theorem ni_dL_law_620 : decode cL_law 620 = .ok (.iload 6, 2) := by decide +kernel
theorem ni_dL_law_622 : decode cL_law 622 = .ok (.if_icmp .eq 5, 3) := by decide +kernel
theorem ni_dL_law_627 : decode cL_law 627 = .ok (.iload 6, 2) := by decide +kernel
theorem ni_dL_law_629 : decode cL_law 629 = .ok (.ifCond .ne 15, 3) := by decide +kernel
theorem ni_dL_law_644 : decode cL_law 644 = .ok (.goto 2673, 3) := by decide +kernel
theorem ni_dL_law_647 : decode cL_law 647 = .ok (.aload_n 1, 1) := by decide +kernel
theorem ni_dL_law_648 : decode cL_law 648 = .ok (.aload_n 0, 1) := by decide +kernel
theorem ni_dL_law_649 : decode cL_law 649 = .ok (.iload 5, 2) := by decide +kernel
theorem ni_dL_law_651 : decode cL_law 651 = .ok (.iconst 1, 1) := by decide +kernel
theorem ni_dL_law_652 : decode cL_law 652 = .ok (.iadd, 1) := by decide +kernel
theorem ni_dL_law_653 : decode cL_law 653 = .ok (.iaload, 1) := by decide +kernel
theorem ni_dL_law_654 : decode cL_law 654 = .ok (.aload_n 3, 1) := by decide +kernel
theorem ni_dL_law_655 : decode cL_law 655 = .ok (.invokestatic 180, 3) := by decide +kernel
theorem ni_dL_law_658 : decode cL_law 658 = .ok (.istore 6, 2) := by decide +kernel
theorem ni_dL_law_660 : decode cL_law 660 = .ok (.aload_n 2, 1) := by decide +kernel
theorem ni_dL_law_661 : decode cL_law 661 = .ok (.aload_n 0, 1) := by decide +kernel
theorem ni_dL_law_662 : decode cL_law 662 = .ok (.iload 5, 2) := by decide +kernel
theorem ni_dL_law_664 : decode cL_law 664 = .ok (.iconst 1, 1) := by decide +kernel
theorem ni_dL_law_665 : decode cL_law 665 = .ok (.iadd, 1) := by decide +kernel
theorem ni_dL_law_666 : decode cL_law 666 = .ok (.iaload, 1) := by decide +kernel
theorem ni_dL_law_667 : decode cL_law 667 = .ok (.invokevirtual 183, 3) := by decide +kernel
theorem ni_dL_law_670 : decode cL_law 670 = .ok (.istore 7, 2) := by decide +kernel
theorem ni_dL_law_672 : decode cL_law 672 = .ok (.aload_n 2, 1) := by decide +kernel
theorem ni_dL_law_673 : decode cL_law 673 = .ok (.invokevirtual 161, 3) := by decide +kernel
theorem ni_dL_law_676 : decode cL_law 676 = .ok (.iload 6, 2) := by decide +kernel
theorem ni_dL_law_678 : decode cL_law 678 = .ok (.if_icmp .eq 5, 3) := by decide +kernel
theorem ni_dL_law_683 : decode cL_law 683 = .ok (.iload 6, 2) := by decide +kernel
theorem ni_dL_law_685 : decode cL_law 685 = .ok (.ifCond .ne 15, 3) := by decide +kernel
theorem ni_dL_law_700 : decode cL_law 700 = .ok (.goto 2617, 3) := by decide +kernel
theorem ni_dL_law_703 : decode cL_law 703 = .ok (.aload_n 1, 1) := by decide +kernel
theorem ni_dL_law_704 : decode cL_law 704 = .ok (.aload_n 0, 1) := by decide +kernel
theorem ni_dL_law_705 : decode cL_law 705 = .ok (.iload 5, 2) := by decide +kernel
theorem ni_dL_law_707 : decode cL_law 707 = .ok (.iconst 1, 1) := by decide +kernel
theorem ni_dL_law_708 : decode cL_law 708 = .ok (.iadd, 1) := by decide +kernel
theorem ni_dL_law_709 : decode cL_law 709 = .ok (.iaload, 1) := by decide +kernel
theorem ni_dL_law_710 : decode cL_law 710 = .ok (.aload_n 0, 1) := by decide +kernel
theorem ni_dL_law_711 : decode cL_law 711 = .ok (.iload 5, 2) := by decide +kernel
theorem ni_dL_law_713 : decode cL_law 713 = .ok (.iconst 2, 1) := by decide +kernel
theorem ni_dL_law_714 : decode cL_law 714 = .ok (.iadd, 1) := by decide +kernel
theorem ni_dL_law_715 : decode cL_law 715 = .ok (.iaload, 1) := by decide +kernel
theorem ni_dL_law_716 : decode cL_law 716 = .ok (.aload_n 0, 1) := by decide +kernel
theorem ni_dL_law_717 : decode cL_law 717 = .ok (.iload 5, 2) := by decide +kernel
theorem ni_dL_law_719 : decode cL_law 719 = .ok (.iconst 3, 1) := by decide +kernel
theorem ni_dL_law_720 : decode cL_law 720 = .ok (.iadd, 1) := by decide +kernel
theorem ni_dL_law_721 : decode cL_law 721 = .ok (.iaload, 1) := by decide +kernel
theorem ni_dL_law_722 : decode cL_law 722 = .ok (.aload_n 0, 1) := by decide +kernel
theorem ni_dL_law_723 : decode cL_law 723 = .ok (.iload 5, 2) := by decide +kernel
theorem ni_dL_law_725 : decode cL_law 725 = .ok (.iconst 4, 1) := by decide +kernel
theorem ni_dL_law_726 : decode cL_law 726 = .ok (.iadd, 1) := by decide +kernel
theorem ni_dL_law_727 : decode cL_law 727 = .ok (.iaload, 1) := by decide +kernel
theorem ni_dL_law_728 : decode cL_law 728 = .ok (.aload_n 3, 1) := by decide +kernel
theorem ni_dL_law_729 : decode cL_law 729 = .ok (.invokestatic 184, 3) := by decide +kernel
theorem ni_dL_law_732 : decode cL_law 732 = .ok (.istore 6, 2) := by decide +kernel
theorem ni_dL_law_734 : decode cL_law 734 = .ok (.aload_n 2, 1) := by decide +kernel
theorem ni_dL_law_735 : decode cL_law 735 = .ok (.aload_n 0, 1) := by decide +kernel
theorem ni_dL_law_736 : decode cL_law 736 = .ok (.iload 5, 2) := by decide +kernel
theorem ni_dL_law_738 : decode cL_law 738 = .ok (.iconst 1, 1) := by decide +kernel
theorem ni_dL_law_739 : decode cL_law 739 = .ok (.iadd, 1) := by decide +kernel
theorem ni_dL_law_740 : decode cL_law 740 = .ok (.iaload, 1) := by decide +kernel
theorem ni_dL_law_741 : decode cL_law 741 = .ok (.aload_n 0, 1) := by decide +kernel
theorem ni_dL_law_742 : decode cL_law 742 = .ok (.iload 5, 2) := by decide +kernel
theorem ni_dL_law_744 : decode cL_law 744 = .ok (.iconst 2, 1) := by decide +kernel
theorem ni_dL_law_745 : decode cL_law 745 = .ok (.iadd, 1) := by decide +kernel
theorem ni_dL_law_746 : decode cL_law 746 = .ok (.iaload, 1) := by decide +kernel
theorem ni_dL_law_747 : decode cL_law 747 = .ok (.aload_n 0, 1) := by decide +kernel
theorem ni_dL_law_748 : decode cL_law 748 = .ok (.iload 5, 2) := by decide +kernel
theorem ni_dL_law_750 : decode cL_law 750 = .ok (.iconst 3, 1) := by decide +kernel
theorem ni_dL_law_751 : decode cL_law 751 = .ok (.iadd, 1) := by decide +kernel
theorem ni_dL_law_752 : decode cL_law 752 = .ok (.iaload, 1) := by decide +kernel
theorem ni_dL_law_753 : decode cL_law 753 = .ok (.aload_n 0, 1) := by decide +kernel
theorem ni_dL_law_754 : decode cL_law 754 = .ok (.iload 5, 2) := by decide +kernel
theorem ni_dL_law_756 : decode cL_law 756 = .ok (.iconst 4, 1) := by decide +kernel
theorem ni_dL_law_757 : decode cL_law 757 = .ok (.iadd, 1) := by decide +kernel
theorem ni_dL_law_758 : decode cL_law 758 = .ok (.iaload, 1) := by decide +kernel
theorem ni_dL_law_759 : decode cL_law 759 = .ok (.invokevirtual 187, 3) := by decide +kernel
theorem ni_dL_law_762 : decode cL_law 762 = .ok (.istore 7, 2) := by decide +kernel
theorem ni_dL_law_764 : decode cL_law 764 = .ok (.aload_n 2, 1) := by decide +kernel
theorem ni_dL_law_765 : decode cL_law 765 = .ok (.invokevirtual 161, 3) := by decide +kernel
theorem ni_dL_law_768 : decode cL_law 768 = .ok (.iload 6, 2) := by decide +kernel
theorem ni_dL_law_770 : decode cL_law 770 = .ok (.if_icmp .eq 5, 3) := by decide +kernel
theorem ni_dL_law_775 : decode cL_law 775 = .ok (.iload 6, 2) := by decide +kernel
theorem ni_dL_law_777 : decode cL_law 777 = .ok (.ifCond .ne 15, 3) := by decide +kernel
theorem ni_dL_law_792 : decode cL_law 792 = .ok (.goto 2525, 3) := by decide +kernel
theorem ni_dL_law_795 : decode cL_law 795 = .ok (.aload_n 1, 1) := by decide +kernel
theorem ni_dL_law_796 : decode cL_law 796 = .ok (.aload_n 0, 1) := by decide +kernel
theorem ni_dL_law_797 : decode cL_law 797 = .ok (.iload 5, 2) := by decide +kernel
theorem ni_dL_law_799 : decode cL_law 799 = .ok (.iconst 1, 1) := by decide +kernel
theorem ni_dL_law_800 : decode cL_law 800 = .ok (.iadd, 1) := by decide +kernel
theorem ni_dL_law_801 : decode cL_law 801 = .ok (.iaload, 1) := by decide +kernel
theorem ni_dL_law_802 : decode cL_law 802 = .ok (.aload_n 3, 1) := by decide +kernel
theorem ni_dL_law_803 : decode cL_law 803 = .ok (.invokestatic 188, 3) := by decide +kernel
theorem ni_dL_law_806 : decode cL_law 806 = .ok (.istore 6, 2) := by decide +kernel
theorem ni_dL_law_808 : decode cL_law 808 = .ok (.aload_n 2, 1) := by decide +kernel
theorem ni_dL_law_809 : decode cL_law 809 = .ok (.aload_n 0, 1) := by decide +kernel
theorem ni_dL_law_810 : decode cL_law 810 = .ok (.iload 5, 2) := by decide +kernel
theorem ni_dL_law_812 : decode cL_law 812 = .ok (.iconst 1, 1) := by decide +kernel
theorem ni_dL_law_813 : decode cL_law 813 = .ok (.iadd, 1) := by decide +kernel
theorem ni_dL_law_814 : decode cL_law 814 = .ok (.iaload, 1) := by decide +kernel
theorem ni_dL_law_815 : decode cL_law 815 = .ok (.invokevirtual 190, 3) := by decide +kernel
theorem ni_dL_law_818 : decode cL_law 818 = .ok (.istore 7, 2) := by decide +kernel
theorem ni_dL_law_820 : decode cL_law 820 = .ok (.aload_n 2, 1) := by decide +kernel
theorem ni_dL_law_821 : decode cL_law 821 = .ok (.invokevirtual 161, 3) := by decide +kernel
theorem ni_dL_law_824 : decode cL_law 824 = .ok (.iload 6, 2) := by decide +kernel
theorem ni_dL_law_826 : decode cL_law 826 = .ok (.if_icmp .eq 5, 3) := by decide +kernel
theorem ni_dL_law_831 : decode cL_law 831 = .ok (.iload 6, 2) := by decide +kernel
theorem ni_dL_law_833 : decode cL_law 833 = .ok (.ifCond .ne 15, 3) := by decide +kernel
theorem ni_dL_law_848 : decode cL_law 848 = .ok (.goto 2469, 3) := by decide +kernel
theorem ni_dL_law_851 : decode cL_law 851 = .ok (.aload_n 1, 1) := by decide +kernel
theorem ni_dL_law_852 : decode cL_law 852 = .ok (.aload_n 0, 1) := by decide +kernel
theorem ni_dL_law_853 : decode cL_law 853 = .ok (.iload 5, 2) := by decide +kernel
theorem ni_dL_law_855 : decode cL_law 855 = .ok (.iconst 1, 1) := by decide +kernel
theorem ni_dL_law_856 : decode cL_law 856 = .ok (.iadd, 1) := by decide +kernel
theorem ni_dL_law_857 : decode cL_law 857 = .ok (.iaload, 1) := by decide +kernel
theorem ni_dL_law_858 : decode cL_law 858 = .ok (.aload_n 0, 1) := by decide +kernel
theorem ni_dL_law_859 : decode cL_law 859 = .ok (.iload 5, 2) := by decide +kernel
theorem ni_dL_law_861 : decode cL_law 861 = .ok (.iconst 2, 1) := by decide +kernel
theorem ni_dL_law_862 : decode cL_law 862 = .ok (.iadd, 1) := by decide +kernel
theorem ni_dL_law_863 : decode cL_law 863 = .ok (.iaload, 1) := by decide +kernel
theorem ni_dL_law_864 : decode cL_law 864 = .ok (.ifCond .eq 7, 3) := by decide +kernel
theorem ni_dL_law_867 : decode cL_law 867 = .ok (.iconst 1, 1) := by decide +kernel
theorem ni_dL_law_868 : decode cL_law 868 = .ok (.goto 4, 3) := by decide +kernel
theorem ni_dL_law_871 : decode cL_law 871 = .ok (.iconst 0, 1) := by decide +kernel
theorem ni_dL_law_872 : decode cL_law 872 = .ok (.aload_n 0, 1) := by decide +kernel
theorem ni_dL_law_873 : decode cL_law 873 = .ok (.iload 5, 2) := by decide +kernel
theorem ni_dL_law_875 : decode cL_law 875 = .ok (.iconst 3, 1) := by decide +kernel
theorem ni_dL_law_876 : decode cL_law 876 = .ok (.iadd, 1) := by decide +kernel
theorem ni_dL_law_877 : decode cL_law 877 = .ok (.iaload, 1) := by decide +kernel
theorem ni_dL_law_878 : decode cL_law 878 = .ok (.aload_n 0, 1) := by decide +kernel
theorem ni_dL_law_879 : decode cL_law 879 = .ok (.iload 5, 2) := by decide +kernel
theorem ni_dL_law_881 : decode cL_law 881 = .ok (.iconst 4, 1) := by decide +kernel
theorem ni_dL_law_882 : decode cL_law 882 = .ok (.iadd, 1) := by decide +kernel
theorem ni_dL_law_883 : decode cL_law 883 = .ok (.iaload, 1) := by decide +kernel
theorem ni_dL_law_884 : decode cL_law 884 = .ok (.aload_n 0, 1) := by decide +kernel
theorem ni_dL_law_885 : decode cL_law 885 = .ok (.iload 5, 2) := by decide +kernel
theorem ni_dL_law_887 : decode cL_law 887 = .ok (.iconst 5, 1) := by decide +kernel
theorem ni_dL_law_888 : decode cL_law 888 = .ok (.iadd, 1) := by decide +kernel
theorem ni_dL_law_889 : decode cL_law 889 = .ok (.iaload, 1) := by decide +kernel
theorem ni_dL_law_890 : decode cL_law 890 = .ok (.ifCond .eq 7, 3) := by decide +kernel
theorem ni_dL_law_893 : decode cL_law 893 = .ok (.iconst 1, 1) := by decide +kernel
theorem ni_dL_law_894 : decode cL_law 894 = .ok (.goto 4, 3) := by decide +kernel
theorem ni_dL_law_897 : decode cL_law 897 = .ok (.iconst 0, 1) := by decide +kernel
theorem ni_dL_law_898 : decode cL_law 898 = .ok (.aload_n 3, 1) := by decide +kernel
theorem ni_dL_law_899 : decode cL_law 899 = .ok (.invokestatic 191, 3) := by decide +kernel
theorem ni_dL_law_902 : decode cL_law 902 = .ok (.istore 6, 2) := by decide +kernel
theorem ni_dL_law_904 : decode cL_law 904 = .ok (.aload_n 2, 1) := by decide +kernel
theorem ni_dL_law_905 : decode cL_law 905 = .ok (.aload_n 0, 1) := by decide +kernel
theorem ni_dL_law_906 : decode cL_law 906 = .ok (.iload 5, 2) := by decide +kernel
theorem ni_dL_law_908 : decode cL_law 908 = .ok (.iconst 1, 1) := by decide +kernel
theorem ni_dL_law_909 : decode cL_law 909 = .ok (.iadd, 1) := by decide +kernel
theorem ni_dL_law_910 : decode cL_law 910 = .ok (.iaload, 1) := by decide +kernel
theorem ni_dL_law_911 : decode cL_law 911 = .ok (.aload_n 0, 1) := by decide +kernel
theorem ni_dL_law_912 : decode cL_law 912 = .ok (.iload 5, 2) := by decide +kernel
theorem ni_dL_law_914 : decode cL_law 914 = .ok (.iconst 2, 1) := by decide +kernel
theorem ni_dL_law_915 : decode cL_law 915 = .ok (.iadd, 1) := by decide +kernel
theorem ni_dL_law_916 : decode cL_law 916 = .ok (.iaload, 1) := by decide +kernel
theorem ni_dL_law_917 : decode cL_law 917 = .ok (.ifCond .eq 7, 3) := by decide +kernel
theorem ni_dL_law_920 : decode cL_law 920 = .ok (.iconst 1, 1) := by decide +kernel
theorem ni_dL_law_921 : decode cL_law 921 = .ok (.goto 4, 3) := by decide +kernel
theorem ni_dL_law_924 : decode cL_law 924 = .ok (.iconst 0, 1) := by decide +kernel
theorem ni_dL_law_925 : decode cL_law 925 = .ok (.aload_n 0, 1) := by decide +kernel
theorem ni_dL_law_926 : decode cL_law 926 = .ok (.iload 5, 2) := by decide +kernel
theorem ni_dL_law_928 : decode cL_law 928 = .ok (.iconst 3, 1) := by decide +kernel
theorem ni_dL_law_929 : decode cL_law 929 = .ok (.iadd, 1) := by decide +kernel
theorem ni_dL_law_930 : decode cL_law 930 = .ok (.iaload, 1) := by decide +kernel
theorem ni_dL_law_931 : decode cL_law 931 = .ok (.aload_n 0, 1) := by decide +kernel
theorem ni_dL_law_932 : decode cL_law 932 = .ok (.iload 5, 2) := by decide +kernel
theorem ni_dL_law_934 : decode cL_law 934 = .ok (.iconst 4, 1) := by decide +kernel
theorem ni_dL_law_935 : decode cL_law 935 = .ok (.iadd, 1) := by decide +kernel
theorem ni_dL_law_936 : decode cL_law 936 = .ok (.iaload, 1) := by decide +kernel
theorem ni_dL_law_937 : decode cL_law 937 = .ok (.aload_n 0, 1) := by decide +kernel
theorem ni_dL_law_938 : decode cL_law 938 = .ok (.iload 5, 2) := by decide +kernel
theorem ni_dL_law_940 : decode cL_law 940 = .ok (.iconst 5, 1) := by decide +kernel
end
section
theorem ni_dL_law_941 : decode cL_law 941 = .ok (.iadd, 1) := by decide +kernel
theorem ni_dL_law_942 : decode cL_law 942 = .ok (.iaload, 1) := by decide +kernel
theorem ni_dL_law_943 : decode cL_law 943 = .ok (.ifCond .eq 7, 3) := by decide +kernel
theorem ni_dL_law_946 : decode cL_law 946 = .ok (.iconst 1, 1) := by decide +kernel
theorem ni_dL_law_947 : decode cL_law 947 = .ok (.goto 4, 3) := by decide +kernel
theorem ni_dL_law_950 : decode cL_law 950 = .ok (.iconst 0, 1) := by decide +kernel
theorem ni_dL_law_951 : decode cL_law 951 = .ok (.invokevirtual 194, 3) := by decide +kernel
theorem ni_dL_law_954 : decode cL_law 954 = .ok (.istore 7, 2) := by decide +kernel
theorem ni_dL_law_956 : decode cL_law 956 = .ok (.aload_n 2, 1) := by decide +kernel
theorem ni_dL_law_957 : decode cL_law 957 = .ok (.invokevirtual 161, 3) := by decide +kernel
theorem ni_dL_law_960 : decode cL_law 960 = .ok (.iload 6, 2) := by decide +kernel
theorem ni_dL_law_962 : decode cL_law 962 = .ok (.if_icmp .eq 5, 3) := by decide +kernel
theorem ni_dL_law_967 : decode cL_law 967 = .ok (.iload 6, 2) := by decide +kernel
theorem ni_dL_law_969 : decode cL_law 969 = .ok (.ifCond .ne 15, 3) := by decide +kernel
theorem ni_dL_law_984 : decode cL_law 984 = .ok (.goto 2333, 3) := by decide +kernel
theorem ni_dL_law_987 : decode cL_law 987 = .ok (.aload_n 1, 1) := by decide +kernel
theorem ni_dL_law_988 : decode cL_law 988 = .ok (.aload_n 0, 1) := by decide +kernel
theorem ni_dL_law_989 : decode cL_law 989 = .ok (.iload 5, 2) := by decide +kernel
theorem ni_dL_law_991 : decode cL_law 991 = .ok (.iconst 1, 1) := by decide +kernel
theorem ni_dL_law_992 : decode cL_law 992 = .ok (.iadd, 1) := by decide +kernel
theorem ni_dL_law_993 : decode cL_law 993 = .ok (.iaload, 1) := by decide +kernel
theorem ni_dL_law_994 : decode cL_law 994 = .ok (.aload_n 0, 1) := by decide +kernel
theorem ni_dL_law_995 : decode cL_law 995 = .ok (.iload 5, 2) := by decide +kernel
theorem ni_dL_law_997 : decode cL_law 997 = .ok (.iconst 2, 1) := by decide +kernel
theorem ni_dL_law_998 : decode cL_law 998 = .ok (.iadd, 1) := by decide +kernel
theorem ni_dL_law_999 : decode cL_law 999 = .ok (.iaload, 1) := by decide +kernel
theorem ni_dL_law_1000 : decode cL_law 1000 = .ok (.ifCond .eq 7, 3) := by decide +kernel
theorem ni_dL_law_1003 : decode cL_law 1003 = .ok (.iconst 1, 1) := by decide +kernel
theorem ni_dL_law_1004 : decode cL_law 1004 = .ok (.goto 4, 3) := by decide +kernel
theorem ni_dL_law_1007 : decode cL_law 1007 = .ok (.iconst 0, 1) := by decide +kernel
theorem ni_dL_law_1008 : decode cL_law 1008 = .ok (.aload_n 0, 1) := by decide +kernel
theorem ni_dL_law_1009 : decode cL_law 1009 = .ok (.iload 5, 2) := by decide +kernel
theorem ni_dL_law_1011 : decode cL_law 1011 = .ok (.iconst 3, 1) := by decide +kernel
theorem ni_dL_law_1012 : decode cL_law 1012 = .ok (.iadd, 1) := by decide +kernel
theorem ni_dL_law_1013 : decode cL_law 1013 = .ok (.iaload, 1) := by decide +kernel
theorem ni_dL_law_1014 : decode cL_law 1014 = .ok (.aload_n 0, 1) := by decide +kernel
theorem ni_dL_law_1015 : decode cL_law 1015 = .ok (.iload 5, 2) := by decide +kernel
theorem ni_dL_law_1017 : decode cL_law 1017 = .ok (.iconst 4, 1) := by decide +kernel
theorem ni_dL_law_1018 : decode cL_law 1018 = .ok (.iadd, 1) := by decide +kernel
theorem ni_dL_law_1019 : decode cL_law 1019 = .ok (.iaload, 1) := by decide +kernel
theorem ni_dL_law_1020 : decode cL_law 1020 = .ok (.aload_n 3, 1) := by decide +kernel
theorem ni_dL_law_1021 : decode cL_law 1021 = .ok (.invokestatic 195, 3) := by decide +kernel
theorem ni_dL_law_1024 : decode cL_law 1024 = .ok (.istore 6, 2) := by decide +kernel
theorem ni_dL_law_1026 : decode cL_law 1026 = .ok (.aload_n 2, 1) := by decide +kernel
theorem ni_dL_law_1027 : decode cL_law 1027 = .ok (.aload_n 0, 1) := by decide +kernel
theorem ni_dL_law_1028 : decode cL_law 1028 = .ok (.iload 5, 2) := by decide +kernel
theorem ni_dL_law_1030 : decode cL_law 1030 = .ok (.iconst 1, 1) := by decide +kernel
theorem ni_dL_law_1031 : decode cL_law 1031 = .ok (.iadd, 1) := by decide +kernel
theorem ni_dL_law_1032 : decode cL_law 1032 = .ok (.iaload, 1) := by decide +kernel
theorem ni_dL_law_1033 : decode cL_law 1033 = .ok (.aload_n 0, 1) := by decide +kernel
theorem ni_dL_law_1034 : decode cL_law 1034 = .ok (.iload 5, 2) := by decide +kernel
theorem ni_dL_law_1036 : decode cL_law 1036 = .ok (.iconst 2, 1) := by decide +kernel
theorem ni_dL_law_1037 : decode cL_law 1037 = .ok (.iadd, 1) := by decide +kernel
theorem ni_dL_law_1038 : decode cL_law 1038 = .ok (.iaload, 1) := by decide +kernel
theorem ni_dL_law_1039 : decode cL_law 1039 = .ok (.ifCond .eq 7, 3) := by decide +kernel
theorem ni_dL_law_1042 : decode cL_law 1042 = .ok (.iconst 1, 1) := by decide +kernel
theorem ni_dL_law_1043 : decode cL_law 1043 = .ok (.goto 4, 3) := by decide +kernel
theorem ni_dL_law_1046 : decode cL_law 1046 = .ok (.iconst 0, 1) := by decide +kernel
theorem ni_dL_law_1047 : decode cL_law 1047 = .ok (.aload_n 0, 1) := by decide +kernel
theorem ni_dL_law_1048 : decode cL_law 1048 = .ok (.iload 5, 2) := by decide +kernel
theorem ni_dL_law_1050 : decode cL_law 1050 = .ok (.iconst 3, 1) := by decide +kernel
theorem ni_dL_law_1051 : decode cL_law 1051 = .ok (.iadd, 1) := by decide +kernel
theorem ni_dL_law_1052 : decode cL_law 1052 = .ok (.iaload, 1) := by decide +kernel
theorem ni_dL_law_1053 : decode cL_law 1053 = .ok (.aload_n 0, 1) := by decide +kernel
theorem ni_dL_law_1054 : decode cL_law 1054 = .ok (.iload 5, 2) := by decide +kernel
theorem ni_dL_law_1056 : decode cL_law 1056 = .ok (.iconst 4, 1) := by decide +kernel
theorem ni_dL_law_1057 : decode cL_law 1057 = .ok (.iadd, 1) := by decide +kernel
theorem ni_dL_law_1058 : decode cL_law 1058 = .ok (.iaload, 1) := by decide +kernel
theorem ni_dL_law_1059 : decode cL_law 1059 = .ok (.invokevirtual 198, 3) := by decide +kernel
theorem ni_dL_law_1062 : decode cL_law 1062 = .ok (.istore 7, 2) := by decide +kernel
theorem ni_dL_law_1064 : decode cL_law 1064 = .ok (.aload_n 2, 1) := by decide +kernel
theorem ni_dL_law_1065 : decode cL_law 1065 = .ok (.invokevirtual 161, 3) := by decide +kernel
theorem ni_dL_law_1068 : decode cL_law 1068 = .ok (.iload 6, 2) := by decide +kernel
theorem ni_dL_law_1070 : decode cL_law 1070 = .ok (.if_icmp .eq 5, 3) := by decide +kernel
theorem ni_dL_law_1075 : decode cL_law 1075 = .ok (.iload 6, 2) := by decide +kernel
theorem ni_dL_law_1077 : decode cL_law 1077 = .ok (.ifCond .ne 15, 3) := by decide +kernel
theorem ni_dL_law_1092 : decode cL_law 1092 = .ok (.goto 2225, 3) := by decide +kernel
theorem ni_dL_law_1095 : decode cL_law 1095 = .ok (.aload_n 1, 1) := by decide +kernel
theorem ni_dL_law_1096 : decode cL_law 1096 = .ok (.aload_n 0, 1) := by decide +kernel
theorem ni_dL_law_1097 : decode cL_law 1097 = .ok (.iload 5, 2) := by decide +kernel
theorem ni_dL_law_1099 : decode cL_law 1099 = .ok (.iconst 1, 1) := by decide +kernel
theorem ni_dL_law_1100 : decode cL_law 1100 = .ok (.iadd, 1) := by decide +kernel
theorem ni_dL_law_1101 : decode cL_law 1101 = .ok (.iaload, 1) := by decide +kernel
theorem ni_dL_law_1102 : decode cL_law 1102 = .ok (.aload_n 0, 1) := by decide +kernel
theorem ni_dL_law_1103 : decode cL_law 1103 = .ok (.iload 5, 2) := by decide +kernel
theorem ni_dL_law_1105 : decode cL_law 1105 = .ok (.iconst 2, 1) := by decide +kernel
theorem ni_dL_law_1106 : decode cL_law 1106 = .ok (.iadd, 1) := by decide +kernel
theorem ni_dL_law_1107 : decode cL_law 1107 = .ok (.iaload, 1) := by decide +kernel
theorem ni_dL_law_1108 : decode cL_law 1108 = .ok (.aload_n 0, 1) := by decide +kernel
theorem ni_dL_law_1109 : decode cL_law 1109 = .ok (.iload 5, 2) := by decide +kernel
theorem ni_dL_law_1111 : decode cL_law 1111 = .ok (.iconst 3, 1) := by decide +kernel
theorem ni_dL_law_1112 : decode cL_law 1112 = .ok (.iadd, 1) := by decide +kernel
theorem ni_dL_law_1113 : decode cL_law 1113 = .ok (.iaload, 1) := by decide +kernel
theorem ni_dL_law_1114 : decode cL_law 1114 = .ok (.aload_n 0, 1) := by decide +kernel
theorem ni_dL_law_1115 : decode cL_law 1115 = .ok (.iload 5, 2) := by decide +kernel
theorem ni_dL_law_1117 : decode cL_law 1117 = .ok (.iconst 4, 1) := by decide +kernel
theorem ni_dL_law_1118 : decode cL_law 1118 = .ok (.iadd, 1) := by decide +kernel
theorem ni_dL_law_1119 : decode cL_law 1119 = .ok (.iaload, 1) := by decide +kernel
theorem ni_dL_law_1120 : decode cL_law 1120 = .ok (.aload_n 3, 1) := by decide +kernel
theorem ni_dL_law_1121 : decode cL_law 1121 = .ok (.invokestatic 199, 3) := by decide +kernel
theorem ni_dL_law_1124 : decode cL_law 1124 = .ok (.istore 6, 2) := by decide +kernel
theorem ni_dL_law_1126 : decode cL_law 1126 = .ok (.aload_n 2, 1) := by decide +kernel
theorem ni_dL_law_1127 : decode cL_law 1127 = .ok (.aload_n 0, 1) := by decide +kernel
theorem ni_dL_law_1128 : decode cL_law 1128 = .ok (.iload 5, 2) := by decide +kernel
theorem ni_dL_law_1130 : decode cL_law 1130 = .ok (.iconst 1, 1) := by decide +kernel
theorem ni_dL_law_1131 : decode cL_law 1131 = .ok (.iadd, 1) := by decide +kernel
theorem ni_dL_law_1132 : decode cL_law 1132 = .ok (.iaload, 1) := by decide +kernel
theorem ni_dL_law_1133 : decode cL_law 1133 = .ok (.aload_n 0, 1) := by decide +kernel
theorem ni_dL_law_1134 : decode cL_law 1134 = .ok (.iload 5, 2) := by decide +kernel
theorem ni_dL_law_1136 : decode cL_law 1136 = .ok (.iconst 2, 1) := by decide +kernel
theorem ni_dL_law_1137 : decode cL_law 1137 = .ok (.iadd, 1) := by decide +kernel
theorem ni_dL_law_1138 : decode cL_law 1138 = .ok (.iaload, 1) := by decide +kernel
theorem ni_dL_law_1139 : decode cL_law 1139 = .ok (.aload_n 0, 1) := by decide +kernel
theorem ni_dL_law_1140 : decode cL_law 1140 = .ok (.iload 5, 2) := by decide +kernel
theorem ni_dL_law_1142 : decode cL_law 1142 = .ok (.iconst 3, 1) := by decide +kernel
theorem ni_dL_law_1143 : decode cL_law 1143 = .ok (.iadd, 1) := by decide +kernel
theorem ni_dL_law_1144 : decode cL_law 1144 = .ok (.iaload, 1) := by decide +kernel
theorem ni_dL_law_1145 : decode cL_law 1145 = .ok (.aload_n 0, 1) := by decide +kernel
theorem ni_dL_law_1146 : decode cL_law 1146 = .ok (.iload 5, 2) := by decide +kernel
theorem ni_dL_law_1148 : decode cL_law 1148 = .ok (.iconst 4, 1) := by decide +kernel
theorem ni_dL_law_1149 : decode cL_law 1149 = .ok (.iadd, 1) := by decide +kernel
theorem ni_dL_law_1150 : decode cL_law 1150 = .ok (.iaload, 1) := by decide +kernel
theorem ni_dL_law_1151 : decode cL_law 1151 = .ok (.invokevirtual 201, 3) := by decide +kernel
theorem ni_dL_law_1154 : decode cL_law 1154 = .ok (.istore 7, 2) := by decide +kernel
theorem ni_dL_law_1156 : decode cL_law 1156 = .ok (.aload_n 2, 1) := by decide +kernel
theorem ni_dL_law_1157 : decode cL_law 1157 = .ok (.invokevirtual 161, 3) := by decide +kernel
theorem ni_dL_law_1160 : decode cL_law 1160 = .ok (.iload 6, 2) := by decide +kernel
theorem ni_dL_law_1162 : decode cL_law 1162 = .ok (.if_icmp .eq 5, 3) := by decide +kernel
theorem ni_dL_law_1167 : decode cL_law 1167 = .ok (.iload 6, 2) := by decide +kernel
theorem ni_dL_law_1169 : decode cL_law 1169 = .ok (.ifCond .ne 15, 3) := by decide +kernel
theorem ni_dL_law_1184 : decode cL_law 1184 = .ok (.goto 2133, 3) := by decide +kernel
theorem ni_dL_law_1187 : decode cL_law 1187 = .ok (.aload_n 1, 1) := by decide +kernel
theorem ni_dL_law_1188 : decode cL_law 1188 = .ok (.aload_n 0, 1) := by decide +kernel
theorem ni_dL_law_1189 : decode cL_law 1189 = .ok (.iload 5, 2) := by decide +kernel
theorem ni_dL_law_1191 : decode cL_law 1191 = .ok (.iconst 1, 1) := by decide +kernel
theorem ni_dL_law_1192 : decode cL_law 1192 = .ok (.iadd, 1) := by decide +kernel
theorem ni_dL_law_1193 : decode cL_law 1193 = .ok (.iaload, 1) := by decide +kernel
theorem ni_dL_law_1194 : decode cL_law 1194 = .ok (.aload_n 0, 1) := by decide +kernel
theorem ni_dL_law_1195 : decode cL_law 1195 = .ok (.iload 5, 2) := by decide +kernel
theorem ni_dL_law_1197 : decode cL_law 1197 = .ok (.iconst 2, 1) := by decide +kernel
theorem ni_dL_law_1198 : decode cL_law 1198 = .ok (.iadd, 1) := by decide +kernel
theorem ni_dL_law_1199 : decode cL_law 1199 = .ok (.iaload, 1) := by decide +kernel
theorem ni_dL_law_1200 : decode cL_law 1200 = .ok (.aload_n 0, 1) := by decide +kernel
theorem ni_dL_law_1201 : decode cL_law 1201 = .ok (.iload 5, 2) := by decide +kernel
theorem ni_dL_law_1203 : decode cL_law 1203 = .ok (.iconst 3, 1) := by decide +kernel
theorem ni_dL_law_1204 : decode cL_law 1204 = .ok (.iadd, 1) := by decide +kernel
theorem ni_dL_law_1205 : decode cL_law 1205 = .ok (.iaload, 1) := by decide +kernel
theorem ni_dL_law_1206 : decode cL_law 1206 = .ok (.aload_n 0, 1) := by decide +kernel
theorem ni_dL_law_1207 : decode cL_law 1207 = .ok (.iload 5, 2) := by decide +kernel
theorem ni_dL_law_1209 : decode cL_law 1209 = .ok (.iconst 4, 1) := by decide +kernel
theorem ni_dL_law_1210 : decode cL_law 1210 = .ok (.iadd, 1) := by decide +kernel
theorem ni_dL_law_1211 : decode cL_law 1211 = .ok (.iaload, 1) := by decide +kernel
theorem ni_dL_law_1212 : decode cL_law 1212 = .ok (.aload_n 3, 1) := by decide +kernel
theorem ni_dL_law_1213 : decode cL_law 1213 = .ok (.invokestatic 202, 3) := by decide +kernel
theorem ni_dL_law_1216 : decode cL_law 1216 = .ok (.istore 6, 2) := by decide +kernel
theorem ni_dL_law_1218 : decode cL_law 1218 = .ok (.aload_n 2, 1) := by decide +kernel
theorem ni_dL_law_1219 : decode cL_law 1219 = .ok (.aload_n 0, 1) := by decide +kernel
theorem ni_dL_law_1220 : decode cL_law 1220 = .ok (.iload 5, 2) := by decide +kernel
theorem ni_dL_law_1222 : decode cL_law 1222 = .ok (.iconst 1, 1) := by decide +kernel
theorem ni_dL_law_1223 : decode cL_law 1223 = .ok (.iadd, 1) := by decide +kernel
theorem ni_dL_law_1224 : decode cL_law 1224 = .ok (.iaload, 1) := by decide +kernel
theorem ni_dL_law_1225 : decode cL_law 1225 = .ok (.aload_n 0, 1) := by decide +kernel
theorem ni_dL_law_1226 : decode cL_law 1226 = .ok (.iload 5, 2) := by decide +kernel
theorem ni_dL_law_1228 : decode cL_law 1228 = .ok (.iconst 2, 1) := by decide +kernel
theorem ni_dL_law_1229 : decode cL_law 1229 = .ok (.iadd, 1) := by decide +kernel
theorem ni_dL_law_1230 : decode cL_law 1230 = .ok (.iaload, 1) := by decide +kernel
theorem ni_dL_law_1231 : decode cL_law 1231 = .ok (.aload_n 0, 1) := by decide +kernel
theorem ni_dL_law_1232 : decode cL_law 1232 = .ok (.iload 5, 2) := by decide +kernel
theorem ni_dL_law_1234 : decode cL_law 1234 = .ok (.iconst 3, 1) := by decide +kernel
theorem ni_dL_law_1235 : decode cL_law 1235 = .ok (.iadd, 1) := by decide +kernel
theorem ni_dL_law_1236 : decode cL_law 1236 = .ok (.iaload, 1) := by decide +kernel
theorem ni_dL_law_1237 : decode cL_law 1237 = .ok (.aload_n 0, 1) := by decide +kernel
theorem ni_dL_law_1238 : decode cL_law 1238 = .ok (.iload 5, 2) := by decide +kernel
theorem ni_dL_law_1240 : decode cL_law 1240 = .ok (.iconst 4, 1) := by decide +kernel
theorem ni_dL_law_1241 : decode cL_law 1241 = .ok (.iadd, 1) := by decide +kernel
theorem ni_dL_law_1242 : decode cL_law 1242 = .ok (.iaload, 1) := by decide +kernel
theorem ni_dL_law_1243 : decode cL_law 1243 = .ok (.invokevirtual 204, 3) := by decide +kernel
theorem ni_dL_law_1246 : decode cL_law 1246 = .ok (.istore 7, 2) := by decide +kernel
theorem ni_dL_law_1248 : decode cL_law 1248 = .ok (.aload_n 2, 1) := by decide +kernel
theorem ni_dL_law_1249 : decode cL_law 1249 = .ok (.invokevirtual 161, 3) := by decide +kernel
theorem ni_dL_law_1252 : decode cL_law 1252 = .ok (.iload 6, 2) := by decide +kernel
theorem ni_dL_law_1254 : decode cL_law 1254 = .ok (.if_icmp .eq 5, 3) := by decide +kernel
theorem ni_dL_law_1259 : decode cL_law 1259 = .ok (.iload 6, 2) := by decide +kernel
theorem ni_dL_law_1261 : decode cL_law 1261 = .ok (.ifCond .ne 15, 3) := by decide +kernel
theorem ni_dL_law_1276 : decode cL_law 1276 = .ok (.goto 2041, 3) := by decide +kernel
theorem ni_dL_law_1279 : decode cL_law 1279 = .ok (.aload_n 1, 1) := by decide +kernel
theorem ni_dL_law_1280 : decode cL_law 1280 = .ok (.aload_n 0, 1) := by decide +kernel
theorem ni_dL_law_1281 : decode cL_law 1281 = .ok (.iload 5, 2) := by decide +kernel
theorem ni_dL_law_1283 : decode cL_law 1283 = .ok (.iconst 1, 1) := by decide +kernel
theorem ni_dL_law_1284 : decode cL_law 1284 = .ok (.iadd, 1) := by decide +kernel
theorem ni_dL_law_1285 : decode cL_law 1285 = .ok (.iaload, 1) := by decide +kernel
theorem ni_dL_law_1286 : decode cL_law 1286 = .ok (.aload_n 0, 1) := by decide +kernel
theorem ni_dL_law_1287 : decode cL_law 1287 = .ok (.iload 5, 2) := by decide +kernel
theorem ni_dL_law_1289 : decode cL_law 1289 = .ok (.iconst 2, 1) := by decide +kernel
theorem ni_dL_law_1290 : decode cL_law 1290 = .ok (.iadd, 1) := by decide +kernel
theorem ni_dL_law_1291 : decode cL_law 1291 = .ok (.iaload, 1) := by decide +kernel
theorem ni_dL_law_1292 : decode cL_law 1292 = .ok (.aload_n 0, 1) := by decide +kernel
theorem ni_dL_law_1293 : decode cL_law 1293 = .ok (.iload 5, 2) := by decide +kernel
theorem ni_dL_law_1295 : decode cL_law 1295 = .ok (.iconst 3, 1) := by decide +kernel
theorem ni_dL_law_1296 : decode cL_law 1296 = .ok (.iadd, 1) := by decide +kernel
end
section
theorem ni_dL_law_1297 : decode cL_law 1297 = .ok (.iaload, 1) := by decide +kernel
theorem ni_dL_law_1298 : decode cL_law 1298 = .ok (.aload_n 3, 1) := by decide +kernel
theorem ni_dL_law_1299 : decode cL_law 1299 = .ok (.invokestatic 205, 3) := by decide +kernel
theorem ni_dL_law_1302 : decode cL_law 1302 = .ok (.istore 6, 2) := by decide +kernel
theorem ni_dL_law_1304 : decode cL_law 1304 = .ok (.aload_n 2, 1) := by decide +kernel
theorem ni_dL_law_1305 : decode cL_law 1305 = .ok (.aload_n 0, 1) := by decide +kernel
theorem ni_dL_law_1306 : decode cL_law 1306 = .ok (.iload 5, 2) := by decide +kernel
theorem ni_dL_law_1308 : decode cL_law 1308 = .ok (.iconst 1, 1) := by decide +kernel
theorem ni_dL_law_1309 : decode cL_law 1309 = .ok (.iadd, 1) := by decide +kernel
theorem ni_dL_law_1310 : decode cL_law 1310 = .ok (.iaload, 1) := by decide +kernel
theorem ni_dL_law_1311 : decode cL_law 1311 = .ok (.aload_n 0, 1) := by decide +kernel
theorem ni_dL_law_1312 : decode cL_law 1312 = .ok (.iload 5, 2) := by decide +kernel
theorem ni_dL_law_1314 : decode cL_law 1314 = .ok (.iconst 2, 1) := by decide +kernel
theorem ni_dL_law_1315 : decode cL_law 1315 = .ok (.iadd, 1) := by decide +kernel
theorem ni_dL_law_1316 : decode cL_law 1316 = .ok (.iaload, 1) := by decide +kernel
theorem ni_dL_law_1317 : decode cL_law 1317 = .ok (.aload_n 0, 1) := by decide +kernel
theorem ni_dL_law_1318 : decode cL_law 1318 = .ok (.iload 5, 2) := by decide +kernel
theorem ni_dL_law_1320 : decode cL_law 1320 = .ok (.iconst 3, 1) := by decide +kernel
theorem ni_dL_law_1321 : decode cL_law 1321 = .ok (.iadd, 1) := by decide +kernel
theorem ni_dL_law_1322 : decode cL_law 1322 = .ok (.iaload, 1) := by decide +kernel
theorem ni_dL_law_1323 : decode cL_law 1323 = .ok (.invokevirtual 207, 3) := by decide +kernel
theorem ni_dL_law_1326 : decode cL_law 1326 = .ok (.istore 7, 2) := by decide +kernel
theorem ni_dL_law_1328 : decode cL_law 1328 = .ok (.aload_n 2, 1) := by decide +kernel
theorem ni_dL_law_1329 : decode cL_law 1329 = .ok (.invokevirtual 161, 3) := by decide +kernel
theorem ni_dL_law_1332 : decode cL_law 1332 = .ok (.iload 6, 2) := by decide +kernel
theorem ni_dL_law_1334 : decode cL_law 1334 = .ok (.if_icmp .eq 5, 3) := by decide +kernel
theorem ni_dL_law_1339 : decode cL_law 1339 = .ok (.iload 6, 2) := by decide +kernel
theorem ni_dL_law_1341 : decode cL_law 1341 = .ok (.ifCond .ne 15, 3) := by decide +kernel
theorem ni_dL_law_1356 : decode cL_law 1356 = .ok (.goto 1961, 3) := by decide +kernel
theorem ni_dL_law_1359 : decode cL_law 1359 = .ok (.aload_n 1, 1) := by decide +kernel
theorem ni_dL_law_1360 : decode cL_law 1360 = .ok (.aload_n 0, 1) := by decide +kernel
theorem ni_dL_law_1361 : decode cL_law 1361 = .ok (.iload 5, 2) := by decide +kernel
theorem ni_dL_law_1363 : decode cL_law 1363 = .ok (.iconst 1, 1) := by decide +kernel
theorem ni_dL_law_1364 : decode cL_law 1364 = .ok (.iadd, 1) := by decide +kernel
theorem ni_dL_law_1365 : decode cL_law 1365 = .ok (.iaload, 1) := by decide +kernel
theorem ni_dL_law_1366 : decode cL_law 1366 = .ok (.aload_n 3, 1) := by decide +kernel
theorem ni_dL_law_1367 : decode cL_law 1367 = .ok (.invokestatic 208, 3) := by decide +kernel
theorem ni_dL_law_1370 : decode cL_law 1370 = .ok (.istore 6, 2) := by decide +kernel
theorem ni_dL_law_1372 : decode cL_law 1372 = .ok (.aload_n 2, 1) := by decide +kernel
theorem ni_dL_law_1373 : decode cL_law 1373 = .ok (.aload_n 0, 1) := by decide +kernel
theorem ni_dL_law_1374 : decode cL_law 1374 = .ok (.iload 5, 2) := by decide +kernel
theorem ni_dL_law_1376 : decode cL_law 1376 = .ok (.iconst 1, 1) := by decide +kernel
theorem ni_dL_law_1377 : decode cL_law 1377 = .ok (.iadd, 1) := by decide +kernel
theorem ni_dL_law_1378 : decode cL_law 1378 = .ok (.iaload, 1) := by decide +kernel
theorem ni_dL_law_1379 : decode cL_law 1379 = .ok (.invokevirtual 210, 3) := by decide +kernel
theorem ni_dL_law_1382 : decode cL_law 1382 = .ok (.istore 7, 2) := by decide +kernel
theorem ni_dL_law_1384 : decode cL_law 1384 = .ok (.aload_n 2, 1) := by decide +kernel
theorem ni_dL_law_1385 : decode cL_law 1385 = .ok (.invokevirtual 161, 3) := by decide +kernel
theorem ni_dL_law_1388 : decode cL_law 1388 = .ok (.iload 6, 2) := by decide +kernel
theorem ni_dL_law_1390 : decode cL_law 1390 = .ok (.if_icmp .eq 5, 3) := by decide +kernel
theorem ni_dL_law_1395 : decode cL_law 1395 = .ok (.iload 6, 2) := by decide +kernel
theorem ni_dL_law_1397 : decode cL_law 1397 = .ok (.ifCond .ne 15, 3) := by decide +kernel
theorem ni_dL_law_1400 : decode cL_law 1400 = .ok (.aload_n 3, 1) := by decide +kernel
theorem ni_dL_law_1401 : decode cL_law 1401 = .ok (.iconst 0, 1) := by decide +kernel
theorem ni_dL_law_1402 : decode cL_law 1402 = .ok (.laload, 1) := by decide +kernel
theorem ni_dL_law_1403 : decode cL_law 1403 = .ok (.iload 7, 2) := by decide +kernel
theorem ni_dL_law_1405 : decode cL_law 1405 = .ok (.i2l, 1) := by decide +kernel
theorem ni_dL_law_1406 : decode cL_law 1406 = .ok (.lcmp, 1) := by decide +kernel
theorem ni_dL_law_1407 : decode cL_law 1407 = .ok (.ifCond .eq 5, 3) := by decide +kernel
theorem ni_dL_law_1412 : decode cL_law 1412 = .ok (.goto 1905, 3) := by decide +kernel
theorem ni_dL_law_1415 : decode cL_law 1415 = .ok (.aload_n 1, 1) := by decide +kernel
theorem ni_dL_law_1416 : decode cL_law 1416 = .ok (.invokevirtual 211, 3) := by decide +kernel
theorem ni_dL_law_1419 : decode cL_law 1419 = .ok (.aload_n 2, 1) := by decide +kernel
theorem ni_dL_law_1420 : decode cL_law 1420 = .ok (.invokevirtual 214, 3) := by decide +kernel
theorem ni_dL_law_1423 : decode cL_law 1423 = .ok (.if_icmp .eq 1894, 3) := by decide +kernel
theorem ni_dL_law_1428 : decode cL_law 1428 = .ok (.aload_n 1, 1) := by decide +kernel
theorem ni_dL_law_1429 : decode cL_law 1429 = .ok (.invokevirtual 215, 3) := by decide +kernel
theorem ni_dL_law_1432 : decode cL_law 1432 = .ok (.aload_n 2, 1) := by decide +kernel
theorem ni_dL_law_1433 : decode cL_law 1433 = .ok (.invokevirtual 218, 3) := by decide +kernel
theorem ni_dL_law_1436 : decode cL_law 1436 = .ok (.if_icmp .eq 1881, 3) := by decide +kernel
theorem ni_dL_law_1441 : decode cL_law 1441 = .ok (.aload_n 1, 1) := by decide +kernel
theorem ni_dL_law_1442 : decode cL_law 1442 = .ok (.invokevirtual 219, 3) := by decide +kernel
theorem ni_dL_law_1445 : decode cL_law 1445 = .ok (.aload_n 2, 1) := by decide +kernel
theorem ni_dL_law_1446 : decode cL_law 1446 = .ok (.invokevirtual 222, 3) := by decide +kernel
theorem ni_dL_law_1449 : decode cL_law 1449 = .ok (.if_icmp .eq 1868, 3) := by decide +kernel
theorem ni_dL_law_1454 : decode cL_law 1454 = .ok (.aload_n 1, 1) := by decide +kernel
theorem ni_dL_law_1455 : decode cL_law 1455 = .ok (.invokevirtual 223, 3) := by decide +kernel
theorem ni_dL_law_1458 : decode cL_law 1458 = .ok (.aload_n 2, 1) := by decide +kernel
theorem ni_dL_law_1459 : decode cL_law 1459 = .ok (.invokevirtual 226, 3) := by decide +kernel
theorem ni_dL_law_1462 : decode cL_law 1462 = .ok (.if_icmp .eq 1855, 3) := by decide +kernel
theorem ni_dL_law_1467 : decode cL_law 1467 = .ok (.aload_n 1, 1) := by decide +kernel
theorem ni_dL_law_1468 : decode cL_law 1468 = .ok (.invokevirtual 227, 3) := by decide +kernel
theorem ni_dL_law_1471 : decode cL_law 1471 = .ok (.aload_n 2, 1) := by decide +kernel
theorem ni_dL_law_1472 : decode cL_law 1472 = .ok (.invokevirtual 230, 3) := by decide +kernel
theorem ni_dL_law_1475 : decode cL_law 1475 = .ok (.if_icmp .eq 1842, 3) := by decide +kernel
theorem ni_dL_law_1480 : decode cL_law 1480 = .ok (.aload_n 1, 1) := by decide +kernel
theorem ni_dL_law_1481 : decode cL_law 1481 = .ok (.invokevirtual 231, 3) := by decide +kernel
theorem ni_dL_law_1484 : decode cL_law 1484 = .ok (.aload_n 2, 1) := by decide +kernel
theorem ni_dL_law_1485 : decode cL_law 1485 = .ok (.invokevirtual 234, 3) := by decide +kernel
theorem ni_dL_law_1488 : decode cL_law 1488 = .ok (.if_icmp .eq 1829, 3) := by decide +kernel
theorem ni_dL_law_1493 : decode cL_law 1493 = .ok (.aload_n 1, 1) := by decide +kernel
theorem ni_dL_law_1494 : decode cL_law 1494 = .ok (.aload_n 0, 1) := by decide +kernel
theorem ni_dL_law_1495 : decode cL_law 1495 = .ok (.iload 5, 2) := by decide +kernel
theorem ni_dL_law_1497 : decode cL_law 1497 = .ok (.iconst 1, 1) := by decide +kernel
theorem ni_dL_law_1498 : decode cL_law 1498 = .ok (.iadd, 1) := by decide +kernel
theorem ni_dL_law_1499 : decode cL_law 1499 = .ok (.iaload, 1) := by decide +kernel
theorem ni_dL_law_1500 : decode cL_law 1500 = .ok (.aload_n 3, 1) := by decide +kernel
theorem ni_dL_law_1501 : decode cL_law 1501 = .ok (.invokestatic 235, 3) := by decide +kernel
theorem ni_dL_law_1504 : decode cL_law 1504 = .ok (.istore 6, 2) := by decide +kernel
theorem ni_dL_law_1506 : decode cL_law 1506 = .ok (.aload_n 2, 1) := by decide +kernel
theorem ni_dL_law_1507 : decode cL_law 1507 = .ok (.aload_n 0, 1) := by decide +kernel
theorem ni_dL_law_1508 : decode cL_law 1508 = .ok (.iload 5, 2) := by decide +kernel
theorem ni_dL_law_1510 : decode cL_law 1510 = .ok (.iconst 1, 1) := by decide +kernel
theorem ni_dL_law_1511 : decode cL_law 1511 = .ok (.iadd, 1) := by decide +kernel
theorem ni_dL_law_1512 : decode cL_law 1512 = .ok (.iaload, 1) := by decide +kernel
theorem ni_dL_law_1513 : decode cL_law 1513 = .ok (.invokevirtual 237, 3) := by decide +kernel
theorem ni_dL_law_1516 : decode cL_law 1516 = .ok (.istore 7, 2) := by decide +kernel
theorem ni_dL_law_1518 : decode cL_law 1518 = .ok (.aload_n 2, 1) := by decide +kernel
theorem ni_dL_law_1519 : decode cL_law 1519 = .ok (.invokevirtual 161, 3) := by decide +kernel
theorem ni_dL_law_1522 : decode cL_law 1522 = .ok (.iload 6, 2) := by decide +kernel
theorem ni_dL_law_1524 : decode cL_law 1524 = .ok (.if_icmp .eq 5, 3) := by decide +kernel
theorem ni_dL_law_1529 : decode cL_law 1529 = .ok (.iload 6, 2) := by decide +kernel
theorem ni_dL_law_1531 : decode cL_law 1531 = .ok (.ifCond .ne 22, 3) := by decide +kernel
theorem ni_dL_law_1553 : decode cL_law 1553 = .ok (.goto 1764, 3) := by decide +kernel
theorem ni_dL_law_1556 : decode cL_law 1556 = .ok (.aload_n 1, 1) := by decide +kernel
theorem ni_dL_law_1557 : decode cL_law 1557 = .ok (.aload_n 0, 1) := by decide +kernel
theorem ni_dL_law_1558 : decode cL_law 1558 = .ok (.iload 5, 2) := by decide +kernel
theorem ni_dL_law_1560 : decode cL_law 1560 = .ok (.iconst 1, 1) := by decide +kernel
theorem ni_dL_law_1561 : decode cL_law 1561 = .ok (.iadd, 1) := by decide +kernel
theorem ni_dL_law_1562 : decode cL_law 1562 = .ok (.iaload, 1) := by decide +kernel
theorem ni_dL_law_1563 : decode cL_law 1563 = .ok (.aload_n 0, 1) := by decide +kernel
theorem ni_dL_law_1564 : decode cL_law 1564 = .ok (.iload 5, 2) := by decide +kernel
theorem ni_dL_law_1566 : decode cL_law 1566 = .ok (.iconst 2, 1) := by decide +kernel
theorem ni_dL_law_1567 : decode cL_law 1567 = .ok (.iadd, 1) := by decide +kernel
theorem ni_dL_law_1568 : decode cL_law 1568 = .ok (.iaload, 1) := by decide +kernel
theorem ni_dL_law_1569 : decode cL_law 1569 = .ok (.aload_n 3, 1) := by decide +kernel
theorem ni_dL_law_1570 : decode cL_law 1570 = .ok (.invokestatic 238, 3) := by decide +kernel
theorem ni_dL_law_1573 : decode cL_law 1573 = .ok (.istore 6, 2) := by decide +kernel
theorem ni_dL_law_1575 : decode cL_law 1575 = .ok (.aload_n 2, 1) := by decide +kernel
theorem ni_dL_law_1576 : decode cL_law 1576 = .ok (.aload_n 0, 1) := by decide +kernel
theorem ni_dL_law_1577 : decode cL_law 1577 = .ok (.iload 5, 2) := by decide +kernel
theorem ni_dL_law_1579 : decode cL_law 1579 = .ok (.iconst 1, 1) := by decide +kernel
theorem ni_dL_law_1580 : decode cL_law 1580 = .ok (.iadd, 1) := by decide +kernel
theorem ni_dL_law_1581 : decode cL_law 1581 = .ok (.iaload, 1) := by decide +kernel
theorem ni_dL_law_1582 : decode cL_law 1582 = .ok (.aload_n 0, 1) := by decide +kernel
theorem ni_dL_law_1583 : decode cL_law 1583 = .ok (.iload 5, 2) := by decide +kernel
theorem ni_dL_law_1585 : decode cL_law 1585 = .ok (.iconst 2, 1) := by decide +kernel
theorem ni_dL_law_1586 : decode cL_law 1586 = .ok (.iadd, 1) := by decide +kernel
theorem ni_dL_law_1587 : decode cL_law 1587 = .ok (.iaload, 1) := by decide +kernel
theorem ni_dL_law_1588 : decode cL_law 1588 = .ok (.invokevirtual 240, 3) := by decide +kernel
theorem ni_dL_law_1591 : decode cL_law 1591 = .ok (.istore 7, 2) := by decide +kernel
theorem ni_dL_law_1593 : decode cL_law 1593 = .ok (.aload_n 2, 1) := by decide +kernel
theorem ni_dL_law_1594 : decode cL_law 1594 = .ok (.invokevirtual 161, 3) := by decide +kernel
theorem ni_dL_law_1597 : decode cL_law 1597 = .ok (.iload 6, 2) := by decide +kernel
theorem ni_dL_law_1599 : decode cL_law 1599 = .ok (.if_icmp .eq 5, 3) := by decide +kernel
theorem ni_dL_law_1604 : decode cL_law 1604 = .ok (.iload 6, 2) := by decide +kernel
theorem ni_dL_law_1606 : decode cL_law 1606 = .ok (.ifCond .ne 15, 3) := by decide +kernel
theorem ni_dL_law_1621 : decode cL_law 1621 = .ok (.goto 1696, 3) := by decide +kernel
theorem ni_dL_law_1624 : decode cL_law 1624 = .ok (.aload_n 1, 1) := by decide +kernel
theorem ni_dL_law_1625 : decode cL_law 1625 = .ok (.invokevirtual 241, 3) := by decide +kernel
theorem ni_dL_law_1628 : decode cL_law 1628 = .ok (.aload_n 2, 1) := by decide +kernel
theorem ni_dL_law_1629 : decode cL_law 1629 = .ok (.invokevirtual 244, 3) := by decide +kernel
theorem ni_dL_law_1632 : decode cL_law 1632 = .ok (.if_icmp .eq 1685, 3) := by decide +kernel
theorem ni_dL_law_1637 : decode cL_law 1637 = .ok (.aload_n 1, 1) := by decide +kernel
theorem ni_dL_law_1638 : decode cL_law 1638 = .ok (.invokevirtual 245, 3) := by decide +kernel
theorem ni_dL_law_1641 : decode cL_law 1641 = .ok (.aload_n 2, 1) := by decide +kernel
theorem ni_dL_law_1642 : decode cL_law 1642 = .ok (.invokevirtual 249, 3) := by decide +kernel
theorem ni_dL_law_1645 : decode cL_law 1645 = .ok (.if_icmp .eq 1672, 3) := by decide +kernel
theorem ni_dL_law_1650 : decode cL_law 1650 = .ok (.aload_n 1, 1) := by decide +kernel
theorem ni_dL_law_1651 : decode cL_law 1651 = .ok (.aload_n 0, 1) := by decide +kernel
theorem ni_dL_law_1652 : decode cL_law 1652 = .ok (.iload 5, 2) := by decide +kernel
theorem ni_dL_law_1654 : decode cL_law 1654 = .ok (.iconst 1, 1) := by decide +kernel
theorem ni_dL_law_1655 : decode cL_law 1655 = .ok (.iadd, 1) := by decide +kernel
theorem ni_dL_law_1656 : decode cL_law 1656 = .ok (.iaload, 1) := by decide +kernel
theorem ni_dL_law_1657 : decode cL_law 1657 = .ok (.aload_n 0, 1) := by decide +kernel
theorem ni_dL_law_1658 : decode cL_law 1658 = .ok (.iload 5, 2) := by decide +kernel
theorem ni_dL_law_1660 : decode cL_law 1660 = .ok (.iconst 2, 1) := by decide +kernel
theorem ni_dL_law_1661 : decode cL_law 1661 = .ok (.iadd, 1) := by decide +kernel
theorem ni_dL_law_1662 : decode cL_law 1662 = .ok (.iaload, 1) := by decide +kernel
theorem ni_dL_law_1663 : decode cL_law 1663 = .ok (.aload_n 3, 1) := by decide +kernel
theorem ni_dL_law_1664 : decode cL_law 1664 = .ok (.invokestatic 250, 3) := by decide +kernel
theorem ni_dL_law_1667 : decode cL_law 1667 = .ok (.istore 6, 2) := by decide +kernel
theorem ni_dL_law_1669 : decode cL_law 1669 = .ok (.aload_n 2, 1) := by decide +kernel
theorem ni_dL_law_1670 : decode cL_law 1670 = .ok (.aload_n 0, 1) := by decide +kernel
theorem ni_dL_law_1671 : decode cL_law 1671 = .ok (.iload 5, 2) := by decide +kernel
theorem ni_dL_law_1673 : decode cL_law 1673 = .ok (.iconst 1, 1) := by decide +kernel
theorem ni_dL_law_1674 : decode cL_law 1674 = .ok (.iadd, 1) := by decide +kernel
theorem ni_dL_law_1675 : decode cL_law 1675 = .ok (.iaload, 1) := by decide +kernel
theorem ni_dL_law_1676 : decode cL_law 1676 = .ok (.aload_n 0, 1) := by decide +kernel
theorem ni_dL_law_1677 : decode cL_law 1677 = .ok (.iload 5, 2) := by decide +kernel
theorem ni_dL_law_1679 : decode cL_law 1679 = .ok (.iconst 2, 1) := by decide +kernel
theorem ni_dL_law_1680 : decode cL_law 1680 = .ok (.iadd, 1) := by decide +kernel
theorem ni_dL_law_1681 : decode cL_law 1681 = .ok (.iaload, 1) := by decide +kernel
theorem ni_dL_law_1682 : decode cL_law 1682 = .ok (.invokevirtual 252, 3) := by decide +kernel
theorem ni_dL_law_1685 : decode cL_law 1685 = .ok (.istore 7, 2) := by decide +kernel
theorem ni_dL_law_1687 : decode cL_law 1687 = .ok (.aload_n 2, 1) := by decide +kernel
theorem ni_dL_law_1688 : decode cL_law 1688 = .ok (.invokevirtual 161, 3) := by decide +kernel
theorem ni_dL_law_1691 : decode cL_law 1691 = .ok (.iload 6, 2) := by decide +kernel
theorem ni_dL_law_1693 : decode cL_law 1693 = .ok (.if_icmp .eq 5, 3) := by decide +kernel
theorem ni_dL_law_1698 : decode cL_law 1698 = .ok (.iload 6, 2) := by decide +kernel
theorem ni_dL_law_1700 : decode cL_law 1700 = .ok (.ifCond .ne 15, 3) := by decide +kernel
theorem ni_dL_law_1715 : decode cL_law 1715 = .ok (.goto 1602, 3) := by decide +kernel
theorem ni_dL_law_1718 : decode cL_law 1718 = .ok (.aload_n 1, 1) := by decide +kernel
theorem ni_dL_law_1719 : decode cL_law 1719 = .ok (.aload_n 0, 1) := by decide +kernel
theorem ni_dL_law_1720 : decode cL_law 1720 = .ok (.iload 5, 2) := by decide +kernel
theorem ni_dL_law_1722 : decode cL_law 1722 = .ok (.iconst 1, 1) := by decide +kernel
theorem ni_dL_law_1723 : decode cL_law 1723 = .ok (.iadd, 1) := by decide +kernel
theorem ni_dL_law_1724 : decode cL_law 1724 = .ok (.iaload, 1) := by decide +kernel
theorem ni_dL_law_1725 : decode cL_law 1725 = .ok (.aload_n 0, 1) := by decide +kernel
theorem ni_dL_law_1726 : decode cL_law 1726 = .ok (.iload 5, 2) := by decide +kernel
end
section
theorem ni_dL_law_1728 : decode cL_law 1728 = .ok (.iconst 2, 1) := by decide +kernel
theorem ni_dL_law_1729 : decode cL_law 1729 = .ok (.iadd, 1) := by decide +kernel
theorem ni_dL_law_1730 : decode cL_law 1730 = .ok (.iaload, 1) := by decide +kernel
theorem ni_dL_law_1731 : decode cL_law 1731 = .ok (.aload_n 3, 1) := by decide +kernel
theorem ni_dL_law_1732 : decode cL_law 1732 = .ok (.invokestatic 253, 3) := by decide +kernel
theorem ni_dL_law_1735 : decode cL_law 1735 = .ok (.istore 6, 2) := by decide +kernel
theorem ni_dL_law_1737 : decode cL_law 1737 = .ok (.aload_n 2, 1) := by decide +kernel
theorem ni_dL_law_1738 : decode cL_law 1738 = .ok (.aload_n 0, 1) := by decide +kernel
theorem ni_dL_law_1739 : decode cL_law 1739 = .ok (.iload 5, 2) := by decide +kernel
theorem ni_dL_law_1741 : decode cL_law 1741 = .ok (.iconst 1, 1) := by decide +kernel
theorem ni_dL_law_1742 : decode cL_law 1742 = .ok (.iadd, 1) := by decide +kernel
theorem ni_dL_law_1743 : decode cL_law 1743 = .ok (.iaload, 1) := by decide +kernel
theorem ni_dL_law_1744 : decode cL_law 1744 = .ok (.aload_n 0, 1) := by decide +kernel
theorem ni_dL_law_1745 : decode cL_law 1745 = .ok (.iload 5, 2) := by decide +kernel
theorem ni_dL_law_1747 : decode cL_law 1747 = .ok (.iconst 2, 1) := by decide +kernel
theorem ni_dL_law_1748 : decode cL_law 1748 = .ok (.iadd, 1) := by decide +kernel
theorem ni_dL_law_1749 : decode cL_law 1749 = .ok (.iaload, 1) := by decide +kernel
theorem ni_dL_law_1750 : decode cL_law 1750 = .ok (.invokevirtual 255, 3) := by decide +kernel
theorem ni_dL_law_1753 : decode cL_law 1753 = .ok (.istore 7, 2) := by decide +kernel
theorem ni_dL_law_1755 : decode cL_law 1755 = .ok (.aload_n 2, 1) := by decide +kernel
theorem ni_dL_law_1756 : decode cL_law 1756 = .ok (.invokevirtual 161, 3) := by decide +kernel
theorem ni_dL_law_1759 : decode cL_law 1759 = .ok (.iload 6, 2) := by decide +kernel
theorem ni_dL_law_1761 : decode cL_law 1761 = .ok (.if_icmp .eq 5, 3) := by decide +kernel
theorem ni_dL_law_1766 : decode cL_law 1766 = .ok (.iload 6, 2) := by decide +kernel
theorem ni_dL_law_1768 : decode cL_law 1768 = .ok (.ifCond .ne 15, 3) := by decide +kernel
theorem ni_dL_law_1783 : decode cL_law 1783 = .ok (.goto 1534, 3) := by decide +kernel
theorem ni_dL_law_1786 : decode cL_law 1786 = .ok (.aload_n 1, 1) := by decide +kernel
theorem ni_dL_law_1787 : decode cL_law 1787 = .ok (.aload_n 0, 1) := by decide +kernel
theorem ni_dL_law_1788 : decode cL_law 1788 = .ok (.iload 5, 2) := by decide +kernel
theorem ni_dL_law_1790 : decode cL_law 1790 = .ok (.iconst 1, 1) := by decide +kernel
theorem ni_dL_law_1791 : decode cL_law 1791 = .ok (.iadd, 1) := by decide +kernel
theorem ni_dL_law_1792 : decode cL_law 1792 = .ok (.iaload, 1) := by decide +kernel
theorem ni_dL_law_1793 : decode cL_law 1793 = .ok (.aload_n 3, 1) := by decide +kernel
theorem ni_dL_law_1794 : decode cL_law 1794 = .ok (.invokestatic 256, 3) := by decide +kernel
theorem ni_dL_law_1797 : decode cL_law 1797 = .ok (.istore 6, 2) := by decide +kernel
theorem ni_dL_law_1799 : decode cL_law 1799 = .ok (.aload_n 2, 1) := by decide +kernel
theorem ni_dL_law_1800 : decode cL_law 1800 = .ok (.aload_n 0, 1) := by decide +kernel
theorem ni_dL_law_1801 : decode cL_law 1801 = .ok (.iload 5, 2) := by decide +kernel
theorem ni_dL_law_1803 : decode cL_law 1803 = .ok (.iconst 1, 1) := by decide +kernel
theorem ni_dL_law_1804 : decode cL_law 1804 = .ok (.iadd, 1) := by decide +kernel
theorem ni_dL_law_1805 : decode cL_law 1805 = .ok (.iaload, 1) := by decide +kernel
theorem ni_dL_law_1806 : decode cL_law 1806 = .ok (.invokevirtual 258, 3) := by decide +kernel
theorem ni_dL_law_1809 : decode cL_law 1809 = .ok (.istore 7, 2) := by decide +kernel
theorem ni_dL_law_1811 : decode cL_law 1811 = .ok (.aload_n 2, 1) := by decide +kernel
theorem ni_dL_law_1812 : decode cL_law 1812 = .ok (.invokevirtual 161, 3) := by decide +kernel
theorem ni_dL_law_1815 : decode cL_law 1815 = .ok (.iload 6, 2) := by decide +kernel
theorem ni_dL_law_1817 : decode cL_law 1817 = .ok (.if_icmp .eq 5, 3) := by decide +kernel
theorem ni_dL_law_1822 : decode cL_law 1822 = .ok (.iload 6, 2) := by decide +kernel
theorem ni_dL_law_1824 : decode cL_law 1824 = .ok (.ifCond .ne 15, 3) := by decide +kernel
theorem ni_dL_law_1839 : decode cL_law 1839 = .ok (.goto 1478, 3) := by decide +kernel
theorem ni_dL_law_1842 : decode cL_law 1842 = .ok (.aload_n 1, 1) := by decide +kernel
theorem ni_dL_law_1843 : decode cL_law 1843 = .ok (.aload_n 0, 1) := by decide +kernel
theorem ni_dL_law_1844 : decode cL_law 1844 = .ok (.iload 5, 2) := by decide +kernel
theorem ni_dL_law_1846 : decode cL_law 1846 = .ok (.iconst 1, 1) := by decide +kernel
theorem ni_dL_law_1847 : decode cL_law 1847 = .ok (.iadd, 1) := by decide +kernel
theorem ni_dL_law_1848 : decode cL_law 1848 = .ok (.iaload, 1) := by decide +kernel
theorem ni_dL_law_1849 : decode cL_law 1849 = .ok (.aload_n 3, 1) := by decide +kernel
theorem ni_dL_law_1850 : decode cL_law 1850 = .ok (.invokestatic 259, 3) := by decide +kernel
theorem ni_dL_law_1853 : decode cL_law 1853 = .ok (.istore 6, 2) := by decide +kernel
theorem ni_dL_law_1855 : decode cL_law 1855 = .ok (.aload_n 2, 1) := by decide +kernel
theorem ni_dL_law_1856 : decode cL_law 1856 = .ok (.aload_n 0, 1) := by decide +kernel
theorem ni_dL_law_1857 : decode cL_law 1857 = .ok (.iload 5, 2) := by decide +kernel
theorem ni_dL_law_1859 : decode cL_law 1859 = .ok (.iconst 1, 1) := by decide +kernel
theorem ni_dL_law_1860 : decode cL_law 1860 = .ok (.iadd, 1) := by decide +kernel
theorem ni_dL_law_1861 : decode cL_law 1861 = .ok (.iaload, 1) := by decide +kernel
theorem ni_dL_law_1862 : decode cL_law 1862 = .ok (.invokevirtual 261, 3) := by decide +kernel
theorem ni_dL_law_1865 : decode cL_law 1865 = .ok (.istore 7, 2) := by decide +kernel
theorem ni_dL_law_1867 : decode cL_law 1867 = .ok (.aload_n 2, 1) := by decide +kernel
theorem ni_dL_law_1868 : decode cL_law 1868 = .ok (.invokevirtual 161, 3) := by decide +kernel
theorem ni_dL_law_1871 : decode cL_law 1871 = .ok (.iload 6, 2) := by decide +kernel
theorem ni_dL_law_1873 : decode cL_law 1873 = .ok (.if_icmp .eq 5, 3) := by decide +kernel
theorem ni_dL_law_1878 : decode cL_law 1878 = .ok (.iload 6, 2) := by decide +kernel
theorem ni_dL_law_1880 : decode cL_law 1880 = .ok (.ifCond .ne 15, 3) := by decide +kernel
theorem ni_dL_law_1895 : decode cL_law 1895 = .ok (.goto 1422, 3) := by decide +kernel
theorem ni_dL_law_1898 : decode cL_law 1898 = .ok (.aload_n 1, 1) := by decide +kernel
theorem ni_dL_law_1899 : decode cL_law 1899 = .ok (.aload_n 0, 1) := by decide +kernel
theorem ni_dL_law_1900 : decode cL_law 1900 = .ok (.iload 5, 2) := by decide +kernel
theorem ni_dL_law_1902 : decode cL_law 1902 = .ok (.iconst 1, 1) := by decide +kernel
theorem ni_dL_law_1903 : decode cL_law 1903 = .ok (.iadd, 1) := by decide +kernel
theorem ni_dL_law_1904 : decode cL_law 1904 = .ok (.iaload, 1) := by decide +kernel
theorem ni_dL_law_1905 : decode cL_law 1905 = .ok (.aload_n 3, 1) := by decide +kernel
theorem ni_dL_law_1906 : decode cL_law 1906 = .ok (.invokestatic 262, 3) := by decide +kernel
theorem ni_dL_law_1909 : decode cL_law 1909 = .ok (.istore 6, 2) := by decide +kernel
theorem ni_dL_law_1911 : decode cL_law 1911 = .ok (.aload_n 2, 1) := by decide +kernel
theorem ni_dL_law_1912 : decode cL_law 1912 = .ok (.aload_n 0, 1) := by decide +kernel
theorem ni_dL_law_1913 : decode cL_law 1913 = .ok (.iload 5, 2) := by decide +kernel
theorem ni_dL_law_1915 : decode cL_law 1915 = .ok (.iconst 1, 1) := by decide +kernel
theorem ni_dL_law_1916 : decode cL_law 1916 = .ok (.iadd, 1) := by decide +kernel
theorem ni_dL_law_1917 : decode cL_law 1917 = .ok (.iaload, 1) := by decide +kernel
theorem ni_dL_law_1918 : decode cL_law 1918 = .ok (.invokevirtual 264, 3) := by decide +kernel
theorem ni_dL_law_1921 : decode cL_law 1921 = .ok (.istore 7, 2) := by decide +kernel
theorem ni_dL_law_1923 : decode cL_law 1923 = .ok (.aload_n 2, 1) := by decide +kernel
theorem ni_dL_law_1924 : decode cL_law 1924 = .ok (.invokevirtual 161, 3) := by decide +kernel
theorem ni_dL_law_1927 : decode cL_law 1927 = .ok (.iload 6, 2) := by decide +kernel
theorem ni_dL_law_1929 : decode cL_law 1929 = .ok (.if_icmp .eq 5, 3) := by decide +kernel
theorem ni_dL_law_1934 : decode cL_law 1934 = .ok (.iload 6, 2) := by decide +kernel
theorem ni_dL_law_1936 : decode cL_law 1936 = .ok (.ifCond .ne 15, 3) := by decide +kernel
theorem ni_dL_law_1951 : decode cL_law 1951 = .ok (.goto 1366, 3) := by decide +kernel
theorem ni_dL_law_1954 : decode cL_law 1954 = .ok (.aload_n 1, 1) := by decide +kernel
theorem ni_dL_law_1955 : decode cL_law 1955 = .ok (.aload_n 0, 1) := by decide +kernel
theorem ni_dL_law_1956 : decode cL_law 1956 = .ok (.iload 5, 2) := by decide +kernel
theorem ni_dL_law_1958 : decode cL_law 1958 = .ok (.iconst 1, 1) := by decide +kernel
theorem ni_dL_law_1959 : decode cL_law 1959 = .ok (.iadd, 1) := by decide +kernel
theorem ni_dL_law_1960 : decode cL_law 1960 = .ok (.iaload, 1) := by decide +kernel
theorem ni_dL_law_1961 : decode cL_law 1961 = .ok (.aload_n 0, 1) := by decide +kernel
theorem ni_dL_law_1962 : decode cL_law 1962 = .ok (.iload 5, 2) := by decide +kernel
theorem ni_dL_law_1964 : decode cL_law 1964 = .ok (.iconst 2, 1) := by decide +kernel
theorem ni_dL_law_1965 : decode cL_law 1965 = .ok (.iadd, 1) := by decide +kernel
theorem ni_dL_law_1966 : decode cL_law 1966 = .ok (.iaload, 1) := by decide +kernel
theorem ni_dL_law_1967 : decode cL_law 1967 = .ok (.aload_n 3, 1) := by decide +kernel
theorem ni_dL_law_1968 : decode cL_law 1968 = .ok (.invokestatic 265, 3) := by decide +kernel
theorem ni_dL_law_1971 : decode cL_law 1971 = .ok (.istore 6, 2) := by decide +kernel
theorem ni_dL_law_1973 : decode cL_law 1973 = .ok (.aload_n 2, 1) := by decide +kernel
theorem ni_dL_law_1974 : decode cL_law 1974 = .ok (.aload_n 0, 1) := by decide +kernel
theorem ni_dL_law_1975 : decode cL_law 1975 = .ok (.iload 5, 2) := by decide +kernel
theorem ni_dL_law_1977 : decode cL_law 1977 = .ok (.iconst 1, 1) := by decide +kernel
theorem ni_dL_law_1978 : decode cL_law 1978 = .ok (.iadd, 1) := by decide +kernel
theorem ni_dL_law_1979 : decode cL_law 1979 = .ok (.iaload, 1) := by decide +kernel
theorem ni_dL_law_1980 : decode cL_law 1980 = .ok (.aload_n 0, 1) := by decide +kernel
theorem ni_dL_law_1981 : decode cL_law 1981 = .ok (.iload 5, 2) := by decide +kernel
theorem ni_dL_law_1983 : decode cL_law 1983 = .ok (.iconst 2, 1) := by decide +kernel
theorem ni_dL_law_1984 : decode cL_law 1984 = .ok (.iadd, 1) := by decide +kernel
theorem ni_dL_law_1985 : decode cL_law 1985 = .ok (.iaload, 1) := by decide +kernel
theorem ni_dL_law_1986 : decode cL_law 1986 = .ok (.invokevirtual 267, 3) := by decide +kernel
theorem ni_dL_law_1989 : decode cL_law 1989 = .ok (.istore 7, 2) := by decide +kernel
theorem ni_dL_law_1991 : decode cL_law 1991 = .ok (.aload_n 2, 1) := by decide +kernel
theorem ni_dL_law_1992 : decode cL_law 1992 = .ok (.invokevirtual 161, 3) := by decide +kernel
theorem ni_dL_law_1995 : decode cL_law 1995 = .ok (.iload 6, 2) := by decide +kernel
theorem ni_dL_law_1997 : decode cL_law 1997 = .ok (.if_icmp .eq 5, 3) := by decide +kernel
theorem ni_dL_law_2002 : decode cL_law 2002 = .ok (.iload 6, 2) := by decide +kernel
theorem ni_dL_law_2004 : decode cL_law 2004 = .ok (.ifCond .ne 15, 3) := by decide +kernel
theorem ni_dL_law_2019 : decode cL_law 2019 = .ok (.goto 1298, 3) := by decide +kernel
theorem ni_dL_law_2022 : decode cL_law 2022 = .ok (.aload_n 1, 1) := by decide +kernel
theorem ni_dL_law_2023 : decode cL_law 2023 = .ok (.aload_n 0, 1) := by decide +kernel
theorem ni_dL_law_2024 : decode cL_law 2024 = .ok (.iload 5, 2) := by decide +kernel
theorem ni_dL_law_2026 : decode cL_law 2026 = .ok (.iconst 1, 1) := by decide +kernel
theorem ni_dL_law_2027 : decode cL_law 2027 = .ok (.iadd, 1) := by decide +kernel
theorem ni_dL_law_2028 : decode cL_law 2028 = .ok (.iaload, 1) := by decide +kernel
theorem ni_dL_law_2029 : decode cL_law 2029 = .ok (.aload_n 0, 1) := by decide +kernel
theorem ni_dL_law_2030 : decode cL_law 2030 = .ok (.iload 5, 2) := by decide +kernel
theorem ni_dL_law_2032 : decode cL_law 2032 = .ok (.iconst 2, 1) := by decide +kernel
theorem ni_dL_law_2033 : decode cL_law 2033 = .ok (.iadd, 1) := by decide +kernel
theorem ni_dL_law_2034 : decode cL_law 2034 = .ok (.iaload, 1) := by decide +kernel
theorem ni_dL_law_2035 : decode cL_law 2035 = .ok (.aload_n 3, 1) := by decide +kernel
theorem ni_dL_law_2036 : decode cL_law 2036 = .ok (.invokestatic 268, 3) := by decide +kernel
theorem ni_dL_law_2039 : decode cL_law 2039 = .ok (.istore 6, 2) := by decide +kernel
theorem ni_dL_law_2041 : decode cL_law 2041 = .ok (.aload_n 2, 1) := by decide +kernel
theorem ni_dL_law_2042 : decode cL_law 2042 = .ok (.aload_n 0, 1) := by decide +kernel
theorem ni_dL_law_2043 : decode cL_law 2043 = .ok (.iload 5, 2) := by decide +kernel
theorem ni_dL_law_2045 : decode cL_law 2045 = .ok (.iconst 1, 1) := by decide +kernel
theorem ni_dL_law_2046 : decode cL_law 2046 = .ok (.iadd, 1) := by decide +kernel
theorem ni_dL_law_2047 : decode cL_law 2047 = .ok (.iaload, 1) := by decide +kernel
theorem ni_dL_law_2048 : decode cL_law 2048 = .ok (.aload_n 0, 1) := by decide +kernel
theorem ni_dL_law_2049 : decode cL_law 2049 = .ok (.iload 5, 2) := by decide +kernel
theorem ni_dL_law_2051 : decode cL_law 2051 = .ok (.iconst 2, 1) := by decide +kernel
theorem ni_dL_law_2052 : decode cL_law 2052 = .ok (.iadd, 1) := by decide +kernel
theorem ni_dL_law_2053 : decode cL_law 2053 = .ok (.iaload, 1) := by decide +kernel
theorem ni_dL_law_2054 : decode cL_law 2054 = .ok (.invokevirtual 270, 3) := by decide +kernel
theorem ni_dL_law_2057 : decode cL_law 2057 = .ok (.istore 7, 2) := by decide +kernel
theorem ni_dL_law_2059 : decode cL_law 2059 = .ok (.aload_n 2, 1) := by decide +kernel
theorem ni_dL_law_2060 : decode cL_law 2060 = .ok (.invokevirtual 161, 3) := by decide +kernel
theorem ni_dL_law_2063 : decode cL_law 2063 = .ok (.iload 6, 2) := by decide +kernel
theorem ni_dL_law_2065 : decode cL_law 2065 = .ok (.if_icmp .eq 5, 3) := by decide +kernel
theorem ni_dL_law_2070 : decode cL_law 2070 = .ok (.iload 6, 2) := by decide +kernel
theorem ni_dL_law_2072 : decode cL_law 2072 = .ok (.ifCond .ne 15, 3) := by decide +kernel
theorem ni_dL_law_2087 : decode cL_law 2087 = .ok (.goto 1230, 3) := by decide +kernel
theorem ni_dL_law_2090 : decode cL_law 2090 = .ok (.aload_n 1, 1) := by decide +kernel
theorem ni_dL_law_2091 : decode cL_law 2091 = .ok (.aload_n 0, 1) := by decide +kernel
theorem ni_dL_law_2092 : decode cL_law 2092 = .ok (.iload 5, 2) := by decide +kernel
theorem ni_dL_law_2094 : decode cL_law 2094 = .ok (.iconst 1, 1) := by decide +kernel
theorem ni_dL_law_2095 : decode cL_law 2095 = .ok (.iadd, 1) := by decide +kernel
theorem ni_dL_law_2096 : decode cL_law 2096 = .ok (.iaload, 1) := by decide +kernel
theorem ni_dL_law_2097 : decode cL_law 2097 = .ok (.aload_n 0, 1) := by decide +kernel
theorem ni_dL_law_2098 : decode cL_law 2098 = .ok (.iload 5, 2) := by decide +kernel
theorem ni_dL_law_2100 : decode cL_law 2100 = .ok (.iconst 2, 1) := by decide +kernel
theorem ni_dL_law_2101 : decode cL_law 2101 = .ok (.iadd, 1) := by decide +kernel
theorem ni_dL_law_2102 : decode cL_law 2102 = .ok (.iaload, 1) := by decide +kernel
theorem ni_dL_law_2103 : decode cL_law 2103 = .ok (.aload_n 3, 1) := by decide +kernel
theorem ni_dL_law_2104 : decode cL_law 2104 = .ok (.invokestatic 271, 3) := by decide +kernel
theorem ni_dL_law_2107 : decode cL_law 2107 = .ok (.istore 6, 2) := by decide +kernel
theorem ni_dL_law_2109 : decode cL_law 2109 = .ok (.aload_n 2, 1) := by decide +kernel
theorem ni_dL_law_2110 : decode cL_law 2110 = .ok (.aload_n 0, 1) := by decide +kernel
theorem ni_dL_law_2111 : decode cL_law 2111 = .ok (.iload 5, 2) := by decide +kernel
theorem ni_dL_law_2113 : decode cL_law 2113 = .ok (.iconst 1, 1) := by decide +kernel
theorem ni_dL_law_2114 : decode cL_law 2114 = .ok (.iadd, 1) := by decide +kernel
theorem ni_dL_law_2115 : decode cL_law 2115 = .ok (.iaload, 1) := by decide +kernel
theorem ni_dL_law_2116 : decode cL_law 2116 = .ok (.aload_n 0, 1) := by decide +kernel
theorem ni_dL_law_2117 : decode cL_law 2117 = .ok (.iload 5, 2) := by decide +kernel
theorem ni_dL_law_2119 : decode cL_law 2119 = .ok (.iconst 2, 1) := by decide +kernel
theorem ni_dL_law_2120 : decode cL_law 2120 = .ok (.iadd, 1) := by decide +kernel
theorem ni_dL_law_2121 : decode cL_law 2121 = .ok (.iaload, 1) := by decide +kernel
theorem ni_dL_law_2122 : decode cL_law 2122 = .ok (.invokevirtual 273, 3) := by decide +kernel
theorem ni_dL_law_2125 : decode cL_law 2125 = .ok (.istore 7, 2) := by decide +kernel
theorem ni_dL_law_2127 : decode cL_law 2127 = .ok (.aload_n 2, 1) := by decide +kernel
theorem ni_dL_law_2128 : decode cL_law 2128 = .ok (.invokevirtual 161, 3) := by decide +kernel
theorem ni_dL_law_2131 : decode cL_law 2131 = .ok (.iload 6, 2) := by decide +kernel
theorem ni_dL_law_2133 : decode cL_law 2133 = .ok (.if_icmp .eq 5, 3) := by decide +kernel
theorem ni_dL_law_2138 : decode cL_law 2138 = .ok (.iload 6, 2) := by decide +kernel
theorem ni_dL_law_2140 : decode cL_law 2140 = .ok (.ifCond .ne 15, 3) := by decide +kernel
theorem ni_dL_law_2155 : decode cL_law 2155 = .ok (.goto 1162, 3) := by decide +kernel
end
section
theorem ni_dL_law_2158 : decode cL_law 2158 = .ok (.aload_n 1, 1) := by decide +kernel
theorem ni_dL_law_2159 : decode cL_law 2159 = .ok (.aload_n 0, 1) := by decide +kernel
theorem ni_dL_law_2160 : decode cL_law 2160 = .ok (.iload 5, 2) := by decide +kernel
theorem ni_dL_law_2162 : decode cL_law 2162 = .ok (.iconst 1, 1) := by decide +kernel
theorem ni_dL_law_2163 : decode cL_law 2163 = .ok (.iadd, 1) := by decide +kernel
theorem ni_dL_law_2164 : decode cL_law 2164 = .ok (.iaload, 1) := by decide +kernel
theorem ni_dL_law_2165 : decode cL_law 2165 = .ok (.aload_n 0, 1) := by decide +kernel
theorem ni_dL_law_2166 : decode cL_law 2166 = .ok (.iload 5, 2) := by decide +kernel
theorem ni_dL_law_2168 : decode cL_law 2168 = .ok (.iconst 2, 1) := by decide +kernel
theorem ni_dL_law_2169 : decode cL_law 2169 = .ok (.iadd, 1) := by decide +kernel
theorem ni_dL_law_2170 : decode cL_law 2170 = .ok (.iaload, 1) := by decide +kernel
theorem ni_dL_law_2171 : decode cL_law 2171 = .ok (.aload_n 3, 1) := by decide +kernel
theorem ni_dL_law_2172 : decode cL_law 2172 = .ok (.invokestatic 274, 3) := by decide +kernel
theorem ni_dL_law_2175 : decode cL_law 2175 = .ok (.istore 6, 2) := by decide +kernel
theorem ni_dL_law_2177 : decode cL_law 2177 = .ok (.aload_n 2, 1) := by decide +kernel
theorem ni_dL_law_2178 : decode cL_law 2178 = .ok (.aload_n 0, 1) := by decide +kernel
theorem ni_dL_law_2179 : decode cL_law 2179 = .ok (.iload 5, 2) := by decide +kernel
theorem ni_dL_law_2181 : decode cL_law 2181 = .ok (.iconst 1, 1) := by decide +kernel
theorem ni_dL_law_2182 : decode cL_law 2182 = .ok (.iadd, 1) := by decide +kernel
theorem ni_dL_law_2183 : decode cL_law 2183 = .ok (.iaload, 1) := by decide +kernel
theorem ni_dL_law_2184 : decode cL_law 2184 = .ok (.aload_n 0, 1) := by decide +kernel
theorem ni_dL_law_2185 : decode cL_law 2185 = .ok (.iload 5, 2) := by decide +kernel
theorem ni_dL_law_2187 : decode cL_law 2187 = .ok (.iconst 2, 1) := by decide +kernel
theorem ni_dL_law_2188 : decode cL_law 2188 = .ok (.iadd, 1) := by decide +kernel
theorem ni_dL_law_2189 : decode cL_law 2189 = .ok (.iaload, 1) := by decide +kernel
theorem ni_dL_law_2190 : decode cL_law 2190 = .ok (.invokevirtual 276, 3) := by decide +kernel
theorem ni_dL_law_2193 : decode cL_law 2193 = .ok (.istore 7, 2) := by decide +kernel
theorem ni_dL_law_2195 : decode cL_law 2195 = .ok (.aload_n 2, 1) := by decide +kernel
theorem ni_dL_law_2196 : decode cL_law 2196 = .ok (.invokevirtual 161, 3) := by decide +kernel
theorem ni_dL_law_2199 : decode cL_law 2199 = .ok (.iload 6, 2) := by decide +kernel
theorem ni_dL_law_2201 : decode cL_law 2201 = .ok (.if_icmp .eq 5, 3) := by decide +kernel
theorem ni_dL_law_2206 : decode cL_law 2206 = .ok (.iload 6, 2) := by decide +kernel
theorem ni_dL_law_2208 : decode cL_law 2208 = .ok (.ifCond .ne 15, 3) := by decide +kernel
theorem ni_dL_law_2223 : decode cL_law 2223 = .ok (.goto 1094, 3) := by decide +kernel
theorem ni_dL_law_2226 : decode cL_law 2226 = .ok (.aload_n 1, 1) := by decide +kernel
theorem ni_dL_law_2227 : decode cL_law 2227 = .ok (.aload_n 0, 1) := by decide +kernel
theorem ni_dL_law_2228 : decode cL_law 2228 = .ok (.iload 5, 2) := by decide +kernel
theorem ni_dL_law_2230 : decode cL_law 2230 = .ok (.iconst 1, 1) := by decide +kernel
theorem ni_dL_law_2231 : decode cL_law 2231 = .ok (.iadd, 1) := by decide +kernel
theorem ni_dL_law_2232 : decode cL_law 2232 = .ok (.iaload, 1) := by decide +kernel
theorem ni_dL_law_2233 : decode cL_law 2233 = .ok (.aload_n 3, 1) := by decide +kernel
theorem ni_dL_law_2234 : decode cL_law 2234 = .ok (.invokestatic 277, 3) := by decide +kernel
theorem ni_dL_law_2237 : decode cL_law 2237 = .ok (.istore 6, 2) := by decide +kernel
theorem ni_dL_law_2239 : decode cL_law 2239 = .ok (.aload_n 2, 1) := by decide +kernel
theorem ni_dL_law_2240 : decode cL_law 2240 = .ok (.aload_n 0, 1) := by decide +kernel
theorem ni_dL_law_2241 : decode cL_law 2241 = .ok (.iload 5, 2) := by decide +kernel
theorem ni_dL_law_2243 : decode cL_law 2243 = .ok (.iconst 1, 1) := by decide +kernel
theorem ni_dL_law_2244 : decode cL_law 2244 = .ok (.iadd, 1) := by decide +kernel
theorem ni_dL_law_2245 : decode cL_law 2245 = .ok (.iaload, 1) := by decide +kernel
theorem ni_dL_law_2246 : decode cL_law 2246 = .ok (.invokevirtual 279, 3) := by decide +kernel
theorem ni_dL_law_2249 : decode cL_law 2249 = .ok (.istore 7, 2) := by decide +kernel
theorem ni_dL_law_2251 : decode cL_law 2251 = .ok (.aload_n 2, 1) := by decide +kernel
theorem ni_dL_law_2252 : decode cL_law 2252 = .ok (.invokevirtual 161, 3) := by decide +kernel
theorem ni_dL_law_2255 : decode cL_law 2255 = .ok (.iload 6, 2) := by decide +kernel
theorem ni_dL_law_2257 : decode cL_law 2257 = .ok (.if_icmp .eq 5, 3) := by decide +kernel
theorem ni_dL_law_2262 : decode cL_law 2262 = .ok (.iload 6, 2) := by decide +kernel
theorem ni_dL_law_2264 : decode cL_law 2264 = .ok (.ifCond .ne 15, 3) := by decide +kernel
theorem ni_dL_law_2279 : decode cL_law 2279 = .ok (.goto 1038, 3) := by decide +kernel
theorem ni_dL_law_2282 : decode cL_law 2282 = .ok (.aload_n 1, 1) := by decide +kernel
theorem ni_dL_law_2283 : decode cL_law 2283 = .ok (.aload_n 0, 1) := by decide +kernel
theorem ni_dL_law_2284 : decode cL_law 2284 = .ok (.iload 5, 2) := by decide +kernel
theorem ni_dL_law_2286 : decode cL_law 2286 = .ok (.iconst 1, 1) := by decide +kernel
theorem ni_dL_law_2287 : decode cL_law 2287 = .ok (.iadd, 1) := by decide +kernel
theorem ni_dL_law_2288 : decode cL_law 2288 = .ok (.iaload, 1) := by decide +kernel
theorem ni_dL_law_2289 : decode cL_law 2289 = .ok (.aload_n 0, 1) := by decide +kernel
theorem ni_dL_law_2290 : decode cL_law 2290 = .ok (.iload 5, 2) := by decide +kernel
theorem ni_dL_law_2292 : decode cL_law 2292 = .ok (.iconst 2, 1) := by decide +kernel
theorem ni_dL_law_2293 : decode cL_law 2293 = .ok (.iadd, 1) := by decide +kernel
theorem ni_dL_law_2294 : decode cL_law 2294 = .ok (.iaload, 1) := by decide +kernel
theorem ni_dL_law_2295 : decode cL_law 2295 = .ok (.ifCond .eq 7, 3) := by decide +kernel
theorem ni_dL_law_2298 : decode cL_law 2298 = .ok (.iconst 1, 1) := by decide +kernel
theorem ni_dL_law_2299 : decode cL_law 2299 = .ok (.goto 4, 3) := by decide +kernel
theorem ni_dL_law_2302 : decode cL_law 2302 = .ok (.iconst 0, 1) := by decide +kernel
theorem ni_dL_law_2303 : decode cL_law 2303 = .ok (.aload_n 3, 1) := by decide +kernel
theorem ni_dL_law_2304 : decode cL_law 2304 = .ok (.invokestatic 280, 3) := by decide +kernel
theorem ni_dL_law_2307 : decode cL_law 2307 = .ok (.istore 6, 2) := by decide +kernel
theorem ni_dL_law_2309 : decode cL_law 2309 = .ok (.aload_n 2, 1) := by decide +kernel
theorem ni_dL_law_2310 : decode cL_law 2310 = .ok (.aload_n 0, 1) := by decide +kernel
theorem ni_dL_law_2311 : decode cL_law 2311 = .ok (.iload 5, 2) := by decide +kernel
theorem ni_dL_law_2313 : decode cL_law 2313 = .ok (.iconst 1, 1) := by decide +kernel
theorem ni_dL_law_2314 : decode cL_law 2314 = .ok (.iadd, 1) := by decide +kernel
theorem ni_dL_law_2315 : decode cL_law 2315 = .ok (.iaload, 1) := by decide +kernel
theorem ni_dL_law_2316 : decode cL_law 2316 = .ok (.aload_n 0, 1) := by decide +kernel
theorem ni_dL_law_2317 : decode cL_law 2317 = .ok (.iload 5, 2) := by decide +kernel
theorem ni_dL_law_2319 : decode cL_law 2319 = .ok (.iconst 2, 1) := by decide +kernel
theorem ni_dL_law_2320 : decode cL_law 2320 = .ok (.iadd, 1) := by decide +kernel
theorem ni_dL_law_2321 : decode cL_law 2321 = .ok (.iaload, 1) := by decide +kernel
theorem ni_dL_law_2322 : decode cL_law 2322 = .ok (.ifCond .eq 7, 3) := by decide +kernel
theorem ni_dL_law_2325 : decode cL_law 2325 = .ok (.iconst 1, 1) := by decide +kernel
theorem ni_dL_law_2326 : decode cL_law 2326 = .ok (.goto 4, 3) := by decide +kernel
theorem ni_dL_law_2329 : decode cL_law 2329 = .ok (.iconst 0, 1) := by decide +kernel
theorem ni_dL_law_2330 : decode cL_law 2330 = .ok (.invokevirtual 282, 3) := by decide +kernel
theorem ni_dL_law_2333 : decode cL_law 2333 = .ok (.istore 7, 2) := by decide +kernel
theorem ni_dL_law_2335 : decode cL_law 2335 = .ok (.aload_n 2, 1) := by decide +kernel
theorem ni_dL_law_2336 : decode cL_law 2336 = .ok (.invokevirtual 161, 3) := by decide +kernel
theorem ni_dL_law_2339 : decode cL_law 2339 = .ok (.iload 6, 2) := by decide +kernel
theorem ni_dL_law_2341 : decode cL_law 2341 = .ok (.if_icmp .eq 5, 3) := by decide +kernel
theorem ni_dL_law_2346 : decode cL_law 2346 = .ok (.iload 6, 2) := by decide +kernel
theorem ni_dL_law_2348 : decode cL_law 2348 = .ok (.ifCond .ne 15, 3) := by decide +kernel
theorem ni_dL_law_2363 : decode cL_law 2363 = .ok (.goto 954, 3) := by decide +kernel
theorem ni_dL_law_2366 : decode cL_law 2366 = .ok (.aload_n 1, 1) := by decide +kernel
theorem ni_dL_law_2367 : decode cL_law 2367 = .ok (.aload_n 0, 1) := by decide +kernel
theorem ni_dL_law_2368 : decode cL_law 2368 = .ok (.iload 5, 2) := by decide +kernel
theorem ni_dL_law_2370 : decode cL_law 2370 = .ok (.iconst 1, 1) := by decide +kernel
theorem ni_dL_law_2371 : decode cL_law 2371 = .ok (.iadd, 1) := by decide +kernel
theorem ni_dL_law_2372 : decode cL_law 2372 = .ok (.iaload, 1) := by decide +kernel
theorem ni_dL_law_2373 : decode cL_law 2373 = .ok (.aload_n 0, 1) := by decide +kernel
theorem ni_dL_law_2374 : decode cL_law 2374 = .ok (.iload 5, 2) := by decide +kernel
theorem ni_dL_law_2376 : decode cL_law 2376 = .ok (.iconst 2, 1) := by decide +kernel
theorem ni_dL_law_2377 : decode cL_law 2377 = .ok (.iadd, 1) := by decide +kernel
theorem ni_dL_law_2378 : decode cL_law 2378 = .ok (.iaload, 1) := by decide +kernel
theorem ni_dL_law_2379 : decode cL_law 2379 = .ok (.ifCond .eq 7, 3) := by decide +kernel
theorem ni_dL_law_2382 : decode cL_law 2382 = .ok (.iconst 1, 1) := by decide +kernel
theorem ni_dL_law_2383 : decode cL_law 2383 = .ok (.goto 4, 3) := by decide +kernel
theorem ni_dL_law_2386 : decode cL_law 2386 = .ok (.iconst 0, 1) := by decide +kernel
theorem ni_dL_law_2387 : decode cL_law 2387 = .ok (.aload_n 0, 1) := by decide +kernel
theorem ni_dL_law_2388 : decode cL_law 2388 = .ok (.iload 5, 2) := by decide +kernel
theorem ni_dL_law_2390 : decode cL_law 2390 = .ok (.iconst 3, 1) := by decide +kernel
theorem ni_dL_law_2391 : decode cL_law 2391 = .ok (.iadd, 1) := by decide +kernel
theorem ni_dL_law_2392 : decode cL_law 2392 = .ok (.iaload, 1) := by decide +kernel
theorem ni_dL_law_2393 : decode cL_law 2393 = .ok (.aload_n 3, 1) := by decide +kernel
theorem ni_dL_law_2394 : decode cL_law 2394 = .ok (.invokestatic 283, 3) := by decide +kernel
theorem ni_dL_law_2397 : decode cL_law 2397 = .ok (.istore 6, 2) := by decide +kernel
theorem ni_dL_law_2399 : decode cL_law 2399 = .ok (.aload_n 2, 1) := by decide +kernel
theorem ni_dL_law_2400 : decode cL_law 2400 = .ok (.aload_n 0, 1) := by decide +kernel
theorem ni_dL_law_2401 : decode cL_law 2401 = .ok (.iload 5, 2) := by decide +kernel
theorem ni_dL_law_2403 : decode cL_law 2403 = .ok (.iconst 1, 1) := by decide +kernel
theorem ni_dL_law_2404 : decode cL_law 2404 = .ok (.iadd, 1) := by decide +kernel
theorem ni_dL_law_2405 : decode cL_law 2405 = .ok (.iaload, 1) := by decide +kernel
theorem ni_dL_law_2406 : decode cL_law 2406 = .ok (.aload_n 0, 1) := by decide +kernel
theorem ni_dL_law_2407 : decode cL_law 2407 = .ok (.iload 5, 2) := by decide +kernel
theorem ni_dL_law_2409 : decode cL_law 2409 = .ok (.iconst 2, 1) := by decide +kernel
theorem ni_dL_law_2410 : decode cL_law 2410 = .ok (.iadd, 1) := by decide +kernel
theorem ni_dL_law_2411 : decode cL_law 2411 = .ok (.iaload, 1) := by decide +kernel
theorem ni_dL_law_2412 : decode cL_law 2412 = .ok (.ifCond .eq 7, 3) := by decide +kernel
theorem ni_dL_law_2415 : decode cL_law 2415 = .ok (.iconst 1, 1) := by decide +kernel
theorem ni_dL_law_2416 : decode cL_law 2416 = .ok (.goto 4, 3) := by decide +kernel
theorem ni_dL_law_2419 : decode cL_law 2419 = .ok (.iconst 0, 1) := by decide +kernel
theorem ni_dL_law_2420 : decode cL_law 2420 = .ok (.aload_n 0, 1) := by decide +kernel
theorem ni_dL_law_2421 : decode cL_law 2421 = .ok (.iload 5, 2) := by decide +kernel
theorem ni_dL_law_2423 : decode cL_law 2423 = .ok (.iconst 3, 1) := by decide +kernel
theorem ni_dL_law_2424 : decode cL_law 2424 = .ok (.iadd, 1) := by decide +kernel
theorem ni_dL_law_2425 : decode cL_law 2425 = .ok (.iaload, 1) := by decide +kernel
theorem ni_dL_law_2426 : decode cL_law 2426 = .ok (.invokevirtual 286, 3) := by decide +kernel
theorem ni_dL_law_2429 : decode cL_law 2429 = .ok (.istore 7, 2) := by decide +kernel
theorem ni_dL_law_2431 : decode cL_law 2431 = .ok (.aload_n 2, 1) := by decide +kernel
theorem ni_dL_law_2432 : decode cL_law 2432 = .ok (.invokevirtual 161, 3) := by decide +kernel
theorem ni_dL_law_2435 : decode cL_law 2435 = .ok (.iload 6, 2) := by decide +kernel
theorem ni_dL_law_2437 : decode cL_law 2437 = .ok (.if_icmp .eq 5, 3) := by decide +kernel
theorem ni_dL_law_2442 : decode cL_law 2442 = .ok (.iload 6, 2) := by decide +kernel
theorem ni_dL_law_2444 : decode cL_law 2444 = .ok (.ifCond .ne 15, 3) := by decide +kernel
theorem ni_dL_law_2459 : decode cL_law 2459 = .ok (.goto 858, 3) := by decide +kernel
theorem ni_dL_law_2462 : decode cL_law 2462 = .ok (.aload_n 1, 1) := by decide +kernel
theorem ni_dL_law_2463 : decode cL_law 2463 = .ok (.aload_n 0, 1) := by decide +kernel
theorem ni_dL_law_2464 : decode cL_law 2464 = .ok (.iload 5, 2) := by decide +kernel
theorem ni_dL_law_2466 : decode cL_law 2466 = .ok (.iconst 1, 1) := by decide +kernel
theorem ni_dL_law_2467 : decode cL_law 2467 = .ok (.iadd, 1) := by decide +kernel
theorem ni_dL_law_2468 : decode cL_law 2468 = .ok (.iaload, 1) := by decide +kernel
theorem ni_dL_law_2469 : decode cL_law 2469 = .ok (.aload_n 0, 1) := by decide +kernel
theorem ni_dL_law_2470 : decode cL_law 2470 = .ok (.iload 5, 2) := by decide +kernel
theorem ni_dL_law_2472 : decode cL_law 2472 = .ok (.iconst 2, 1) := by decide +kernel
theorem ni_dL_law_2473 : decode cL_law 2473 = .ok (.iadd, 1) := by decide +kernel
theorem ni_dL_law_2474 : decode cL_law 2474 = .ok (.iaload, 1) := by decide +kernel
theorem ni_dL_law_2475 : decode cL_law 2475 = .ok (.ifCond .eq 7, 3) := by decide +kernel
theorem ni_dL_law_2478 : decode cL_law 2478 = .ok (.iconst 1, 1) := by decide +kernel
theorem ni_dL_law_2479 : decode cL_law 2479 = .ok (.goto 4, 3) := by decide +kernel
theorem ni_dL_law_2482 : decode cL_law 2482 = .ok (.iconst 0, 1) := by decide +kernel
theorem ni_dL_law_2483 : decode cL_law 2483 = .ok (.aload_n 3, 1) := by decide +kernel
theorem ni_dL_law_2484 : decode cL_law 2484 = .ok (.invokestatic 287, 3) := by decide +kernel
theorem ni_dL_law_2487 : decode cL_law 2487 = .ok (.istore 6, 2) := by decide +kernel
theorem ni_dL_law_2489 : decode cL_law 2489 = .ok (.aload_n 2, 1) := by decide +kernel
theorem ni_dL_law_2490 : decode cL_law 2490 = .ok (.aload_n 0, 1) := by decide +kernel
theorem ni_dL_law_2491 : decode cL_law 2491 = .ok (.iload 5, 2) := by decide +kernel
theorem ni_dL_law_2493 : decode cL_law 2493 = .ok (.iconst 1, 1) := by decide +kernel
theorem ni_dL_law_2494 : decode cL_law 2494 = .ok (.iadd, 1) := by decide +kernel
theorem ni_dL_law_2495 : decode cL_law 2495 = .ok (.iaload, 1) := by decide +kernel
theorem ni_dL_law_2496 : decode cL_law 2496 = .ok (.aload_n 0, 1) := by decide +kernel
theorem ni_dL_law_2497 : decode cL_law 2497 = .ok (.iload 5, 2) := by decide +kernel
theorem ni_dL_law_2499 : decode cL_law 2499 = .ok (.iconst 2, 1) := by decide +kernel
theorem ni_dL_law_2500 : decode cL_law 2500 = .ok (.iadd, 1) := by decide +kernel
theorem ni_dL_law_2501 : decode cL_law 2501 = .ok (.iaload, 1) := by decide +kernel
theorem ni_dL_law_2502 : decode cL_law 2502 = .ok (.ifCond .eq 7, 3) := by decide +kernel
theorem ni_dL_law_2505 : decode cL_law 2505 = .ok (.iconst 1, 1) := by decide +kernel
theorem ni_dL_law_2506 : decode cL_law 2506 = .ok (.goto 4, 3) := by decide +kernel
theorem ni_dL_law_2509 : decode cL_law 2509 = .ok (.iconst 0, 1) := by decide +kernel
theorem ni_dL_law_2510 : decode cL_law 2510 = .ok (.invokevirtual 289, 3) := by decide +kernel
theorem ni_dL_law_2513 : decode cL_law 2513 = .ok (.istore 7, 2) := by decide +kernel
theorem ni_dL_law_2515 : decode cL_law 2515 = .ok (.aload_n 2, 1) := by decide +kernel
theorem ni_dL_law_2516 : decode cL_law 2516 = .ok (.invokevirtual 161, 3) := by decide +kernel
theorem ni_dL_law_2519 : decode cL_law 2519 = .ok (.iload 6, 2) := by decide +kernel
theorem ni_dL_law_2521 : decode cL_law 2521 = .ok (.if_icmp .eq 5, 3) := by decide +kernel
theorem ni_dL_law_2526 : decode cL_law 2526 = .ok (.iload 6, 2) := by decide +kernel
theorem ni_dL_law_2528 : decode cL_law 2528 = .ok (.ifCond .ne 15, 3) := by decide +kernel
theorem ni_dL_law_2543 : decode cL_law 2543 = .ok (.goto 774, 3) := by decide +kernel
theorem ni_dL_law_2546 : decode cL_law 2546 = .ok (.aload_n 1, 1) := by decide +kernel
theorem ni_dL_law_2547 : decode cL_law 2547 = .ok (.aload_n 0, 1) := by decide +kernel
theorem ni_dL_law_2548 : decode cL_law 2548 = .ok (.iload 5, 2) := by decide +kernel
theorem ni_dL_law_2550 : decode cL_law 2550 = .ok (.iconst 1, 1) := by decide +kernel
theorem ni_dL_law_2551 : decode cL_law 2551 = .ok (.iadd, 1) := by decide +kernel
theorem ni_dL_law_2552 : decode cL_law 2552 = .ok (.iaload, 1) := by decide +kernel
end
section
theorem ni_dL_law_2553 : decode cL_law 2553 = .ok (.aload_n 0, 1) := by decide +kernel
theorem ni_dL_law_2554 : decode cL_law 2554 = .ok (.iload 5, 2) := by decide +kernel
theorem ni_dL_law_2556 : decode cL_law 2556 = .ok (.iconst 2, 1) := by decide +kernel
theorem ni_dL_law_2557 : decode cL_law 2557 = .ok (.iadd, 1) := by decide +kernel
theorem ni_dL_law_2558 : decode cL_law 2558 = .ok (.iaload, 1) := by decide +kernel
theorem ni_dL_law_2559 : decode cL_law 2559 = .ok (.ifCond .eq 7, 3) := by decide +kernel
theorem ni_dL_law_2562 : decode cL_law 2562 = .ok (.iconst 1, 1) := by decide +kernel
theorem ni_dL_law_2563 : decode cL_law 2563 = .ok (.goto 4, 3) := by decide +kernel
theorem ni_dL_law_2566 : decode cL_law 2566 = .ok (.iconst 0, 1) := by decide +kernel
theorem ni_dL_law_2567 : decode cL_law 2567 = .ok (.aload_n 0, 1) := by decide +kernel
theorem ni_dL_law_2568 : decode cL_law 2568 = .ok (.iload 5, 2) := by decide +kernel
theorem ni_dL_law_2570 : decode cL_law 2570 = .ok (.iconst 3, 1) := by decide +kernel
theorem ni_dL_law_2571 : decode cL_law 2571 = .ok (.iadd, 1) := by decide +kernel
theorem ni_dL_law_2572 : decode cL_law 2572 = .ok (.iaload, 1) := by decide +kernel
theorem ni_dL_law_2573 : decode cL_law 2573 = .ok (.aload_n 3, 1) := by decide +kernel
theorem ni_dL_law_2574 : decode cL_law 2574 = .ok (.invokestatic 290, 3) := by decide +kernel
theorem ni_dL_law_2577 : decode cL_law 2577 = .ok (.istore 6, 2) := by decide +kernel
theorem ni_dL_law_2579 : decode cL_law 2579 = .ok (.aload_n 2, 1) := by decide +kernel
theorem ni_dL_law_2580 : decode cL_law 2580 = .ok (.aload_n 0, 1) := by decide +kernel
theorem ni_dL_law_2581 : decode cL_law 2581 = .ok (.iload 5, 2) := by decide +kernel
theorem ni_dL_law_2583 : decode cL_law 2583 = .ok (.iconst 1, 1) := by decide +kernel
theorem ni_dL_law_2584 : decode cL_law 2584 = .ok (.iadd, 1) := by decide +kernel
theorem ni_dL_law_2585 : decode cL_law 2585 = .ok (.iaload, 1) := by decide +kernel
theorem ni_dL_law_2586 : decode cL_law 2586 = .ok (.aload_n 0, 1) := by decide +kernel
theorem ni_dL_law_2587 : decode cL_law 2587 = .ok (.iload 5, 2) := by decide +kernel
theorem ni_dL_law_2589 : decode cL_law 2589 = .ok (.iconst 2, 1) := by decide +kernel
theorem ni_dL_law_2590 : decode cL_law 2590 = .ok (.iadd, 1) := by decide +kernel
theorem ni_dL_law_2591 : decode cL_law 2591 = .ok (.iaload, 1) := by decide +kernel
theorem ni_dL_law_2592 : decode cL_law 2592 = .ok (.ifCond .eq 7, 3) := by decide +kernel
theorem ni_dL_law_2595 : decode cL_law 2595 = .ok (.iconst 1, 1) := by decide +kernel
theorem ni_dL_law_2596 : decode cL_law 2596 = .ok (.goto 4, 3) := by decide +kernel
theorem ni_dL_law_2599 : decode cL_law 2599 = .ok (.iconst 0, 1) := by decide +kernel
theorem ni_dL_law_2600 : decode cL_law 2600 = .ok (.aload_n 0, 1) := by decide +kernel
theorem ni_dL_law_2601 : decode cL_law 2601 = .ok (.iload 5, 2) := by decide +kernel
theorem ni_dL_law_2603 : decode cL_law 2603 = .ok (.iconst 3, 1) := by decide +kernel
theorem ni_dL_law_2604 : decode cL_law 2604 = .ok (.iadd, 1) := by decide +kernel
theorem ni_dL_law_2605 : decode cL_law 2605 = .ok (.iaload, 1) := by decide +kernel
theorem ni_dL_law_2606 : decode cL_law 2606 = .ok (.invokevirtual 292, 3) := by decide +kernel
theorem ni_dL_law_2609 : decode cL_law 2609 = .ok (.istore 7, 2) := by decide +kernel
theorem ni_dL_law_2611 : decode cL_law 2611 = .ok (.aload_n 2, 1) := by decide +kernel
theorem ni_dL_law_2612 : decode cL_law 2612 = .ok (.invokevirtual 161, 3) := by decide +kernel
theorem ni_dL_law_2615 : decode cL_law 2615 = .ok (.iload 6, 2) := by decide +kernel
theorem ni_dL_law_2617 : decode cL_law 2617 = .ok (.if_icmp .eq 5, 3) := by decide +kernel
theorem ni_dL_law_2622 : decode cL_law 2622 = .ok (.iload 6, 2) := by decide +kernel
theorem ni_dL_law_2624 : decode cL_law 2624 = .ok (.ifCond .ne 15, 3) := by decide +kernel
theorem ni_dL_law_2639 : decode cL_law 2639 = .ok (.goto 678, 3) := by decide +kernel
theorem ni_dL_law_2642 : decode cL_law 2642 = .ok (.aload_n 1, 1) := by decide +kernel
theorem ni_dL_law_2643 : decode cL_law 2643 = .ok (.aload_n 0, 1) := by decide +kernel
theorem ni_dL_law_2644 : decode cL_law 2644 = .ok (.iload 5, 2) := by decide +kernel
theorem ni_dL_law_2646 : decode cL_law 2646 = .ok (.iconst 1, 1) := by decide +kernel
theorem ni_dL_law_2647 : decode cL_law 2647 = .ok (.iadd, 1) := by decide +kernel
theorem ni_dL_law_2648 : decode cL_law 2648 = .ok (.iaload, 1) := by decide +kernel
theorem ni_dL_law_2649 : decode cL_law 2649 = .ok (.aload_n 3, 1) := by decide +kernel
theorem ni_dL_law_2650 : decode cL_law 2650 = .ok (.invokestatic 293, 3) := by decide +kernel
theorem ni_dL_law_2653 : decode cL_law 2653 = .ok (.istore 6, 2) := by decide +kernel
theorem ni_dL_law_2655 : decode cL_law 2655 = .ok (.aload_n 2, 1) := by decide +kernel
theorem ni_dL_law_2656 : decode cL_law 2656 = .ok (.aload_n 0, 1) := by decide +kernel
theorem ni_dL_law_2657 : decode cL_law 2657 = .ok (.iload 5, 2) := by decide +kernel
theorem ni_dL_law_2659 : decode cL_law 2659 = .ok (.iconst 1, 1) := by decide +kernel
theorem ni_dL_law_2660 : decode cL_law 2660 = .ok (.iadd, 1) := by decide +kernel
theorem ni_dL_law_2661 : decode cL_law 2661 = .ok (.iaload, 1) := by decide +kernel
theorem ni_dL_law_2662 : decode cL_law 2662 = .ok (.invokevirtual 295, 3) := by decide +kernel
theorem ni_dL_law_2665 : decode cL_law 2665 = .ok (.istore 7, 2) := by decide +kernel
theorem ni_dL_law_2667 : decode cL_law 2667 = .ok (.aload_n 2, 1) := by decide +kernel
theorem ni_dL_law_2668 : decode cL_law 2668 = .ok (.invokevirtual 161, 3) := by decide +kernel
theorem ni_dL_law_2671 : decode cL_law 2671 = .ok (.iload 6, 2) := by decide +kernel
theorem ni_dL_law_2673 : decode cL_law 2673 = .ok (.if_icmp .eq 5, 3) := by decide +kernel
theorem ni_dL_law_2678 : decode cL_law 2678 = .ok (.iload 6, 2) := by decide +kernel
theorem ni_dL_law_2680 : decode cL_law 2680 = .ok (.ifCond .ne 15, 3) := by decide +kernel
theorem ni_dL_law_2695 : decode cL_law 2695 = .ok (.goto 622, 3) := by decide +kernel
theorem ni_dL_law_2698 : decode cL_law 2698 = .ok (.aload_n 1, 1) := by decide +kernel
theorem ni_dL_law_2699 : decode cL_law 2699 = .ok (.aload_n 0, 1) := by decide +kernel
theorem ni_dL_law_2700 : decode cL_law 2700 = .ok (.iload 5, 2) := by decide +kernel
theorem ni_dL_law_2702 : decode cL_law 2702 = .ok (.iconst 1, 1) := by decide +kernel
theorem ni_dL_law_2703 : decode cL_law 2703 = .ok (.iadd, 1) := by decide +kernel
theorem ni_dL_law_2704 : decode cL_law 2704 = .ok (.iaload, 1) := by decide +kernel
theorem ni_dL_law_2705 : decode cL_law 2705 = .ok (.aload_n 3, 1) := by decide +kernel
theorem ni_dL_law_2706 : decode cL_law 2706 = .ok (.invokestatic 296, 3) := by decide +kernel
theorem ni_dL_law_2709 : decode cL_law 2709 = .ok (.istore 6, 2) := by decide +kernel
theorem ni_dL_law_2711 : decode cL_law 2711 = .ok (.aload_n 2, 1) := by decide +kernel
theorem ni_dL_law_2712 : decode cL_law 2712 = .ok (.aload_n 0, 1) := by decide +kernel
theorem ni_dL_law_2713 : decode cL_law 2713 = .ok (.iload 5, 2) := by decide +kernel
theorem ni_dL_law_2715 : decode cL_law 2715 = .ok (.iconst 1, 1) := by decide +kernel
theorem ni_dL_law_2716 : decode cL_law 2716 = .ok (.iadd, 1) := by decide +kernel
theorem ni_dL_law_2717 : decode cL_law 2717 = .ok (.iaload, 1) := by decide +kernel
theorem ni_dL_law_2718 : decode cL_law 2718 = .ok (.invokevirtual 298, 3) := by decide +kernel
theorem ni_dL_law_2721 : decode cL_law 2721 = .ok (.istore 7, 2) := by decide +kernel
theorem ni_dL_law_2723 : decode cL_law 2723 = .ok (.aload_n 2, 1) := by decide +kernel
theorem ni_dL_law_2724 : decode cL_law 2724 = .ok (.invokevirtual 161, 3) := by decide +kernel
theorem ni_dL_law_2727 : decode cL_law 2727 = .ok (.iload 6, 2) := by decide +kernel
theorem ni_dL_law_2729 : decode cL_law 2729 = .ok (.if_icmp .eq 5, 3) := by decide +kernel
theorem ni_dL_law_2734 : decode cL_law 2734 = .ok (.iload 6, 2) := by decide +kernel
theorem ni_dL_law_2736 : decode cL_law 2736 = .ok (.ifCond .ne 15, 3) := by decide +kernel
theorem ni_dL_law_2751 : decode cL_law 2751 = .ok (.goto 566, 3) := by decide +kernel
theorem ni_dL_law_2754 : decode cL_law 2754 = .ok (.aload_n 1, 1) := by decide +kernel
theorem ni_dL_law_2755 : decode cL_law 2755 = .ok (.aload_n 0, 1) := by decide +kernel
theorem ni_dL_law_2756 : decode cL_law 2756 = .ok (.iload 5, 2) := by decide +kernel
theorem ni_dL_law_2758 : decode cL_law 2758 = .ok (.iconst 1, 1) := by decide +kernel
theorem ni_dL_law_2759 : decode cL_law 2759 = .ok (.iadd, 1) := by decide +kernel
theorem ni_dL_law_2760 : decode cL_law 2760 = .ok (.iaload, 1) := by decide +kernel
theorem ni_dL_law_2761 : decode cL_law 2761 = .ok (.aload_n 3, 1) := by decide +kernel
theorem ni_dL_law_2762 : decode cL_law 2762 = .ok (.invokestatic 299, 3) := by decide +kernel
theorem ni_dL_law_2765 : decode cL_law 2765 = .ok (.istore 6, 2) := by decide +kernel
theorem ni_dL_law_2767 : decode cL_law 2767 = .ok (.aload_n 2, 1) := by decide +kernel
theorem ni_dL_law_2768 : decode cL_law 2768 = .ok (.aload_n 0, 1) := by decide +kernel
theorem ni_dL_law_2769 : decode cL_law 2769 = .ok (.iload 5, 2) := by decide +kernel
theorem ni_dL_law_2771 : decode cL_law 2771 = .ok (.iconst 1, 1) := by decide +kernel
theorem ni_dL_law_2772 : decode cL_law 2772 = .ok (.iadd, 1) := by decide +kernel
theorem ni_dL_law_2773 : decode cL_law 2773 = .ok (.iaload, 1) := by decide +kernel
theorem ni_dL_law_2774 : decode cL_law 2774 = .ok (.invokevirtual 301, 3) := by decide +kernel
theorem ni_dL_law_2777 : decode cL_law 2777 = .ok (.istore 7, 2) := by decide +kernel
theorem ni_dL_law_2779 : decode cL_law 2779 = .ok (.aload_n 2, 1) := by decide +kernel
theorem ni_dL_law_2780 : decode cL_law 2780 = .ok (.invokevirtual 161, 3) := by decide +kernel
theorem ni_dL_law_2783 : decode cL_law 2783 = .ok (.iload 6, 2) := by decide +kernel
theorem ni_dL_law_2785 : decode cL_law 2785 = .ok (.if_icmp .eq 5, 3) := by decide +kernel
theorem ni_dL_law_2790 : decode cL_law 2790 = .ok (.iload 6, 2) := by decide +kernel
theorem ni_dL_law_2792 : decode cL_law 2792 = .ok (.ifCond .ne 15, 3) := by decide +kernel
theorem ni_dL_law_2807 : decode cL_law 2807 = .ok (.goto 510, 3) := by decide +kernel
theorem ni_dL_law_2810 : decode cL_law 2810 = .ok (.aload_n 1, 1) := by decide +kernel
theorem ni_dL_law_2811 : decode cL_law 2811 = .ok (.aload_n 0, 1) := by decide +kernel
theorem ni_dL_law_2812 : decode cL_law 2812 = .ok (.iload 5, 2) := by decide +kernel
theorem ni_dL_law_2814 : decode cL_law 2814 = .ok (.iconst 1, 1) := by decide +kernel
theorem ni_dL_law_2815 : decode cL_law 2815 = .ok (.iadd, 1) := by decide +kernel
theorem ni_dL_law_2816 : decode cL_law 2816 = .ok (.iaload, 1) := by decide +kernel
theorem ni_dL_law_2817 : decode cL_law 2817 = .ok (.aload_n 3, 1) := by decide +kernel
theorem ni_dL_law_2818 : decode cL_law 2818 = .ok (.invokestatic 302, 3) := by decide +kernel
theorem ni_dL_law_2821 : decode cL_law 2821 = .ok (.istore 6, 2) := by decide +kernel
theorem ni_dL_law_2823 : decode cL_law 2823 = .ok (.aload_n 2, 1) := by decide +kernel
theorem ni_dL_law_2824 : decode cL_law 2824 = .ok (.aload_n 0, 1) := by decide +kernel
theorem ni_dL_law_2825 : decode cL_law 2825 = .ok (.iload 5, 2) := by decide +kernel
theorem ni_dL_law_2827 : decode cL_law 2827 = .ok (.iconst 1, 1) := by decide +kernel
theorem ni_dL_law_2828 : decode cL_law 2828 = .ok (.iadd, 1) := by decide +kernel
theorem ni_dL_law_2829 : decode cL_law 2829 = .ok (.iaload, 1) := by decide +kernel
theorem ni_dL_law_2830 : decode cL_law 2830 = .ok (.invokevirtual 304, 3) := by decide +kernel
theorem ni_dL_law_2833 : decode cL_law 2833 = .ok (.istore 7, 2) := by decide +kernel
theorem ni_dL_law_2835 : decode cL_law 2835 = .ok (.aload_n 2, 1) := by decide +kernel
theorem ni_dL_law_2836 : decode cL_law 2836 = .ok (.invokevirtual 161, 3) := by decide +kernel
theorem ni_dL_law_2839 : decode cL_law 2839 = .ok (.iload 6, 2) := by decide +kernel
theorem ni_dL_law_2841 : decode cL_law 2841 = .ok (.if_icmp .eq 5, 3) := by decide +kernel
theorem ni_dL_law_2846 : decode cL_law 2846 = .ok (.iload 6, 2) := by decide +kernel
theorem ni_dL_law_2848 : decode cL_law 2848 = .ok (.ifCond .ne 15, 3) := by decide +kernel
theorem ni_dL_law_2863 : decode cL_law 2863 = .ok (.goto 454, 3) := by decide +kernel
theorem ni_dL_law_2866 : decode cL_law 2866 = .ok (.aload_n 1, 1) := by decide +kernel
theorem ni_dL_law_2867 : decode cL_law 2867 = .ok (.aload_n 0, 1) := by decide +kernel
theorem ni_dL_law_2868 : decode cL_law 2868 = .ok (.iload 5, 2) := by decide +kernel
theorem ni_dL_law_2870 : decode cL_law 2870 = .ok (.iconst 1, 1) := by decide +kernel
theorem ni_dL_law_2871 : decode cL_law 2871 = .ok (.iadd, 1) := by decide +kernel
theorem ni_dL_law_2872 : decode cL_law 2872 = .ok (.iaload, 1) := by decide +kernel
theorem ni_dL_law_2873 : decode cL_law 2873 = .ok (.aload_n 3, 1) := by decide +kernel
theorem ni_dL_law_2874 : decode cL_law 2874 = .ok (.invokestatic 305, 3) := by decide +kernel
theorem ni_dL_law_2877 : decode cL_law 2877 = .ok (.istore 6, 2) := by decide +kernel
theorem ni_dL_law_2879 : decode cL_law 2879 = .ok (.aload_n 2, 1) := by decide +kernel
theorem ni_dL_law_2880 : decode cL_law 2880 = .ok (.aload_n 0, 1) := by decide +kernel
theorem ni_dL_law_2881 : decode cL_law 2881 = .ok (.iload 5, 2) := by decide +kernel
theorem ni_dL_law_2883 : decode cL_law 2883 = .ok (.iconst 1, 1) := by decide +kernel
theorem ni_dL_law_2884 : decode cL_law 2884 = .ok (.iadd, 1) := by decide +kernel
theorem ni_dL_law_2885 : decode cL_law 2885 = .ok (.iaload, 1) := by decide +kernel
theorem ni_dL_law_2886 : decode cL_law 2886 = .ok (.invokevirtual 307, 3) := by decide +kernel
theorem ni_dL_law_2889 : decode cL_law 2889 = .ok (.istore 7, 2) := by decide +kernel
theorem ni_dL_law_2891 : decode cL_law 2891 = .ok (.aload_n 2, 1) := by decide +kernel
theorem ni_dL_law_2892 : decode cL_law 2892 = .ok (.invokevirtual 161, 3) := by decide +kernel
theorem ni_dL_law_2895 : decode cL_law 2895 = .ok (.iload 6, 2) := by decide +kernel
theorem ni_dL_law_2897 : decode cL_law 2897 = .ok (.if_icmp .eq 5, 3) := by decide +kernel
theorem ni_dL_law_2902 : decode cL_law 2902 = .ok (.iload 6, 2) := by decide +kernel
theorem ni_dL_law_2904 : decode cL_law 2904 = .ok (.ifCond .ne 15, 3) := by decide +kernel
theorem ni_dL_law_2919 : decode cL_law 2919 = .ok (.goto 398, 3) := by decide +kernel
theorem ni_dL_law_2922 : decode cL_law 2922 = .ok (.aload_n 1, 1) := by decide +kernel
theorem ni_dL_law_2923 : decode cL_law 2923 = .ok (.aload_n 0, 1) := by decide +kernel
theorem ni_dL_law_2924 : decode cL_law 2924 = .ok (.iload 5, 2) := by decide +kernel
theorem ni_dL_law_2926 : decode cL_law 2926 = .ok (.iconst 1, 1) := by decide +kernel
theorem ni_dL_law_2927 : decode cL_law 2927 = .ok (.iadd, 1) := by decide +kernel
theorem ni_dL_law_2928 : decode cL_law 2928 = .ok (.iaload, 1) := by decide +kernel
theorem ni_dL_law_2929 : decode cL_law 2929 = .ok (.aload_n 0, 1) := by decide +kernel
theorem ni_dL_law_2930 : decode cL_law 2930 = .ok (.iload 5, 2) := by decide +kernel
theorem ni_dL_law_2932 : decode cL_law 2932 = .ok (.iconst 2, 1) := by decide +kernel
theorem ni_dL_law_2933 : decode cL_law 2933 = .ok (.iadd, 1) := by decide +kernel
theorem ni_dL_law_2934 : decode cL_law 2934 = .ok (.iaload, 1) := by decide +kernel
theorem ni_dL_law_2935 : decode cL_law 2935 = .ok (.aload_n 3, 1) := by decide +kernel
theorem ni_dL_law_2936 : decode cL_law 2936 = .ok (.invokestatic 308, 3) := by decide +kernel
theorem ni_dL_law_2939 : decode cL_law 2939 = .ok (.istore 6, 2) := by decide +kernel
theorem ni_dL_law_2941 : decode cL_law 2941 = .ok (.aload_n 2, 1) := by decide +kernel
theorem ni_dL_law_2942 : decode cL_law 2942 = .ok (.aload_n 0, 1) := by decide +kernel
theorem ni_dL_law_2943 : decode cL_law 2943 = .ok (.iload 5, 2) := by decide +kernel
theorem ni_dL_law_2945 : decode cL_law 2945 = .ok (.iconst 1, 1) := by decide +kernel
theorem ni_dL_law_2946 : decode cL_law 2946 = .ok (.iadd, 1) := by decide +kernel
theorem ni_dL_law_2947 : decode cL_law 2947 = .ok (.iaload, 1) := by decide +kernel
theorem ni_dL_law_2948 : decode cL_law 2948 = .ok (.aload_n 0, 1) := by decide +kernel
theorem ni_dL_law_2949 : decode cL_law 2949 = .ok (.iload 5, 2) := by decide +kernel
theorem ni_dL_law_2951 : decode cL_law 2951 = .ok (.iconst 2, 1) := by decide +kernel
theorem ni_dL_law_2952 : decode cL_law 2952 = .ok (.iadd, 1) := by decide +kernel
theorem ni_dL_law_2953 : decode cL_law 2953 = .ok (.iaload, 1) := by decide +kernel
theorem ni_dL_law_2954 : decode cL_law 2954 = .ok (.invokevirtual 310, 3) := by decide +kernel
theorem ni_dL_law_2957 : decode cL_law 2957 = .ok (.istore 7, 2) := by decide +kernel
theorem ni_dL_law_2959 : decode cL_law 2959 = .ok (.aload_n 2, 1) := by decide +kernel
theorem ni_dL_law_2960 : decode cL_law 2960 = .ok (.invokevirtual 161, 3) := by decide +kernel
theorem ni_dL_law_2963 : decode cL_law 2963 = .ok (.iload 6, 2) := by decide +kernel
theorem ni_dL_law_2965 : decode cL_law 2965 = .ok (.if_icmp .eq 5, 3) := by decide +kernel
theorem ni_dL_law_2970 : decode cL_law 2970 = .ok (.iload 6, 2) := by decide +kernel
theorem ni_dL_law_2972 : decode cL_law 2972 = .ok (.ifCond .ne 15, 3) := by decide +kernel
theorem ni_dL_law_2987 : decode cL_law 2987 = .ok (.goto 330, 3) := by decide +kernel
end
section
theorem ni_dL_law_2990 : decode cL_law 2990 = .ok (.aload_n 1, 1) := by decide +kernel
theorem ni_dL_law_2991 : decode cL_law 2991 = .ok (.aload_n 0, 1) := by decide +kernel
theorem ni_dL_law_2992 : decode cL_law 2992 = .ok (.iload 5, 2) := by decide +kernel
theorem ni_dL_law_2994 : decode cL_law 2994 = .ok (.iconst 1, 1) := by decide +kernel
theorem ni_dL_law_2995 : decode cL_law 2995 = .ok (.iadd, 1) := by decide +kernel
theorem ni_dL_law_2996 : decode cL_law 2996 = .ok (.iaload, 1) := by decide +kernel
theorem ni_dL_law_2997 : decode cL_law 2997 = .ok (.aload_n 3, 1) := by decide +kernel
theorem ni_dL_law_2998 : decode cL_law 2998 = .ok (.invokestatic 311, 3) := by decide +kernel
theorem ni_dL_law_3001 : decode cL_law 3001 = .ok (.istore 6, 2) := by decide +kernel
theorem ni_dL_law_3003 : decode cL_law 3003 = .ok (.aload_n 2, 1) := by decide +kernel
theorem ni_dL_law_3004 : decode cL_law 3004 = .ok (.aload_n 0, 1) := by decide +kernel
theorem ni_dL_law_3005 : decode cL_law 3005 = .ok (.iload 5, 2) := by decide +kernel
theorem ni_dL_law_3007 : decode cL_law 3007 = .ok (.iconst 1, 1) := by decide +kernel
theorem ni_dL_law_3008 : decode cL_law 3008 = .ok (.iadd, 1) := by decide +kernel
theorem ni_dL_law_3009 : decode cL_law 3009 = .ok (.iaload, 1) := by decide +kernel
theorem ni_dL_law_3010 : decode cL_law 3010 = .ok (.invokevirtual 313, 3) := by decide +kernel
theorem ni_dL_law_3013 : decode cL_law 3013 = .ok (.istore 7, 2) := by decide +kernel
theorem ni_dL_law_3015 : decode cL_law 3015 = .ok (.aload_n 2, 1) := by decide +kernel
theorem ni_dL_law_3016 : decode cL_law 3016 = .ok (.invokevirtual 161, 3) := by decide +kernel
theorem ni_dL_law_3019 : decode cL_law 3019 = .ok (.iload 6, 2) := by decide +kernel
theorem ni_dL_law_3021 : decode cL_law 3021 = .ok (.if_icmp .eq 5, 3) := by decide +kernel
theorem ni_dL_law_3026 : decode cL_law 3026 = .ok (.iload 6, 2) := by decide +kernel
theorem ni_dL_law_3028 : decode cL_law 3028 = .ok (.ifCond .ne 15, 3) := by decide +kernel
theorem ni_dL_law_3043 : decode cL_law 3043 = .ok (.goto 274, 3) := by decide +kernel
theorem ni_dL_law_3046 : decode cL_law 3046 = .ok (.aload_n 1, 1) := by decide +kernel
theorem ni_dL_law_3047 : decode cL_law 3047 = .ok (.aload_n 0, 1) := by decide +kernel
theorem ni_dL_law_3048 : decode cL_law 3048 = .ok (.iload 5, 2) := by decide +kernel
theorem ni_dL_law_3050 : decode cL_law 3050 = .ok (.iconst 1, 1) := by decide +kernel
theorem ni_dL_law_3051 : decode cL_law 3051 = .ok (.iadd, 1) := by decide +kernel
theorem ni_dL_law_3052 : decode cL_law 3052 = .ok (.iaload, 1) := by decide +kernel
theorem ni_dL_law_3053 : decode cL_law 3053 = .ok (.aload 4, 2) := by decide +kernel
theorem ni_dL_law_3055 : decode cL_law 3055 = .ok (.invokestatic 314, 3) := by decide +kernel
theorem ni_dL_law_3058 : decode cL_law 3058 = .ok (.istore 6, 2) := by decide +kernel
theorem ni_dL_law_3060 : decode cL_law 3060 = .ok (.aload_n 2, 1) := by decide +kernel
theorem ni_dL_law_3061 : decode cL_law 3061 = .ok (.aload_n 0, 1) := by decide +kernel
theorem ni_dL_law_3062 : decode cL_law 3062 = .ok (.iload 5, 2) := by decide +kernel
theorem ni_dL_law_3064 : decode cL_law 3064 = .ok (.iconst 1, 1) := by decide +kernel
theorem ni_dL_law_3065 : decode cL_law 3065 = .ok (.iadd, 1) := by decide +kernel
theorem ni_dL_law_3066 : decode cL_law 3066 = .ok (.iaload, 1) := by decide +kernel
theorem ni_dL_law_3067 : decode cL_law 3067 = .ok (.invokevirtual 317, 3) := by decide +kernel
theorem ni_dL_law_3070 : decode cL_law 3070 = .ok (.dstore 7, 2) := by decide +kernel
theorem ni_dL_law_3072 : decode cL_law 3072 = .ok (.aload_n 2, 1) := by decide +kernel
theorem ni_dL_law_3073 : decode cL_law 3073 = .ok (.invokevirtual 161, 3) := by decide +kernel
theorem ni_dL_law_3076 : decode cL_law 3076 = .ok (.iload 6, 2) := by decide +kernel
theorem ni_dL_law_3078 : decode cL_law 3078 = .ok (.if_icmp .eq 5, 3) := by decide +kernel
theorem ni_dL_law_3083 : decode cL_law 3083 = .ok (.iload 6, 2) := by decide +kernel
theorem ni_dL_law_3085 : decode cL_law 3085 = .ok (.ifCond .ne 35, 3) := by decide +kernel
theorem ni_dL_law_3120 : decode cL_law 3120 = .ok (.goto 197, 3) := by decide +kernel
theorem ni_dL_law_3123 : decode cL_law 3123 = .ok (.aload_n 1, 1) := by decide +kernel
theorem ni_dL_law_3124 : decode cL_law 3124 = .ok (.aload_n 0, 1) := by decide +kernel
theorem ni_dL_law_3125 : decode cL_law 3125 = .ok (.iload 5, 2) := by decide +kernel
theorem ni_dL_law_3127 : decode cL_law 3127 = .ok (.iconst 1, 1) := by decide +kernel
theorem ni_dL_law_3128 : decode cL_law 3128 = .ok (.iadd, 1) := by decide +kernel
theorem ni_dL_law_3129 : decode cL_law 3129 = .ok (.iaload, 1) := by decide +kernel
theorem ni_dL_law_3130 : decode cL_law 3130 = .ok (.aload_n 3, 1) := by decide +kernel
theorem ni_dL_law_3131 : decode cL_law 3131 = .ok (.invokestatic 318, 3) := by decide +kernel
theorem ni_dL_law_3134 : decode cL_law 3134 = .ok (.istore 6, 2) := by decide +kernel
theorem ni_dL_law_3136 : decode cL_law 3136 = .ok (.aload_n 2, 1) := by decide +kernel
theorem ni_dL_law_3137 : decode cL_law 3137 = .ok (.aload_n 0, 1) := by decide +kernel
theorem ni_dL_law_3138 : decode cL_law 3138 = .ok (.iload 5, 2) := by decide +kernel
theorem ni_dL_law_3140 : decode cL_law 3140 = .ok (.iconst 1, 1) := by decide +kernel
theorem ni_dL_law_3141 : decode cL_law 3141 = .ok (.iadd, 1) := by decide +kernel
theorem ni_dL_law_3142 : decode cL_law 3142 = .ok (.iaload, 1) := by decide +kernel
theorem ni_dL_law_3143 : decode cL_law 3143 = .ok (.invokevirtual 320, 3) := by decide +kernel
theorem ni_dL_law_3146 : decode cL_law 3146 = .ok (.istore 7, 2) := by decide +kernel
theorem ni_dL_law_3148 : decode cL_law 3148 = .ok (.aload_n 2, 1) := by decide +kernel
theorem ni_dL_law_3149 : decode cL_law 3149 = .ok (.invokevirtual 161, 3) := by decide +kernel
theorem ni_dL_law_3152 : decode cL_law 3152 = .ok (.iload 6, 2) := by decide +kernel
theorem ni_dL_law_3154 : decode cL_law 3154 = .ok (.if_icmp .eq 5, 3) := by decide +kernel
theorem ni_dL_law_3159 : decode cL_law 3159 = .ok (.iload 6, 2) := by decide +kernel
theorem ni_dL_law_3161 : decode cL_law 3161 = .ok (.ifCond .ne 15, 3) := by decide +kernel
theorem ni_dL_law_3176 : decode cL_law 3176 = .ok (.goto 141, 3) := by decide +kernel
theorem ni_dL_law_3179 : decode cL_law 3179 = .ok (.aload_n 1, 1) := by decide +kernel
theorem ni_dL_law_3180 : decode cL_law 3180 = .ok (.aload_n 0, 1) := by decide +kernel
theorem ni_dL_law_3181 : decode cL_law 3181 = .ok (.iload 5, 2) := by decide +kernel
theorem ni_dL_law_3183 : decode cL_law 3183 = .ok (.iconst 1, 1) := by decide +kernel
theorem ni_dL_law_3184 : decode cL_law 3184 = .ok (.iadd, 1) := by decide +kernel
theorem ni_dL_law_3185 : decode cL_law 3185 = .ok (.iaload, 1) := by decide +kernel
theorem ni_dL_law_3186 : decode cL_law 3186 = .ok (.aload_n 0, 1) := by decide +kernel
theorem ni_dL_law_3187 : decode cL_law 3187 = .ok (.iload 5, 2) := by decide +kernel
theorem ni_dL_law_3189 : decode cL_law 3189 = .ok (.iconst 2, 1) := by decide +kernel
theorem ni_dL_law_3190 : decode cL_law 3190 = .ok (.iadd, 1) := by decide +kernel
theorem ni_dL_law_3191 : decode cL_law 3191 = .ok (.iaload, 1) := by decide +kernel
theorem ni_dL_law_3192 : decode cL_law 3192 = .ok (.aload_n 3, 1) := by decide +kernel
theorem ni_dL_law_3193 : decode cL_law 3193 = .ok (.invokestatic 321, 3) := by decide +kernel
theorem ni_dL_law_3196 : decode cL_law 3196 = .ok (.istore 6, 2) := by decide +kernel
theorem ni_dL_law_3198 : decode cL_law 3198 = .ok (.aload_n 2, 1) := by decide +kernel
theorem ni_dL_law_3199 : decode cL_law 3199 = .ok (.aload_n 0, 1) := by decide +kernel
theorem ni_dL_law_3200 : decode cL_law 3200 = .ok (.iload 5, 2) := by decide +kernel
theorem ni_dL_law_3202 : decode cL_law 3202 = .ok (.iconst 1, 1) := by decide +kernel
theorem ni_dL_law_3203 : decode cL_law 3203 = .ok (.iadd, 1) := by decide +kernel
theorem ni_dL_law_3204 : decode cL_law 3204 = .ok (.iaload, 1) := by decide +kernel
theorem ni_dL_law_3205 : decode cL_law 3205 = .ok (.aload_n 0, 1) := by decide +kernel
theorem ni_dL_law_3206 : decode cL_law 3206 = .ok (.iload 5, 2) := by decide +kernel
theorem ni_dL_law_3208 : decode cL_law 3208 = .ok (.iconst 2, 1) := by decide +kernel
theorem ni_dL_law_3209 : decode cL_law 3209 = .ok (.iadd, 1) := by decide +kernel
theorem ni_dL_law_3210 : decode cL_law 3210 = .ok (.iaload, 1) := by decide +kernel
theorem ni_dL_law_3211 : decode cL_law 3211 = .ok (.invokevirtual 323, 3) := by decide +kernel
theorem ni_dL_law_3214 : decode cL_law 3214 = .ok (.istore 7, 2) := by decide +kernel
theorem ni_dL_law_3216 : decode cL_law 3216 = .ok (.aload_n 2, 1) := by decide +kernel
theorem ni_dL_law_3217 : decode cL_law 3217 = .ok (.invokevirtual 161, 3) := by decide +kernel
theorem ni_dL_law_3220 : decode cL_law 3220 = .ok (.iload 6, 2) := by decide +kernel
theorem ni_dL_law_3222 : decode cL_law 3222 = .ok (.if_icmp .eq 5, 3) := by decide +kernel
theorem ni_dL_law_3227 : decode cL_law 3227 = .ok (.iload 6, 2) := by decide +kernel
theorem ni_dL_law_3229 : decode cL_law 3229 = .ok (.ifCond .ne 15, 3) := by decide +kernel
theorem ni_dL_law_3244 : decode cL_law 3244 = .ok (.goto 73, 3) := by decide +kernel
theorem ni_dL_law_3247 : decode cL_law 3247 = .ok (.aload_n 1, 1) := by decide +kernel
theorem ni_dL_law_3248 : decode cL_law 3248 = .ok (.aload_n 0, 1) := by decide +kernel
theorem ni_dL_law_3249 : decode cL_law 3249 = .ok (.iload 5, 2) := by decide +kernel
theorem ni_dL_law_3251 : decode cL_law 3251 = .ok (.iconst 1, 1) := by decide +kernel
theorem ni_dL_law_3252 : decode cL_law 3252 = .ok (.iadd, 1) := by decide +kernel
theorem ni_dL_law_3253 : decode cL_law 3253 = .ok (.iaload, 1) := by decide +kernel
theorem ni_dL_law_3254 : decode cL_law 3254 = .ok (.aload_n 3, 1) := by decide +kernel
theorem ni_dL_law_3255 : decode cL_law 3255 = .ok (.invokestatic 324, 3) := by decide +kernel
theorem ni_dL_law_3258 : decode cL_law 3258 = .ok (.istore 6, 2) := by decide +kernel
theorem ni_dL_law_3260 : decode cL_law 3260 = .ok (.aload_n 2, 1) := by decide +kernel
theorem ni_dL_law_3261 : decode cL_law 3261 = .ok (.aload_n 0, 1) := by decide +kernel
theorem ni_dL_law_3262 : decode cL_law 3262 = .ok (.iload 5, 2) := by decide +kernel
theorem ni_dL_law_3264 : decode cL_law 3264 = .ok (.iconst 1, 1) := by decide +kernel
theorem ni_dL_law_3265 : decode cL_law 3265 = .ok (.iadd, 1) := by decide +kernel
theorem ni_dL_law_3266 : decode cL_law 3266 = .ok (.iaload, 1) := by decide +kernel
theorem ni_dL_law_3267 : decode cL_law 3267 = .ok (.invokevirtual 326, 3) := by decide +kernel
theorem ni_dL_law_3270 : decode cL_law 3270 = .ok (.istore 7, 2) := by decide +kernel
theorem ni_dL_law_3272 : decode cL_law 3272 = .ok (.aload_n 2, 1) := by decide +kernel
theorem ni_dL_law_3273 : decode cL_law 3273 = .ok (.invokevirtual 161, 3) := by decide +kernel
theorem ni_dL_law_3276 : decode cL_law 3276 = .ok (.iload 6, 2) := by decide +kernel
theorem ni_dL_law_3278 : decode cL_law 3278 = .ok (.if_icmp .eq 5, 3) := by decide +kernel
theorem ni_dL_law_3283 : decode cL_law 3283 = .ok (.iload 6, 2) := by decide +kernel
theorem ni_dL_law_3285 : decode cL_law 3285 = .ok (.ifCond .ne 15, 3) := by decide +kernel
theorem ni_dL_law_3288 : decode cL_law 3288 = .ok (.aload_n 3, 1) := by decide +kernel
theorem ni_dL_law_3289 : decode cL_law 3289 = .ok (.iconst 0, 1) := by decide +kernel
theorem ni_dL_law_3290 : decode cL_law 3290 = .ok (.laload, 1) := by decide +kernel
theorem ni_dL_law_3291 : decode cL_law 3291 = .ok (.iload 7, 2) := by decide +kernel
theorem ni_dL_law_3293 : decode cL_law 3293 = .ok (.i2l, 1) := by decide +kernel
theorem ni_dL_law_3294 : decode cL_law 3294 = .ok (.lcmp, 1) := by decide +kernel
theorem ni_dL_law_3295 : decode cL_law 3295 = .ok (.ifCond .eq 5, 3) := by decide +kernel
theorem ni_dL_law_3300 : decode cL_law 3300 = .ok (.goto 17, 3) := by decide +kernel
theorem ni_dL_law_3303 : decode cL_law 3303 = .ok (.aload_n 1, 1) := by decide +kernel
theorem ni_dL_law_3304 : decode cL_law 3304 = .ok (.invokevirtual 327, 3) := by decide +kernel
theorem ni_dL_law_3307 : decode cL_law 3307 = .ok (.aload_n 2, 1) := by decide +kernel
theorem ni_dL_law_3308 : decode cL_law 3308 = .ok (.invokevirtual 331, 3) := by decide +kernel
theorem ni_dL_law_3311 : decode cL_law 3311 = .ok (.lcmp, 1) := by decide +kernel
theorem ni_dL_law_3312 : decode cL_law 3312 = .ok (.ifCond .eq 5, 3) := by decide +kernel
theorem ni_dL_law_3317 : decode cL_law 3317 = .ok (.iinc 5 6, 3) := by decide +kernel
theorem ni_dL_law_3320 : decode cL_law 3320 = .ok (.goto (-3292), 3) := by decide +kernel
theorem ni_dL_law_3323 : decode cL_law 3323 = .ok (.iconst 1, 1) := by decide +kernel
theorem ni_dL_law_3324 : decode cL_law 3324 = .ok (.ireturn, 1) := by decide +kernel
end
section
/-! WHAT THIS CLAIM HAS OF ITS OWN: the types of its arrays, words that don't stand in ni_tb, what was there before the start -/
/-- the types of the arrays' places: the array of type k has 100 + k as its mark -/
def ni_aks : List FieldType := [.int, .long, .double, .boolean, .object "Switchyard$Router", .object "Switchyard$Link", .object "Switchyard$Flow", .object "Switchyard$Letter", .object "SwitchyardModel$Port", .object "SwitchyardModel$Letter", .object "java/lang/Object", .array .int]
def ni_nn : List (String × Nat × MethodName × String) := [("Switchyard$Net", 41, ⟨"Switchyard$Flow", "<init>", "()V"⟩, "Switchyard"), ("Switchyard$Net", 42, ⟨"Switchyard$Link", "<init>", "()V"⟩, "Switchyard"), ("Switchyard$Router", 26, ⟨"Switchyard$Table", "<init>", "()V"⟩, "Switchyard")]
def ni_ao : List String := ["Switchyard$Router", "Switchyard$Link", "Switchyard$Flow", "Switchyard$Letter", "SwitchyardModel$Port", "SwitchyardModel$Letter", "java/lang/Object"]
def ni_ca : List (String × String) := [("java/lang/IndexOutOfBoundsException", "java/lang/IndexOutOfBoundsException"), ("java/lang/IllegalArgumentException", "java/lang/IllegalArgumentException"), ("java/lang/IllegalStateException", "java/lang/IllegalStateException"), ("java/util/ArrayList", "java/util/ArrayList"), ("java/util/ArrayList", "java/lang/Object")]
def ni_dc : List MethodName := [⟨"java/lang/RuntimeException", "<init>", "(Ljava/lang/String;)V"⟩, ⟨"java/lang/Exception", "<init>", "(Ljava/lang/String;)V"⟩, ⟨"java/lang/Throwable", "<init>", "(Ljava/lang/String;)V"⟩]
/-- the texts of exceptions -/
def ni_tx : List (String × Nat × String) := [("Switchyard", 330, "no such number"), ("Switchyard", 333, "a value out of its range")]
/-- arrays of arrays: the outer one's type, the inner one's -/
def ni_aa : List (Nat × Nat) := [(11, 0)]
def ni_at : List FieldType := [.int]
section NO
/-! arrays of arrays -/
def ni_AOA (t : FieldType) (U : State) : Prop := (Cond.arrayOver (.array t)).before #[] U = true
theorem ni_AOA.moved {t : FieldType} {u U : State} (hvm : u.vm.Alike U.vm) (h : ni_AOA t u) : ni_AOA t U := by
  obtain ⟨comp, c, k, h1, h2, h3, h4, h5⟩ := arrayOverA_spec h
  obtain ⟨k', hk', he⟩ := hvm.2.2 _ _ h3
  have hi : (U.vm.classes.findIdx? fun (x : Class) => match x.kind with | .array component _ => component == comp | _ => false) = some c := by
    have a1 := va_idx_bare U.vm comp
    have a2 := va_idx_bare u.vm comp
    have e : u.vm.bare = U.vm.bare := by first | exact hvm.bare_eq | exact hvm.bare_eq.symm
    rw [e] at a2
    exact (a1.symm.trans a2).trans h2
  have hkind : k'.kind = .array comp (.array t) := by rw [he]; exact h4
  have f1 : U.vm.findClass (FieldType.array t).toString = some comp := by rw [hvm.findClass]; exact h1
  have f2 : U.vm.findClass ("[" ++ (FieldType.array t).toString) = some c := by rw [hvm.findClass]; exact h5
  unfold ni_AOA Cond.before Cond.holds
  simp only [Cond.value]
  rw [f1, Option.bind_some]
  refine (congrArg (fun o : Option Nat => (o.bind (fun c => (U.vm.classes[c]?).map fun (k : Class) => match k.kind with | .array _ ty => decide (ty = FieldType.array t) && decide (U.vm.findClass ("[" ++ (FieldType.array t).toString) = some c) | _ => false) == some true)) hi).trans ?_
  simp [hk', hkind, f2]
/-- statics, texts: A is where the cells that were made lie, z the static's array -/
def ni_Ex (A : Nat → Prop) (z : Nat) (U : State) (H : Heap) : Prop := vx_Zq Bundle.tN "UNASSIGNED_STACK" Bundle.steD A U H ∧ vx_Zq Bundle.tN "SUPPRESSED_SENTINEL" Bundle.listD A U H ∧
  (∀ t ∈ ni_tx, ∃ sa, vk_R t.1 t.2.1 t.2.2 sa U) ∧
  va_Z "java/util/ArrayList" "DEFAULTCAPACITY_EMPTY_ELEMENTDATA" "[Ljava/lang/Object;" (.ref z) A U H ∧ va_T (.object "java/lang/Object") z 0 (fun _ => .null) A U H
theorem ni_ExW {A : Nat → Prop} {z : Nat} {s U : State} {H H1 : Heap} (hW : s.WarmedH U.vm) (hq : ∀ a : Nat, a < H.size → ¬ A a → H1[a]? = H[a]?) (h : ni_Ex A z s H) : ni_Ex A z U H1 := by
  obtain ⟨h1, h2, h3, h5, h6⟩ := h
  exact ⟨vx_Zq.moved hW.alike (h1.kept hq), vx_Zq.moved hW.alike (h2.kept hq), fun t ht => (h3 t ht).elim fun sa h => ⟨sa, vk_R.warm hW h⟩, va_Z.moved hW.alike (h5.kept hq), va_T.moved hW.alike (h6.kept hq)⟩
theorem ni_ExV {A : Nat → Prop} {z : Nat} {s U : State} {H : Heap} (hv : U.vm = s.vm) (h : ni_Ex A z s H) : ni_Ex A z U H := by
  obtain ⟨h1, h2, h3, h5, h6⟩ := h
  have hA : s.vm.Alike U.vm := by rw [hv]; exact Vm.Alike.refl _
  exact ⟨vx_Zq.moved hA h1, vx_Zq.moved hA h2, fun t ht => (h3 t ht).elim fun sa h => ⟨sa, vk_R.same hv h⟩, va_Z.moved hA h5, va_T.moved hA h6⟩
end NO
end
