section
-- ===== PART A: goes FIRST, ahead of the names: the tables' words, and 'selects' of the private methods out of them =====
/-- a private method of a class that the tables say can be made, by its rows of tables_1 -/
def lw_okq (q : MethodName × Nat) : Prop := (q.1.cls ≠ "java/lang/invoke/MethodHandle" ∧ q.1.cls ≠ "java/lang/invoke/VarHandle") ∧ Cond.instantiable q.1.cls q.2 ∈ tables_1 ∧ Cond.privateMethod q.1 ∈ tables_1 ∧ Cond.instanceMethod q.1 ∈ tables_1
theorem lw_p0 : lw_okq (⟨"DesertChannels$Fields", "minutesOf", "(I)I"⟩, 5) := ⟨⟨by decide +kernel, by decide +kernel⟩, List.mem_of_getElem? (i := 164) (by decide +kernel), List.mem_of_getElem? (i := 260) (by decide +kernel), List.mem_of_getElem? (i := 261) (by decide +kernel)⟩
theorem lw_p1 : lw_okq (⟨"DesertChannels", "letShares", "()I"⟩, 16) := ⟨⟨by decide +kernel, by decide +kernel⟩, List.mem_of_getElem? (i := 24) (by decide +kernel), List.mem_of_getElem? (i := 275) (by decide +kernel), List.mem_of_getElem? (i := 276) (by decide +kernel)⟩
theorem lw_p2 : lw_okq (⟨"DesertChannels", "flowOfAll", "()I"⟩, 16) := ⟨⟨by decide +kernel, by decide +kernel⟩, List.mem_of_getElem? (i := 24) (by decide +kernel), List.mem_of_getElem? (i := 283) (by decide +kernel), List.mem_of_getElem? (i := 284) (by decide +kernel)⟩
theorem lw_p3 : lw_okq (⟨"DesertChannels", "flowOf", "(LDesertChannels$Channel;I)I"⟩, 16) := ⟨⟨by decide +kernel, by decide +kernel⟩, List.mem_of_getElem? (i := 24) (by decide +kernel), List.mem_of_getElem? (i := 291) (by decide +kernel), List.mem_of_getElem? (i := 292) (by decide +kernel)⟩
theorem lw_p4 : lw_okq (⟨"DesertChannels", "seepAt", "(LDesertChannels$Channel;II)I"⟩, 16) := ⟨⟨by decide +kernel, by decide +kernel⟩, List.mem_of_getElem? (i := 24) (by decide +kernel), List.mem_of_getElem? (i := 299) (by decide +kernel), List.mem_of_getElem? (i := 300) (by decide +kernel)⟩
theorem lw_p5 : lw_okq (⟨"DesertChannels", "drawAt", "(LDesertChannels$Channel;II)I"⟩, 16) := ⟨⟨by decide +kernel, by decide +kernel⟩, List.mem_of_getElem? (i := 24) (by decide +kernel), List.mem_of_getElem? (i := 303) (by decide +kernel), List.mem_of_getElem? (i := 304) (by decide +kernel)⟩
theorem lw_p6 : lw_okq (⟨"java/lang/Throwable", "fillInStackTrace", "(I)Ljava/lang/Throwable;"⟩, 6) := ⟨⟨by decide +kernel, by decide +kernel⟩, List.mem_of_getElem? (i := 370) (by decide +kernel), List.mem_of_getElem? (i := 368) (by decide +kernel), List.mem_of_getElem? (i := 369) (by decide +kernel)⟩
theorem lw_p7 : lw_okq (⟨"DesertChannels", "undugAt", "(I)LDesertChannels$Channel;"⟩, 16) := ⟨⟨by decide +kernel, by decide +kernel⟩, List.mem_of_getElem? (i := 24) (by decide +kernel), List.mem_of_getElem? (i := 433) (by decide +kernel), List.mem_of_getElem? (i := 434) (by decide +kernel)⟩
theorem lw_p8 : lw_okq (⟨"DesertChannels", "channelAt", "(I)LDesertChannels$Channel;"⟩, 16) := ⟨⟨by decide +kernel, by decide +kernel⟩, List.mem_of_getElem? (i := 24) (by decide +kernel), List.mem_of_getElem? (i := 437) (by decide +kernel), List.mem_of_getElem? (i := 438) (by decide +kernel)⟩
theorem lw_p9 : lw_okq (⟨"DesertChannels", "isAllowed", "(LDesertChannels$Channel;)Z"⟩, 16) := ⟨⟨by decide +kernel, by decide +kernel⟩, List.mem_of_getElem? (i := 24) (by decide +kernel), List.mem_of_getElem? (i := 490) (by decide +kernel), List.mem_of_getElem? (i := 491) (by decide +kernel)⟩
theorem lw_p10 : lw_okq (⟨"DesertChannels", "isClearOf", "(LDesertChannels$Channel;LDesertChannels$Channel;)Z"⟩, 16) := ⟨⟨by decide +kernel, by decide +kernel⟩, List.mem_of_getElem? (i := 24) (by decide +kernel), List.mem_of_getElem? (i := 494) (by decide +kernel), List.mem_of_getElem? (i := 495) (by decide +kernel)⟩
theorem lw_p11 : lw_okq (⟨"DesertChannels", "addShare", "(IIII)V"⟩, 16) := ⟨⟨by decide +kernel, by decide +kernel⟩, List.mem_of_getElem? (i := 24) (by decide +kernel), List.mem_of_getElem? (i := 509) (by decide +kernel), List.mem_of_getElem? (i := 510) (by decide +kernel)⟩
theorem lw_p12 : lw_okq (⟨"DesertChannels", "dugWithWell", "(II)LDesertChannels$Channel;"⟩, 16) := ⟨⟨by decide +kernel, by decide +kernel⟩, List.mem_of_getElem? (i := 24) (by decide +kernel), List.mem_of_getElem? (i := 532) (by decide +kernel), List.mem_of_getElem? (i := 533) (by decide +kernel)⟩
theorem lw_p13 : lw_okq (⟨"DesertChannels", "dugAt", "(I)LDesertChannels$Channel;"⟩, 16) := ⟨⟨by decide +kernel, by decide +kernel⟩, List.mem_of_getElem? (i := 24) (by decide +kernel), List.mem_of_getElem? (i := 545) (by decide +kernel), List.mem_of_getElem? (i := 546) (by decide +kernel)⟩
theorem lw_p14 : lw_okq (⟨"DesertChannels", "unletAt", "(I)LDesertChannels$Share;"⟩, 16) := ⟨⟨by decide +kernel, by decide +kernel⟩, List.mem_of_getElem? (i := 24) (by decide +kernel), List.mem_of_getElem? (i := 570) (by decide +kernel), List.mem_of_getElem? (i := 571) (by decide +kernel)⟩
theorem lw_p15 : lw_okq (⟨"DesertChannels", "shareAt", "(I)LDesertChannels$Share;"⟩, 16) := ⟨⟨by decide +kernel, by decide +kernel⟩, List.mem_of_getElem? (i := 24) (by decide +kernel), List.mem_of_getElem? (i := 574) (by decide +kernel), List.mem_of_getElem? (i := 575) (by decide +kernel)⟩
def lw_privs_1 : List (MethodName × Nat) := [(⟨"DesertChannels$Fields", "minutesOf", "(I)I"⟩, 5), (⟨"DesertChannels", "letShares", "()I"⟩, 16), (⟨"DesertChannels", "flowOfAll", "()I"⟩, 16), (⟨"DesertChannels", "flowOf", "(LDesertChannels$Channel;I)I"⟩, 16), (⟨"DesertChannels", "seepAt", "(LDesertChannels$Channel;II)I"⟩, 16), (⟨"DesertChannels", "drawAt", "(LDesertChannels$Channel;II)I"⟩, 16), (⟨"java/lang/Throwable", "fillInStackTrace", "(I)Ljava/lang/Throwable;"⟩, 6), (⟨"DesertChannels", "undugAt", "(I)LDesertChannels$Channel;"⟩, 16), (⟨"DesertChannels", "channelAt", "(I)LDesertChannels$Channel;"⟩, 16), (⟨"DesertChannels", "isAllowed", "(LDesertChannels$Channel;)Z"⟩, 16), (⟨"DesertChannels", "isClearOf", "(LDesertChannels$Channel;LDesertChannels$Channel;)Z"⟩, 16), (⟨"DesertChannels", "addShare", "(IIII)V"⟩, 16), (⟨"DesertChannels", "dugWithWell", "(II)LDesertChannels$Channel;"⟩, 16), (⟨"DesertChannels", "dugAt", "(I)LDesertChannels$Channel;"⟩, 16), (⟨"DesertChannels", "unletAt", "(I)LDesertChannels$Share;"⟩, 16), (⟨"DesertChannels", "shareAt", "(I)LDesertChannels$Share;"⟩, 16)]
theorem lw_r1 : ∀ q ∈ lw_privs_1, lw_okq q := List.forall_mem_cons.mpr ⟨lw_p0, List.forall_mem_cons.mpr ⟨lw_p1, List.forall_mem_cons.mpr ⟨lw_p2, List.forall_mem_cons.mpr ⟨lw_p3, List.forall_mem_cons.mpr ⟨lw_p4, List.forall_mem_cons.mpr ⟨lw_p5, List.forall_mem_cons.mpr ⟨lw_p6, List.forall_mem_cons.mpr ⟨lw_p7, List.forall_mem_cons.mpr ⟨lw_p8, List.forall_mem_cons.mpr ⟨lw_p9, List.forall_mem_cons.mpr ⟨lw_p10, List.forall_mem_cons.mpr ⟨lw_p11, List.forall_mem_cons.mpr ⟨lw_p12, List.forall_mem_cons.mpr ⟨lw_p13, List.forall_mem_cons.mpr ⟨lw_p14, List.forall_mem_cons.mpr ⟨lw_p15, fun _ h => absurd h List.not_mem_nil⟩⟩⟩⟩⟩⟩⟩⟩⟩⟩⟩⟩⟩⟩⟩⟩
theorem lw_p16 : lw_okq (⟨"DesertChannels", "leaveTo", "(LDesertChannels$Share;I)V"⟩, 16) := ⟨⟨by decide +kernel, by decide +kernel⟩, List.mem_of_getElem? (i := 24) (by decide +kernel), List.mem_of_getElem? (i := 607) (by decide +kernel), List.mem_of_getElem? (i := 608) (by decide +kernel)⟩
theorem lw_p17 : lw_okq (⟨"DesertChannels$LawReader", "isTerm", "()Z"⟩, 4) := ⟨⟨by decide +kernel, by decide +kernel⟩, List.mem_of_getElem? (i := 32) (by decide +kernel), List.mem_of_getElem? (i := 679) (by decide +kernel), List.mem_of_getElem? (i := 680) (by decide +kernel)⟩
theorem lw_p18 : lw_okq (⟨"DesertChannels$LawReader", "takeThing", "()V"⟩, 4) := ⟨⟨by decide +kernel, by decide +kernel⟩, List.mem_of_getElem? (i := 32) (by decide +kernel), List.mem_of_getElem? (i := 683) (by decide +kernel), List.mem_of_getElem? (i := 684) (by decide +kernel)⟩
theorem lw_p19 : lw_okq (⟨"DesertChannels$LawReader", "isWord", "(Ljava/lang/String;)Z"⟩, 4) := ⟨⟨by decide +kernel, by decide +kernel⟩, List.mem_of_getElem? (i := 32) (by decide +kernel), List.mem_of_getElem? (i := 695) (by decide +kernel), List.mem_of_getElem? (i := 696) (by decide +kernel)⟩
theorem lw_p20 : lw_okq (⟨"DesertChannels$LawReader", "isNumber", "(II)Z"⟩, 4) := ⟨⟨by decide +kernel, by decide +kernel⟩, List.mem_of_getElem? (i := 32) (by decide +kernel), List.mem_of_getElem? (i := 747) (by decide +kernel), List.mem_of_getElem? (i := 748) (by decide +kernel)⟩
theorem lw_p21 : lw_okq (⟨"DesertChannels$LawReader", "isPayment", "()Z"⟩, 4) := ⟨⟨by decide +kernel, by decide +kernel⟩, List.mem_of_getElem? (i := 32) (by decide +kernel), List.mem_of_getElem? (i := 754) (by decide +kernel), List.mem_of_getElem? (i := 755) (by decide +kernel)⟩
theorem lw_p22 : lw_okq (⟨"DesertChannels", "weighOwners", "(I)V"⟩, 16) := ⟨⟨by decide +kernel, by decide +kernel⟩, List.mem_of_getElem? (i := 24) (by decide +kernel), List.mem_of_getElem? (i := 779) (by decide +kernel), List.mem_of_getElem? (i := 780) (by decide +kernel)⟩
theorem lw_p23 : lw_okq (⟨"DesertChannels", "paidBy", "(II)I"⟩, 16) := ⟨⟨by decide +kernel, by decide +kernel⟩, List.mem_of_getElem? (i := 24) (by decide +kernel), List.mem_of_getElem? (i := 784) (by decide +kernel), List.mem_of_getElem? (i := 785) (by decide +kernel)⟩
theorem lw_p24 : lw_okq (⟨"DesertChannelsModel", "throwsIf", "(ZI)Z"⟩, 36) := ⟨⟨by decide +kernel, by decide +kernel⟩, List.mem_of_getElem? (i := 800) (by decide +kernel), List.mem_of_getElem? (i := 926) (by decide +kernel), List.mem_of_getElem? (i := 927) (by decide +kernel)⟩
theorem lw_p25 : lw_okq (⟨"DesertChannelsModel", "noChannel", "(I)Z"⟩, 36) := ⟨⟨by decide +kernel, by decide +kernel⟩, List.mem_of_getElem? (i := 800) (by decide +kernel), List.mem_of_getElem? (i := 938) (by decide +kernel), List.mem_of_getElem? (i := 939) (by decide +kernel)⟩
theorem lw_p26 : lw_okq (⟨"DesertChannelsModel", "mayBe", "(I)Z"⟩, 36) := ⟨⟨by decide +kernel, by decide +kernel⟩, List.mem_of_getElem? (i := 800) (by decide +kernel), List.mem_of_getElem? (i := 946) (by decide +kernel), List.mem_of_getElem? (i := 947) (by decide +kernel)⟩
theorem lw_p27 : lw_okq (⟨"DesertChannelsModel", "adds", "(IIII)V"⟩, 36) := ⟨⟨by decide +kernel, by decide +kernel⟩, List.mem_of_getElem? (i := 800) (by decide +kernel), List.mem_of_getElem? (i := 959) (by decide +kernel), List.mem_of_getElem? (i := 960) (by decide +kernel)⟩
theorem lw_p28 : lw_okq (⟨"DesertChannelsModel", "sets", "(IIII)V"⟩, 36) := ⟨⟨by decide +kernel, by decide +kernel⟩, List.mem_of_getElem? (i := 800) (by decide +kernel), List.mem_of_getElem? (i := 963) (by decide +kernel), List.mem_of_getElem? (i := 964) (by decide +kernel)⟩
theorem lw_p29 : lw_okq (⟨"DesertChannelsModel", "noWell", "(II)Z"⟩, 36) := ⟨⟨by decide +kernel, by decide +kernel⟩, List.mem_of_getElem? (i := 800) (by decide +kernel), List.mem_of_getElem? (i := 975) (by decide +kernel), List.mem_of_getElem? (i := 976) (by decide +kernel)⟩
theorem lw_p30 : lw_okq (⟨"DesertChannelsModel", "flows", "(II)I"⟩, 36) := ⟨⟨by decide +kernel, by decide +kernel⟩, List.mem_of_getElem? (i := 800) (by decide +kernel), List.mem_of_getElem? (i := 983) (by decide +kernel), List.mem_of_getElem? (i := 984) (by decide +kernel)⟩
theorem lw_p31 : lw_okq (⟨"DesertChannelsModel", "runs", "(I)I"⟩, 36) := ⟨⟨by decide +kernel, by decide +kernel⟩, List.mem_of_getElem? (i := 800) (by decide +kernel), List.mem_of_getElem? (i := 987) (by decide +kernel), List.mem_of_getElem? (i := 988) (by decide +kernel)⟩
def lw_privs_2 : List (MethodName × Nat) := [(⟨"DesertChannels", "leaveTo", "(LDesertChannels$Share;I)V"⟩, 16), (⟨"DesertChannels$LawReader", "isTerm", "()Z"⟩, 4), (⟨"DesertChannels$LawReader", "takeThing", "()V"⟩, 4), (⟨"DesertChannels$LawReader", "isWord", "(Ljava/lang/String;)Z"⟩, 4), (⟨"DesertChannels$LawReader", "isNumber", "(II)Z"⟩, 4), (⟨"DesertChannels$LawReader", "isPayment", "()Z"⟩, 4), (⟨"DesertChannels", "weighOwners", "(I)V"⟩, 16), (⟨"DesertChannels", "paidBy", "(II)I"⟩, 16), (⟨"DesertChannelsModel", "throwsIf", "(ZI)Z"⟩, 36), (⟨"DesertChannelsModel", "noChannel", "(I)Z"⟩, 36), (⟨"DesertChannelsModel", "mayBe", "(I)Z"⟩, 36), (⟨"DesertChannelsModel", "adds", "(IIII)V"⟩, 36), (⟨"DesertChannelsModel", "sets", "(IIII)V"⟩, 36), (⟨"DesertChannelsModel", "noWell", "(II)Z"⟩, 36), (⟨"DesertChannelsModel", "flows", "(II)I"⟩, 36), (⟨"DesertChannelsModel", "runs", "(I)I"⟩, 36)]
theorem lw_r2 : ∀ q ∈ lw_privs_2, lw_okq q := List.forall_mem_cons.mpr ⟨lw_p16, List.forall_mem_cons.mpr ⟨lw_p17, List.forall_mem_cons.mpr ⟨lw_p18, List.forall_mem_cons.mpr ⟨lw_p19, List.forall_mem_cons.mpr ⟨lw_p20, List.forall_mem_cons.mpr ⟨lw_p21, List.forall_mem_cons.mpr ⟨lw_p22, List.forall_mem_cons.mpr ⟨lw_p23, List.forall_mem_cons.mpr ⟨lw_p24, List.forall_mem_cons.mpr ⟨lw_p25, List.forall_mem_cons.mpr ⟨lw_p26, List.forall_mem_cons.mpr ⟨lw_p27, List.forall_mem_cons.mpr ⟨lw_p28, List.forall_mem_cons.mpr ⟨lw_p29, List.forall_mem_cons.mpr ⟨lw_p30, List.forall_mem_cons.mpr ⟨lw_p31, fun _ h => absurd h List.not_mem_nil⟩⟩⟩⟩⟩⟩⟩⟩⟩⟩⟩⟩⟩⟩⟩⟩
theorem lw_p32 : lw_okq (⟨"DesertChannelsModel", "seeps", "(III)I"⟩, 36) := ⟨⟨by decide +kernel, by decide +kernel⟩, List.mem_of_getElem? (i := 800) (by decide +kernel), List.mem_of_getElem? (i := 991) (by decide +kernel), List.mem_of_getElem? (i := 992) (by decide +kernel)⟩
theorem lw_p33 : lw_okq (⟨"DesertChannelsModel", "draw", "(III)I"⟩, 36) := ⟨⟨by decide +kernel, by decide +kernel⟩, List.mem_of_getElem? (i := 800) (by decide +kernel), List.mem_of_getElem? (i := 995) (by decide +kernel), List.mem_of_getElem? (i := 996) (by decide +kernel)⟩
theorem lw_p34 : lw_okq (⟨"DesertChannelsModel", "noShare", "(I)Z"⟩, 36) := ⟨⟨by decide +kernel, by decide +kernel⟩, List.mem_of_getElem? (i := 800) (by decide +kernel), List.mem_of_getElem? (i := 1012) (by decide +kernel), List.mem_of_getElem? (i := 1013) (by decide +kernel)⟩
theorem lw_p35 : lw_okq (⟨"DesertChannelsModel", "isLet", "(I)Z"⟩, 36) := ⟨⟨by decide +kernel, by decide +kernel⟩, List.mem_of_getElem? (i := 800) (by decide +kernel), List.mem_of_getElem? (i := 1016) (by decide +kernel), List.mem_of_getElem? (i := 1017) (by decide +kernel)⟩
theorem lw_p36 : lw_okq (⟨"DesertChannelsModel", "readTerm", "()Z"⟩, 36) := ⟨⟨by decide +kernel, by decide +kernel⟩, List.mem_of_getElem? (i := 800) (by decide +kernel), List.mem_of_getElem? (i := 1057) (by decide +kernel), List.mem_of_getElem? (i := 1058) (by decide +kernel)⟩
theorem lw_p37 : lw_okq (⟨"DesertChannelsModel", "word", "()V"⟩, 36) := ⟨⟨by decide +kernel, by decide +kernel⟩, List.mem_of_getElem? (i := 800) (by decide +kernel), List.mem_of_getElem? (i := 1061) (by decide +kernel), List.mem_of_getElem? (i := 1062) (by decide +kernel)⟩
theorem lw_p38 : lw_okq (⟨"DesertChannelsModel", "blanks", "()V"⟩, 36) := ⟨⟨by decide +kernel, by decide +kernel⟩, List.mem_of_getElem? (i := 800) (by decide +kernel), List.mem_of_getElem? (i := 1065) (by decide +kernel), List.mem_of_getElem? (i := 1066) (by decide +kernel)⟩
theorem lw_p39 : lw_okq (⟨"DesertChannelsModel", "isAt", "(II)Z"⟩, 36) := ⟨⟨by decide +kernel, by decide +kernel⟩, List.mem_of_getElem? (i := 800) (by decide +kernel), List.mem_of_getElem? (i := 1069) (by decide +kernel), List.mem_of_getElem? (i := 1070) (by decide +kernel)⟩
theorem lw_p40 : lw_okq (⟨"DesertChannelsModel", "isWord", "(Ljava/lang/String;)Z"⟩, 36) := ⟨⟨by decide +kernel, by decide +kernel⟩, List.mem_of_getElem? (i := 800) (by decide +kernel), List.mem_of_getElem? (i := 1074) (by decide +kernel), List.mem_of_getElem? (i := 1075) (by decide +kernel)⟩
theorem lw_p41 : lw_okq (⟨"DesertChannelsModel", "number", "(II)Z"⟩, 36) := ⟨⟨by decide +kernel, by decide +kernel⟩, List.mem_of_getElem? (i := 800) (by decide +kernel), List.mem_of_getElem? (i := 1080) (by decide +kernel), List.mem_of_getElem? (i := 1081) (by decide +kernel)⟩
theorem lw_p42 : lw_okq (⟨"DesertChannelsModel", "portion", "(JIII)J"⟩, 36) := ⟨⟨by decide +kernel, by decide +kernel⟩, List.mem_of_getElem? (i := 800) (by decide +kernel), List.mem_of_getElem? (i := 1103) (by decide +kernel), List.mem_of_getElem? (i := 1104) (by decide +kernel)⟩
def lw_privs_3 : List (MethodName × Nat) := [(⟨"DesertChannelsModel", "seeps", "(III)I"⟩, 36), (⟨"DesertChannelsModel", "draw", "(III)I"⟩, 36), (⟨"DesertChannelsModel", "noShare", "(I)Z"⟩, 36), (⟨"DesertChannelsModel", "isLet", "(I)Z"⟩, 36), (⟨"DesertChannelsModel", "readTerm", "()Z"⟩, 36), (⟨"DesertChannelsModel", "word", "()V"⟩, 36), (⟨"DesertChannelsModel", "blanks", "()V"⟩, 36), (⟨"DesertChannelsModel", "isAt", "(II)Z"⟩, 36), (⟨"DesertChannelsModel", "isWord", "(Ljava/lang/String;)Z"⟩, 36), (⟨"DesertChannelsModel", "number", "(II)Z"⟩, 36), (⟨"DesertChannelsModel", "portion", "(JIII)J"⟩, 36)]
theorem lw_r3 : ∀ q ∈ lw_privs_3, lw_okq q := List.forall_mem_cons.mpr ⟨lw_p32, List.forall_mem_cons.mpr ⟨lw_p33, List.forall_mem_cons.mpr ⟨lw_p34, List.forall_mem_cons.mpr ⟨lw_p35, List.forall_mem_cons.mpr ⟨lw_p36, List.forall_mem_cons.mpr ⟨lw_p37, List.forall_mem_cons.mpr ⟨lw_p38, List.forall_mem_cons.mpr ⟨lw_p39, List.forall_mem_cons.mpr ⟨lw_p40, List.forall_mem_cons.mpr ⟨lw_p41, List.forall_mem_cons.mpr ⟨lw_p42, fun _ h => absurd h List.not_mem_nil⟩⟩⟩⟩⟩⟩⟩⟩⟩⟩⟩
def lw_privs : List (MethodName × Nat) := lw_privs_1 ++ (lw_privs_2 ++ (lw_privs_3))
def lw_tbl : List Cond := k2_sels lw_privs ++ tables_1
theorem lw_privs_ok : ∀ q ∈ lw_privs, lw_okq q := by
  show ∀ q ∈ lw_privs_1 ++ (lw_privs_2 ++ (lw_privs_3)), lw_okq q
  exact List.forall_mem_append.mpr ⟨lw_r1, List.forall_mem_append.mpr ⟨lw_r2, lw_r3⟩⟩
-- ===== end of PART A; then your names; then what follows =====
end
section
/-! ===== BEGIN words of one list among another's, by their places ===== -/
theorem goodIn_r {big : List Cond} (ws : List Cond) (ps : List Nat) (hp : ws = ps.filterMap (fun i => big[i]?)) (h : ws.all goodWord = true) : GoodIn big ws := by
  intro w hw
  have h1 := List.all_eq_true.mp h w hw
  rw [hp] at hw
  obtain ⟨i, -, hi⟩ := List.mem_filterMap.mp hw
  have hm : w ∈ big := by first | exact List.mem_of_getElem? hi | exact List.getElem?_mem hi
  exact ⟨hm, good_of_word h1⟩
theorem goodIn_app {big a b : List Cond} (ha : GoodIn big a) (hb : GoodIn big b) : GoodIn big (a ++ b) := fun w h => (List.mem_append.mp h).elim (ha w) (hb w)
theorem goodIn_ca {big a b : List Cond} {c : Cond} (ha : GoodIn big (c :: a)) (hb : GoodIn big b) : GoodIn big (c :: (a ++ b)) := fun w h => (List.mem_cons.mp h).elim (fun e => ha w (List.mem_cons.mpr (Or.inl e))) (fun h => (List.mem_append.mp h).elim (fun h => ha w (List.mem_cons.mpr (Or.inr h))) (hb w))
theorem goodIn_sub {big ws : List Cond} (hm : ∀ w ∈ ws, w ∈ big) (h : ws.all goodWord = true) : GoodIn big ws := fun w hw => ⟨hm w hw, good_of_word (List.all_eq_true.mp h w hw)⟩
/-! ===== END ===== -/

/-! ===== BEGIN exceptions that leave a method, and their catching by the caller (launches without stack traces) ===== -/
section VXA
/-! The laws vx_back, vx_callV, vx_callS, vx_callSW, vx_throw0, vx_throwS follow proofs of the library, with one case more: JvmDerived/Free/Laws.lean (Back.of_free), Shelf42/LK1.lean (callV, callS), Shelf/KitTraced.lean (throwNew0V, throwNewS). -/
/-- where a method has thrown q: the class by its name, the cell, what was written, the world -/
def vx_T (XC : String → State → State → Prop) (st : State) (q : Addr) (t : State) (mc ms : Nat) (free : Addr → Prop) : Prop :=
  ∃ (E : String) (ce : Cell) (L : List Loc), XC E st t ∧ t.heap[q]? = some ce ∧ ce.vm = .none ∧ st.vm.findClass E = some ce.cls ∧ st.WarmedH t.vm ∧ st.sameButNew ({ t with vm := st.vm } : State) L mc ms ∧ ∀ z ∈ L, free z.base
def vx_Q (Qc : Array Value → State → Outcome → State → Prop) (XC : String → State → State → Prop) (mc ms : Nat) (free : Addr → Prop) : Array Value → State → Outcome → State → Prop := fun a st o t =>
  (Qc a st o t ∧ ∃ L, FrameEnd st o t L mc ms ∧ ∀ q ∈ L, free q.base) ∨ ∃ q, o = .threw q ∧ vx_T XC st q t mc ms free
/-- a callee that returns or throws -/
def vx_Met (l : Launch) (y : MethodName) (ws : List Cond) (rm : Room) (Pc : Array Value → State → Prop) (Qc : Array Value → State → Outcome → State → Prop) (XC : String → State → State → Prop) (mc ms : Nat) (free : Addr → Prop) : Prop :=
  MetFree l y (headSpec ws rm) Pc (fun _ _ _ _ _ => True) (vx_Q Qc XC mc ms free)
def vx_Post (XC : String → State → State → Prop) (mc ms : Nat) (free : Addr → Prop) : Pt → Array Value → Addr → Pt → Prop := fun A a q B =>
  ∃ (g : JFrame) (mk : MethodId) (t : State) (L : List Loc) (E : String) (ce : Cell), B.U.heap = t.heap ∧ B.U.vm = t.vm ∧ XC E (A.U.calling g mk a) t ∧ t.heap[q]? = some ce ∧ ce.vm = .none ∧ A.U.vm.findClass E = some ce.cls ∧ B.locs = A.locs ++ L ∧ (∀ z ∈ L, free z.base) ∧ B.cells = A.cells + mc ∧ B.slots = A.slots + ms
def vx_Back (l : Launch) (R : Room) (p : Program) (e : Env) (below : List Frame) (s : State) (sargs : Array Value) (y : MethodName) (len W9 : Nat)
    (Pre : Pt → Array Value → Prop) (Post : Pt → Array Value → Option Value → Pt → Prop) (PostX : Pt → Array Value → Addr → Pt → Prop) : Prop :=
  ∀ (m : MethodId) (meth : Method) (c : Code) (A : Pt) (g : JFrame) (ig : Instr) (mk : MethodId) (a : Array Value),
    Stand p l e R s m sargs below meth c A.U A.locs A.cells A.slots → g.method = m → g.locals.size = c.maxLocals → decode c.code g.pc = .ok (ig, len) →
    2 * g.monitorRoom + (g.stack.map fun v => v.category).sum ≤ W9 → A.U.methodNamed? y = some mk → Pre A a →
    (∃ (v : Option Value) (B : Pt), Stand p l e R s m sargs below meth c B.U B.locs B.cells B.slots ∧ Post A a v B ∧
      Steps p.tables e below (doInvoke e (A.U.setTop g) [] mk a).1 (B.U.setTop { g with pc := g.pc + len, stack := v.toList ++ g.stack })) ∨
    (∃ (q : Addr) (B : Pt), Stand p l e R s m sargs below meth c B.U B.locs B.cells B.slots ∧ PostX A a q B ∧
      Steps p.tables e below (doInvoke e (A.U.setTop g) [] mk a).1 ((B.U.setTop g).pushFrame (.throwing q)))
section Payer
variable {l : Launch} {R : Room} {p : Program} {e : Env} {below : List Frame} {s : State} {sargs : Array Value} {y : MethodName} {len W9 : Nat}
theorem vx_back {ws : List Cond} {rm : Room} {Pc : Array Value → State → Prop} {Qc : Array Value → State → Outcome → State → Prop} {XC : String → State → State → Prop} {mc ms : Nat} {free : Addr → Prop} {bytes : ByteArray} {maxL : Nat} {ret : Option FieldType}
    (hM : vx_Met l y ws rm Pc Qc XC mc ms free) (hblind : FrameBlind Pc) (hrc : rm.cells = mc) (hrs : rm.slots = ms)
    (hframes : rm.frames + 1 ≤ R.frames) (hlocals : W9 + (maxL + 11) + rm.locals ≤ R.locals)
    (hws : ∀ w ∈ ws, ∀ a' U, s.WarmedH U.vm → w.before a' U = true) (hcode : Cond.code y bytes maxL ret ∈ ws) (hinit : ∀ a' U, s.WarmedH U.vm → (Cond.initialized y.cls).before a' U = true) :
    vx_Back l R p e below s sargs y len W9 (PreOf R mc ms Pc) (PostOf Qc mc ms free) (vx_Post XC mc ms free) := by
  intro m meth c A g ig mk a X hg hsize hdg hW hn hp
  have h1 : (headSpec ws rm).pre.before a A.U = true := atoms_intro fun w hw => hws w hw _ _ X.warmed
  have h2 : (Cond.code y bytes maxL ret).before a A.U = true := hws _ hcode _ _ X.warmed
  have h3 : (Cond.initialized y.cls).before a A.U = true := hinit _ _ X.warmed
  have h4 : A.cells + (headSpec ws rm).room.cells ≤ R.cells := by rw [show (headSpec ws rm).room.cells = mc from hrc]; exact hp.1
  have h5 : A.slots + (headSpec ws rm).room.slots ≤ R.slots := by rw [show (headSpec ws rm).room.slots = ms from hrs]; exact hp.2.1
  have hPc : Pc a (A.U.calling g mk a) := hblind _ _ _ _ hp.2.2
  obtain ⟨U, Ls, c0, s0⟩ := A
  dsimp only [Pt.U, Pt.locs, Pt.cells, Pt.slots] at h1 h2 h3 h4 h5 X hn hPc ⊢
  obtain ⟨methY, cY, hmY, hcY, -, hlY, -, -, -, -⟩ := Cond.code_spec hn h2
  obtain ⟨kY, hkY, -⟩ := className_of_methodNamed hn
  have hinitY : kY.init = .initialized := Cond.initialized_spec (findClass_of_methodNamed hn) hkY h3
  have h : At U g.method c below := by rw [hg]; exact X.here
  have hlocals9 : W9 + (maxL + 11) + (headSpec ws rm).room.locals ≤ R.locals := hlocals
  have happ : (headSpec ws rm).appliesLoose y e.platform (U.calling g mk a) = true :=
    Spec.appliesLoose_calling (g := g) h hdg hn hkY hinitY
      (X.room_calling (g := g) (R' := (headSpec ws rm).room) hsize hmY hcY hframes (by rw [hlY]; omega) h4 h5) h1
  obtain ⟨mid, hmid⟩ := h.above
  have hfr : (U.setTop g).frames = (.java g :: mid) ++ below := by rw [State.frames_setTop' g h.top, hmid]; rfl
  obtain ⟨o, s₂, hsteps, -, hend, hq⟩ := Steps.callFree hM p X.admits X.cas X.clock (acts := []) hfr happ hPc trivial
  have hq' : vx_Q Qc XC mc ms free a (U.calling g mk a) o s₂ := hq
  rw [State.frames_setTop' g h.top] at hend
  obtain ⟨g₀, hg0⟩ := Option.isSome_iff_exists.mp h.top
  obtain ⟨r, hr⟩ := State.topJava?_eq_some.mp hg0
  have hr' : (({ U with heap := s₂.heap, slotsUsed := s₂.slotsUsed } : State).setVm s₂.vm).frames = .java g₀ :: r := hr
  rcases hq' with ⟨hqc, L, hfe, hL⟩ | ⟨q, rfl, E, ce, L, hx, hce, hcv, hcl, hW₂, hsm, hL⟩
  · obtain ⟨⟨v, rfl⟩, hW₂, e2, q2, q3, q4, q5, q6⟩ := id hfe
    have e3 : s₂ = ({ (U.calling g mk a).setFrames s₂.frames with heap := s₂.heap, slotsUsed := s₂.slotsUsed } : State).setVm s₂.vm := by
      have : s₂ = ({ s₂ with vm := (U.calling g mk a).vm } : State).setVm s₂.vm := rfl
      rw [e2] at this
      exact this
    obtain ⟨c₂, i₂, len₂, hc₂, hd₂, hf₂⟩ := hend
    have hW' : U.WarmedH s₂.vm := hW₂
    have hcc : c₂ = c := by
      have h1 : s₂.code? g.method = U.code? g.method := by
        rw [State.code?_eq, State.code?_eq, hW'.alike.method?]
      exact Option.some.inj (hc₂.symm.trans (h1.trans h.code))
    subst hcc
    have hlen : len₂ = len := by rw [hdg] at hd₂; cases hd₂; rfl
    subst hlen
    have hs₂ : s₂ = (({ U with heap := s₂.heap, slotsUsed := s₂.slotsUsed } : State).setVm s₂.vm).setTop { g with pc := g.pc + len₂, stack := v.toList ++ g.stack } := by
      refine e3.trans ?_
      rw [hf₂, State.calling_eq h.top, State.setFrames_setFrames, State.setTop_of_frames _ hr', hr]
      rfl
    have hsame : U.sameButNew ({ U with heap := s₂.heap, slotsUsed := s₂.slotsUsed } : State) L mc ms := by
      refine ⟨?_, q2, q3, q4, q5, q6⟩
      obtain ⟨t, ht, -⟩ := State.frames_cons hr
      show ({ U with heap := s₂.heap, slotsUsed := s₂.slotsUsed } : State) = { U.setFrames U.frames with heap := s₂.heap, slotsUsed := s₂.slotsUsed }
      rw [State.setFrames_self ht]
    subst hg
    refine Or.inl ⟨v, ⟨(({ U with heap := s₂.heap, slotsUsed := s₂.slotsUsed } : State).setVm s₂.vm), Ls ++ L, c0 + mc, s0 + ms⟩,
      ⟨X.admits, X.cas, X.clock, X.frames, X.room, X.hears, X.method, X.code, (X.here.setHeapUsed s₂.heap s₂.slotsUsed).setVm hW'.alike, X.tail, State.WarmedH.trans X.warmed hW', X.limits, X.bytes, X.same.trans (hsame.setVm s.vm)⟩,
      ⟨g, mk, s₂, L, rfl, rfl, hqc, rfl, hL, rfl, rfl⟩, ?_⟩
    show Steps p.tables e below _ ((({ U with heap := s₂.heap, slotsUsed := s₂.slotsUsed } : State).setVm s₂.vm).setTop { g with pc := g.pc + len₂, stack := v.toList ++ g.stack })
    rw [← hs₂]
    exact hsteps
  · obtain ⟨e2, q2, q3, q4, q5, q6⟩ := id hsm
    have e3 : s₂ = ({ (U.calling g mk a).setFrames s₂.frames with heap := s₂.heap, slotsUsed := s₂.slotsUsed } : State).setVm s₂.vm := by
      have : s₂ = ({ s₂ with vm := (U.calling g mk a).vm } : State).setVm s₂.vm := rfl
      rw [e2] at this
      exact this
    have hf₂ : s₂.frames = .throwing q :: .java g :: U.frames.tail := hend
    have hW' : U.WarmedH s₂.vm := hW₂
    have hs₂ : s₂ = ((({ U with heap := s₂.heap, slotsUsed := s₂.slotsUsed } : State).setVm s₂.vm).setTop g).pushFrame (.throwing q) := by
      refine e3.trans ?_
      rw [hf₂, State.calling_eq h.top, State.setFrames_setFrames, State.pushFrame, State.frames_setTop _ hr', State.setTop_of_frames _ hr', State.setFrames_setFrames, hr]
      rfl
    have hsame : U.sameButNew ({ U with heap := s₂.heap, slotsUsed := s₂.slotsUsed } : State) L mc ms := by
      refine ⟨?_, q2, q3, q4, q5, q6⟩
      obtain ⟨t, ht, -⟩ := State.frames_cons hr
      show ({ U with heap := s₂.heap, slotsUsed := s₂.slotsUsed } : State) = { U.setFrames U.frames with heap := s₂.heap, slotsUsed := s₂.slotsUsed }
      rw [State.setFrames_self ht]
    subst hg
    refine Or.inr ⟨q, ⟨(({ U with heap := s₂.heap, slotsUsed := s₂.slotsUsed } : State).setVm s₂.vm), Ls ++ L, c0 + mc, s0 + ms⟩,
      ⟨X.admits, X.cas, X.clock, X.frames, X.room, X.hears, X.method, X.code, (X.here.setHeapUsed s₂.heap s₂.slotsUsed).setVm hW'.alike, X.tail, State.WarmedH.trans X.warmed hW', X.limits, X.bytes, X.same.trans (hsame.setVm s.vm)⟩,
      ⟨g, mk, s₂, L, E, ce, rfl, rfl, hx, hce, hcv, hcl, rfl, hL, rfl, rfl⟩, ?_⟩
    show Steps p.tables e below _ (((({ U with heap := s₂.heap, slotsUsed := s₂.slotsUsed } : State).setVm s₂.vm).setTop g).pushFrame (.throwing q))
    rw [← hs₂]
    exact hsteps
end Payer
section Calls
variable {p : Program} {l : Launch} {e : Env} {R : Room} {s : State} {m : MethodId} {args : Array Value} {below : List Frame} {meth : Method} {c : Code} {T : State} {locs : List Loc} {cells slots : Nat}
theorem vx_callV (X : Stand p l e R s m args below meth c T locs cells slots) (hexec : p.tables.exec = Jvm.exec) {own C : String} {index : Nat} {y : MethodName} {bytes : ByteArray} {maxL : Nat} {ret : Option FieldType}
    (hown : s.vm.findClass own = some m.cls) (hlink : (Cond.methodLink own index y).before args s = true) (hinst : (Cond.instanceMethod y).before args s = true) (hsel : (Cond.selects C y y).before args s = true)
    (hcode : (Cond.code y bytes maxL ret).before args s = true) (hy : y.cls ≠ "java/lang/invoke/MethodHandle" ∧ y.cls ≠ "java/lang/invoke/VarHandle")
    {W9 : Nat} {Pre : Pt → Array Value → Prop} {Post : Pt → Array Value → Option Value → Pt → Prop} {PostX : Pt → Array Value → Addr → Pt → Prop} (hK : vx_Back l R p e below s args y 3 W9 Pre Post PostX)
    {b : Addr} {cellB : Cell} (hcell : T.heap[b]? = some cellB) (hobj : cellB.vm.isStatics = false) (hcls : s.vm.findClass C = some cellB.cls)
    {g : JFrame} (hg : g.method = m) (hsize : g.locals.size = c.maxLocals) {argsL rest : List Value} (hlen : ∀ sig, parseMethodDescriptor y.desc = some sig → argsL.length = sig.parameters.length)
    (hstack : g.stack = argsL.reverse ++ .ref b :: rest) (hW : 2 * g.monitorRoom + (rest.map fun v => v.category).sum ≤ W9) (hdg : decode c.code g.pc = .ok (.invokevirtual index, 3))
    (hpre : ∀ vm₁, s.WarmedH vm₁ → Pre ⟨T.setVm vm₁, locs, cells, slots⟩ (Value.ref b :: argsL).toArray) :
    (∃ (v : Option Value) (vm₁ : Vm) (B : Pt), s.WarmedH vm₁ ∧ Stand p l e R s m args below meth c B.U B.locs B.cells B.slots ∧ Post ⟨T.setVm vm₁, locs, cells, slots⟩ (Value.ref b :: argsL).toArray v B ∧
      ∀ target, Steps p.tables e below (B.U.setTop { g with pc := g.pc + 3, stack := v.toList ++ rest }) target → Steps p.tables e below (T.setTop g) target) ∨
    (∃ (q : Addr) (vm₁ : Vm) (B : Pt), s.WarmedH vm₁ ∧ Stand p l e R s m args below meth c B.U B.locs B.cells B.slots ∧ PostX ⟨T.setVm vm₁, locs, cells, slots⟩ (Value.ref b :: argsL).toArray q B ∧
      Steps p.tables e below (T.setTop g) ((B.U.setTop { g with stack := rest }).pushFrame (.throwing q))) := by
  obtain ⟨mk, methM, hnamed, hmethM, hstM, habM⟩ := Cond.instanceMethod_spec hinst
  obtain ⟨methM', cM, hmethM', -, -, -, -, -, -, hsigM⟩ := Cond.code_spec hnamed hcode
  cases hmethM.symm.trans hmethM'
  obtain ⟨c2, r2, m2, q1, q2, q3, q4, kP, hkP, hkPi⟩ := Cond.selects_spec hsel
  cases hcls.symm.trans q1
  cases (State.methodFound?_of_named hnamed hy).symm.trans q2
  cases hnamed.symm.trans q3
  have hselP : selectMethod e.platform s.vm cellB.cls mk = .method mk := by rw [Launch.admits_selectMethod X.admits]; exact q4
  obtain ⟨vm₁, X₁, hstep₁⟩ := X.invokevirtual hexec hown hlink hnamed hmethM hstM hkP hkPi hy (a := b) (cell := cellB) hcell
    (fun z h => by rw [h] at hobj; cases hobj) hselP hmethM habM hkP hkPi (g := g) hg (argsL := argsL) (rest := rest) (hlen _ hsigM) hstack hdg
  rcases hK m meth c ⟨T.setVm vm₁, locs, cells, slots⟩ { g with stack := rest } (.invokevirtual index) mk (Value.ref b :: argsL).toArray X₁ hg hsize hdg hW (X₁.named hnamed) (hpre vm₁ X₁.warmed) with ⟨v, B, X', hpost, hsteps⟩ | ⟨q, B, X', hpost, hsteps⟩
  · exact Or.inl ⟨v, vm₁, B, X₁.warmed, X', hpost, fun target h => hstep₁ _ fun acts => by rw [doInvoke_state]; exact hsteps.trans h⟩
  · exact Or.inr ⟨q, vm₁, B, X₁.warmed, X', hpost, hstep₁ _ fun acts => by rw [doInvoke_state]; exact hsteps⟩
theorem vx_callS (X : Stand p l e R s m args below meth c T locs cells slots) (hexec : p.tables.exec = Jvm.exec) {own : String} {index : Nat} {y : MethodName} {bytes : ByteArray} {maxL : Nat} {ret : Option FieldType}
    (hown : s.vm.findClass own = some m.cls) (hlink : (Cond.methodLink own index y).before args s = true) (hstat : (Cond.static y).before args s = true) (hinit : (Cond.initialized y.cls).before args s = true)
    (hcode : (Cond.code y bytes maxL ret).before args s = true) (hy : y.cls ≠ "java/lang/invoke/MethodHandle" ∧ y.cls ≠ "java/lang/invoke/VarHandle")
    {W9 : Nat} {Pre : Pt → Array Value → Prop} {Post : Pt → Array Value → Option Value → Pt → Prop} {PostX : Pt → Array Value → Addr → Pt → Prop} (hK : vx_Back l R p e below s args y 3 W9 Pre Post PostX)
    {g : JFrame} (hg : g.method = m) (hsize : g.locals.size = c.maxLocals) {argsL rest : List Value} (hlen : ∀ sig, parseMethodDescriptor y.desc = some sig → argsL.length = sig.parameters.length)
    (hstack : g.stack = argsL.reverse ++ rest) (hW : 2 * g.monitorRoom + (rest.map fun v => v.category).sum ≤ W9) (hdg : decode c.code g.pc = .ok (.invokestatic index, 3))
    (hpre : ∀ vm₁, s.WarmedH vm₁ → Pre ⟨T.setVm vm₁, locs, cells, slots⟩ argsL.toArray) :
    (∃ (v : Option Value) (vm₁ : Vm) (B : Pt), s.WarmedH vm₁ ∧ Stand p l e R s m args below meth c B.U B.locs B.cells B.slots ∧ Post ⟨T.setVm vm₁, locs, cells, slots⟩ argsL.toArray v B ∧
      ∀ target, Steps p.tables e below (B.U.setTop { g with pc := g.pc + 3, stack := v.toList ++ rest }) target → Steps p.tables e below (T.setTop g) target) ∨
    (∃ (q : Addr) (vm₁ : Vm) (B : Pt), s.WarmedH vm₁ ∧ Stand p l e R s m args below meth c B.U B.locs B.cells B.slots ∧ PostX ⟨T.setVm vm₁, locs, cells, slots⟩ argsL.toArray q B ∧
      Steps p.tables e below (T.setTop g) ((B.U.setTop { g with stack := rest }).pushFrame (.throwing q))) := by
  obtain ⟨mk, hnamed⟩ := Cond.code_named hcode
  obtain ⟨methM, cM, hmethM, -, -, -, -, -, -, hsigM⟩ := Cond.code_spec hnamed hcode
  have hstatic : methM.isStatic = true := Cond.static_spec hnamed hmethM hstat
  obtain ⟨kP, hkP, -⟩ := className_of_methodNamed hnamed
  have hinitP : kP.init = .initialized := Cond.initialized_spec (findClass_of_methodNamed hnamed) hkP hinit
  obtain ⟨vm₁, X₁, hstep₁⟩ := X.invokestatic hexec hown hlink hnamed hmethM hstatic hkP hinitP hy (g := g) hg (argsL := argsL) (rest := rest) (hlen _ hsigM) hstack hdg
  rcases hK m meth c ⟨T.setVm vm₁, locs, cells, slots⟩ { g with stack := rest } (.invokestatic index) mk argsL.toArray X₁ hg hsize hdg hW (X₁.named hnamed) (hpre vm₁ X₁.warmed) with ⟨v, B, X', hpost, hsteps⟩ | ⟨q, B, X', hpost, hsteps⟩
  · exact Or.inl ⟨v, vm₁, B, X₁.warmed, X', hpost, fun target h => hstep₁ _ fun acts => by rw [doInvoke_state]; exact hsteps.trans h⟩
  · exact Or.inr ⟨q, vm₁, B, X₁.warmed, X', hpost, hstep₁ _ fun acts => by rw [doInvoke_state]; exact hsteps⟩
end Calls
theorem vx_cls {s : State} {T : State} {vm₁ : Vm} {E : String} {k : ClassId} (hW : s.WarmedH vm₁) (h : (T.setVm vm₁).vm.findClass E = some k) : s.vm.findClass E = some k := by
  have h1 : vm₁.findClass E = some k := h
  rw [hW.alike.findClass] at h1
  exact h1
/-- the method's frame g, with q thrown over it -/
def vx_W (p : Program) (l : Launch) (e : Env) (R : Room) (s : State) (m : MethodId) (args : Array Value) (below : List Frame) (meth : Method) (c : Code) (H : Heap) (locs : List Loc) (cells slots : Nat) (Q : State → Prop) (g : JFrame) (q : Addr) : Prop :=
  ∀ T : State, T.heap = H → Stand p l e R s m args below meth c T locs cells slots → ∃ t, Steps p.tables e below ((T.setTop g).pushFrame (.throwing q)) t ∧ Q t
def vx_Run (p : Program) (l : Launch) (e : Env) (R : Room) (s : State) (m : MethodId) (args : Array Value) (below : List Frame) (meth : Method) (c : Code) (H : Heap) (locs : List Loc) (cells slots mc ms : Nat) (g : JFrame) (rest : List Value) (Qa : State → Outcome → State → Prop) (XC : String → State → State → Prop) (free : Addr → Prop) : Prop :=
  ∀ T : State, T.heap = H → Stand p l e R s m args below meth c T locs cells slots →
    (∃ (v : Option Value) (st₀ t T' : State) (L : List Loc), st₀.heap = H ∧ Stand p l e R s m args below meth c T' (locs ++ L) (cells + mc) (slots + ms) ∧ (∀ q ∈ L, free q.base) ∧ T'.heap = t.heap ∧ T'.vm = t.vm ∧ Qa st₀ (.returned v) t ∧
      Goes p e below T g T' { g with pc := g.pc + 3, stack := v.toList ++ rest }) ∨
    (∃ (q : Addr) (st₀ t T' : State) (L : List Loc) (E : String) (ce : Cell), st₀.heap = H ∧ Stand p l e R s m args below meth c T' (locs ++ L) (cells + mc) (slots + ms) ∧ (∀ z ∈ L, free z.base) ∧ T'.heap = t.heap ∧ T'.vm = t.vm ∧ XC E st₀ t ∧ t.heap[q]? = some ce ∧ ce.vm = .none ∧ s.vm.findClass E = some ce.cls ∧
      Steps p.tables e below (T.setTop g) ((T'.setTop { g with stack := rest }).pushFrame (.throwing q)))
def vx_X {S : Type} (px : S → Prop) (B : String → S → State → Prop) (A : Nat → Prop) : String → State → State → Prop := fun E st t => ∃ u : S, px u ∧ B E u t ∧ va_F A st t
section Runs
variable {p : Program} {l : Launch} {e : Env} {R : Room} {s : State} {m : MethodId} {args : Array Value} {below : List Frame} {meth : Method} {c : Code} {H : Heap} {locs : List Loc} {cells slots : Nat}
variable {y : MethodName} {bytes cc : ByteArray} {maxL nL mc ms n index : Nat} {ret : Option FieldType} {ws : List Cond} {rm : Room} {Pc : Array Value → State → Prop} {Qc : Array Value → State → Outcome → State → Prop} {XC : String → State → State → Prop} {free : Addr → Prop} {Ts : List Cond} {own C : String} {b : Addr} {As rest : List Value} {g : JFrame}
theorem vx_callBack (cb : CallB R s args own index y bytes maxL ret ws rm mc ms n) (hM : vx_Met l y ws rm Pc Qc XC mc ms free) (hbl : FrameBlind Pc) : vx_Back l R p e below s args y 3 8 (PreOf R mc ms Pc) (PostOf Qc mc ms free) (vx_Post XC mc ms free) := by
  obtain ⟨hrc, hrs, hfr, hlo, hws, hcw, -, hini, -⟩ := cb
  exact vx_back (bytes := bytes) (maxL := maxL) (ret := ret) hM hbl hrc hrs hfr hlo hws hcw (fun a' U hW => word_at hW (Or.inl (by first | rfl | simp [Cond.onTables, Cond.keeps, Cond.steady])) hini)
theorem vx_runV (S : CallFix p m c cc nL s args Ts own) (hM : vx_Met l y ws rm Pc Qc XC mc ms free) (cw : CallW R s args own C index y bytes maxL ret ws rm mc ms n) (hp : PreV s H C b Pc As)
    (hg : g.method = m) (hn : As.length = n) (hsize : g.locals.size = nL) (hstack : g.stack = As.reverse ++ .ref b :: rest) (hW : 2 * g.monitorRoom + (rest.map fun v => v.category).sum ≤ 8) (hdg : decode cc g.pc = .ok (.invokevirtual index, 3)) (hf : cells + mc ≤ R.cells ∧ slots + ms ≤ R.slots) :
    vx_Run p l e R s m args below meth c H locs cells slots mc ms g rest (Qc (Value.ref b :: As).toArray) XC free := by
  have hK : vx_Back l R p e below s args y 3 8 (PreOf R mc ms Pc) (PostOf Qc mc ms free) (vx_Post XC mc ms free) := vx_callBack cw.1 hM hp.1
  obtain ⟨⟨-, -, -, -, -, -, hcode, -, hy, hlen, hl⟩, hin, hse⟩ := cw
  obtain ⟨hx, hb, hml, ho, -⟩ := S
  obtain ⟨-, ⟨cellB, hcB, hoB, hclB⟩, hPc⟩ := hp
  intro T hT X
  rcases vx_callV X hx (C := C) (bytes := bytes) (maxL := maxL) (ret := ret) ho hl hin hse hcode hy hK (by rw [hT]; exact hcB) hoB hclB hg (hsize.trans hml.symm) (argsL := As) (rest := rest) (fun sig h => hn.trans (hlen sig h)) hstack hW (by rw [hb]; exact hdg)
    (fun vm₁ hW₁ => ⟨hf.1, hf.2, hPc (T.setVm vm₁) hT hW₁⟩) with ⟨v, vm₁, ⟨U', l2, c2, s2⟩, hW₁, X', ⟨g', mk, t, L, e1, e2, hq, h1, hL, h2, h3⟩, st⟩ | ⟨q, vm₁, ⟨U', l2, c2, s2⟩, hW₁, X', ⟨g', mk, t, L, E, ce, e1, e2, hq, hce, hcv, hcl, h1, hL, h2, h3⟩, st⟩
  · dsimp only [Pt.U, Pt.locs, Pt.cells, Pt.slots] at X' e1 e2 h1 h2 h3 st
    subst h1; subst h2; subst h3
    exact Or.inl ⟨v, (T.setVm vm₁).calling g' mk (Value.ref b :: As).toArray, t, U', L, hT, X', hL, e1, e2, hq, st⟩
  · dsimp only [Pt.U, Pt.locs, Pt.cells, Pt.slots] at X' e1 e2 h1 h2 h3 st hcl
    subst h1; subst h2; subst h3
    exact Or.inr ⟨q, (T.setVm vm₁).calling g' mk (Value.ref b :: As).toArray, t, U', L, E, ce, hT, X', hL, e1, e2, hq, hce, hcv, vx_cls hW₁ hcl, st⟩
theorem vx_runS (S : CallFix p m c cc nL s args Ts own) (hM : vx_Met l y ws rm Pc Qc XC mc ms free) (cw : CallB R s args own index y bytes maxL ret ws rm mc ms n ∧ (Cond.static y).before args s = true) (hp : PreS s H Pc As)
    (hg : g.method = m) (hn : As.length = n) (hsize : g.locals.size = nL) (hstack : g.stack = As.reverse ++ rest) (hW : 2 * g.monitorRoom + (rest.map fun v => v.category).sum ≤ 8) (hdg : decode cc g.pc = .ok (.invokestatic index, 3)) (hf : cells + mc ≤ R.cells ∧ slots + ms ≤ R.slots) :
    vx_Run p l e R s m args below meth c H locs cells slots mc ms g rest (Qc As.toArray) XC free := by
  have hK : vx_Back l R p e below s args y 3 8 (PreOf R mc ms Pc) (PostOf Qc mc ms free) (vx_Post XC mc ms free) := vx_callBack cw.1 hM hp.1
  obtain ⟨⟨-, -, -, -, -, -, hcode, hini, hy, hlen, hl⟩, hstt⟩ := cw
  obtain ⟨hx, hb, hml, ho, -⟩ := S
  intro T hT X
  rcases vx_callS X hx (bytes := bytes) (maxL := maxL) (ret := ret) ho hl hstt hini hcode hy hK hg (hsize.trans hml.symm) (argsL := As) (rest := rest) (fun sig h => hn.trans (hlen sig h)) hstack hW (by rw [hb]; exact hdg)
    (fun vm₁ hW₁ => ⟨hf.1, hf.2, hp.2 (T.setVm vm₁) hT hW₁⟩) with ⟨v, vm₁, ⟨U', l2, c2, s2⟩, hW₁, X', ⟨g', mk, t, L, e1, e2, hq, h1, hL, h2, h3⟩, st⟩ | ⟨q, vm₁, ⟨U', l2, c2, s2⟩, hW₁, X', ⟨g', mk, t, L, E, ce, e1, e2, hq, hce, hcv, hcl, h1, hL, h2, h3⟩, st⟩
  · dsimp only [Pt.U, Pt.locs, Pt.cells, Pt.slots] at X' e1 e2 h1 h2 h3 st
    subst h1; subst h2; subst h3
    exact Or.inl ⟨v, (T.setVm vm₁).calling g' mk As.toArray, t, U', L, hT, X', hL, e1, e2, hq, st⟩
  · dsimp only [Pt.U, Pt.locs, Pt.cells, Pt.slots] at X' e1 e2 h1 h2 h3 st hcl
    subst h1; subst h2; subst h3
    exact Or.inr ⟨q, (T.setVm vm₁).calling g' mk As.toArray, t, U', L, E, ce, hT, X', hL, e1, e2, hq, hce, hcv, vx_cls hW₁ hcl, st⟩
end Runs
section Rows
variable {p : Program} {l : Launch} {e : Env} {R : Room} {s : State} {m : MethodId} {args : Array Value} {below : List Frame} {meth : Method} {c : Code} {H : Heap} {locs : List Loc} {cells slots : Nat} {Q : State → Prop}
variable {mc ms : Nat} {free : Addr → Prop} {A0 A1 : Nat → Prop} {H0 : Heap} {a : Array Value} {pc : Nat} {ls : Array Slot} {st0 rest : List Value}
theorem vx_keep {st₀ t T' : State} {L : List Loc} (h0 : st₀.heap = H) (e1 : T'.heap = t.heap) (hS : va_S A0 H0 H locs) (hA : ∀ q, q < H.size → A1 q → A0 q) (hf : ∀ q, free q → A0 q) (hL : ∀ q ∈ L, free q.base) (hF : va_F A1 st₀ t) :
    H.size ≤ T'.heap.size ∧ (∀ q : Nat, q < H.size → ¬ A1 q → T'.heap[q]? = H[q]?) ∧ va_S A0 H0 T'.heap (locs ++ L) := by
  obtain ⟨hz, hk⟩ := hF
  rw [h0] at hz hk
  exact ⟨by rw [e1]; exact hz, fun q h1 h2 => by rw [e1]; exact hk q h1 h2,
    ⟨Nat.le_trans hS.1 (by rw [e1]; exact hz), fun q h1 h2 => by rw [e1, hk q (Nat.lt_of_lt_of_le h1 hS.1) (fun z => h2 (hA q (Nat.lt_of_lt_of_le h1 hS.1) z))]; exact hS.2.1 q h1 h2, fun q hq => by
      rcases List.mem_append.mp hq with h | h
      · exact hS.2.2 q h
      · exact hf _ (hL q h)⟩⟩
theorem vx_calli {S SX : Type} {post : Int32 → S → Prop} {px : SX → Prop} {B : S → State → Prop} {BX : String → SX → State → Prop} {AX : Nat → Prop} (hr : vx_Run p l e R s m args below meth c H locs cells slots mc ms (F0 m pc ls st0) rest (va_Qi post B A1 a) (vx_X px BX AX) free) (hS : va_S A0 H0 H locs) (hA : ∀ q, q < H.size → A1 q → A0 q) (hf : ∀ q, free q → A0 q) (hAX : ∀ q, q < H.size → AX q → A0 q)
    (kx : ∀ (E : String) (ce : Cell) (q9 : Addr) (u : SX) (t : State) (H1 : Heap) (locs1 : List Loc), t.heap = H1 → s.vm.Alike t.vm → px u → BX E u t → H.size ≤ H1.size → (∀ q : Nat, q < H.size → ¬ AX q → H1[q]? = H[q]?) → va_S A0 H0 H1 locs1 → H1[q9]? = some ce → ce.vm = .none → s.vm.findClass E = some ce.cls → vx_W p l e R s m args below meth c H1 locs1 (cells + mc) (slots + ms) Q (F0 m pc ls rest) q9)
    (kk : ∀ (r : Int32) (u : S) (t : State) (H1 : Heap) (locs1 : List Loc), t.heap = H1 → s.vm.Alike t.vm → post r u → B u t → H.size ≤ H1.size → (∀ q : Nat, q < H.size → ¬ A1 q → H1[q]? = H[q]?) → va_S A0 H0 H1 locs1 → W p l e R s m args below meth c H1 locs1 (cells + mc) (slots + ms) Q (F0 m (pc + 3) ls (.int r :: rest))) : W p l e R s m args below meth c H locs cells slots Q (F0 m pc ls st0) := by
  intro T hT X
  rcases hr T hT X with ⟨v, st₀, t, T', L, h0, X', hL, e1, e2, ⟨⟨r, u, hv, hp, hb⟩, hF⟩, st⟩ | ⟨q, st₀, t, T', L, E, ce, h0, X', hL, e1, e2, ⟨u, hp, hb, hF⟩, hce, hcv, hcl, st⟩
  · cases hv
    obtain ⟨k1, k2, k3⟩ := vx_keep h0 e1 hS hA hf hL hF
    obtain ⟨t2, a1, b1⟩ := kk r u t T'.heap (locs ++ L) e1.symm (by rw [← e2]; exact X'.warmed.alike) hp hb k1 k2 k3 T' rfl X'
    exact ⟨t2, st t2 a1, b1⟩
  · obtain ⟨k1, k2, k3⟩ := vx_keep h0 e1 hS hAX hf hL hF
    obtain ⟨t2, a1, b1⟩ := kx E ce q u t T'.heap (locs ++ L) e1.symm (by rw [← e2]; exact X'.warmed.alike) hp hb k1 k2 k3 (by rw [e1]; exact hce) hcv hcl T' rfl X'
    exact ⟨t2, st.trans a1, b1⟩
theorem vx_calll {S SX : Type} {post : Int64 → S → Prop} {px : SX → Prop} {B : S → State → Prop} {BX : String → SX → State → Prop} {AX : Nat → Prop} (hr : vx_Run p l e R s m args below meth c H locs cells slots mc ms (F0 m pc ls st0) rest (va_Ql post B A1 a) (vx_X px BX AX) free) (hS : va_S A0 H0 H locs) (hA : ∀ q, q < H.size → A1 q → A0 q) (hf : ∀ q, free q → A0 q) (hAX : ∀ q, q < H.size → AX q → A0 q)
    (kx : ∀ (E : String) (ce : Cell) (q9 : Addr) (u : SX) (t : State) (H1 : Heap) (locs1 : List Loc), t.heap = H1 → s.vm.Alike t.vm → px u → BX E u t → H.size ≤ H1.size → (∀ q : Nat, q < H.size → ¬ AX q → H1[q]? = H[q]?) → va_S A0 H0 H1 locs1 → H1[q9]? = some ce → ce.vm = .none → s.vm.findClass E = some ce.cls → vx_W p l e R s m args below meth c H1 locs1 (cells + mc) (slots + ms) Q (F0 m pc ls rest) q9)
    (kk : ∀ (r : Int64) (u : S) (t : State) (H1 : Heap) (locs1 : List Loc), t.heap = H1 → s.vm.Alike t.vm → post r u → B u t → H.size ≤ H1.size → (∀ q : Nat, q < H.size → ¬ A1 q → H1[q]? = H[q]?) → va_S A0 H0 H1 locs1 → W p l e R s m args below meth c H1 locs1 (cells + mc) (slots + ms) Q (F0 m (pc + 3) ls (.long r :: rest))) : W p l e R s m args below meth c H locs cells slots Q (F0 m pc ls st0) := by
  intro T hT X
  rcases hr T hT X with ⟨v, st₀, t, T', L, h0, X', hL, e1, e2, ⟨⟨r, u, hv, hp, hb⟩, hF⟩, st⟩ | ⟨q, st₀, t, T', L, E, ce, h0, X', hL, e1, e2, ⟨u, hp, hb, hF⟩, hce, hcv, hcl, st⟩
  · cases hv
    obtain ⟨k1, k2, k3⟩ := vx_keep h0 e1 hS hA hf hL hF
    obtain ⟨t2, a1, b1⟩ := kk r u t T'.heap (locs ++ L) e1.symm (by rw [← e2]; exact X'.warmed.alike) hp hb k1 k2 k3 T' rfl X'
    exact ⟨t2, st t2 a1, b1⟩
  · obtain ⟨k1, k2, k3⟩ := vx_keep h0 e1 hS hAX hf hL hF
    obtain ⟨t2, a1, b1⟩ := kx E ce q u t T'.heap (locs ++ L) e1.symm (by rw [← e2]; exact X'.warmed.alike) hp hb k1 k2 k3 (by rw [e1]; exact hce) hcv hcl T' rfl X'
    exact ⟨t2, st.trans a1, b1⟩
theorem vx_callf {S SX : Type} {post : UInt32 → S → Prop} {px : SX → Prop} {B : S → State → Prop} {BX : String → SX → State → Prop} {AX : Nat → Prop} (hr : vx_Run p l e R s m args below meth c H locs cells slots mc ms (F0 m pc ls st0) rest (va_Qf post B A1 a) (vx_X px BX AX) free) (hS : va_S A0 H0 H locs) (hA : ∀ q, q < H.size → A1 q → A0 q) (hf : ∀ q, free q → A0 q) (hAX : ∀ q, q < H.size → AX q → A0 q)
    (kx : ∀ (E : String) (ce : Cell) (q9 : Addr) (u : SX) (t : State) (H1 : Heap) (locs1 : List Loc), t.heap = H1 → s.vm.Alike t.vm → px u → BX E u t → H.size ≤ H1.size → (∀ q : Nat, q < H.size → ¬ AX q → H1[q]? = H[q]?) → va_S A0 H0 H1 locs1 → H1[q9]? = some ce → ce.vm = .none → s.vm.findClass E = some ce.cls → vx_W p l e R s m args below meth c H1 locs1 (cells + mc) (slots + ms) Q (F0 m pc ls rest) q9)
    (kk : ∀ (r : UInt32) (u : S) (t : State) (H1 : Heap) (locs1 : List Loc), t.heap = H1 → s.vm.Alike t.vm → post r u → B u t → H.size ≤ H1.size → (∀ q : Nat, q < H.size → ¬ A1 q → H1[q]? = H[q]?) → va_S A0 H0 H1 locs1 → W p l e R s m args below meth c H1 locs1 (cells + mc) (slots + ms) Q (F0 m (pc + 3) ls (.float r :: rest))) : W p l e R s m args below meth c H locs cells slots Q (F0 m pc ls st0) := by
  intro T hT X
  rcases hr T hT X with ⟨v, st₀, t, T', L, h0, X', hL, e1, e2, ⟨⟨r, u, hv, hp, hb⟩, hF⟩, st⟩ | ⟨q, st₀, t, T', L, E, ce, h0, X', hL, e1, e2, ⟨u, hp, hb, hF⟩, hce, hcv, hcl, st⟩
  · cases hv
    obtain ⟨k1, k2, k3⟩ := vx_keep h0 e1 hS hA hf hL hF
    obtain ⟨t2, a1, b1⟩ := kk r u t T'.heap (locs ++ L) e1.symm (by rw [← e2]; exact X'.warmed.alike) hp hb k1 k2 k3 T' rfl X'
    exact ⟨t2, st t2 a1, b1⟩
  · obtain ⟨k1, k2, k3⟩ := vx_keep h0 e1 hS hAX hf hL hF
    obtain ⟨t2, a1, b1⟩ := kx E ce q u t T'.heap (locs ++ L) e1.symm (by rw [← e2]; exact X'.warmed.alike) hp hb k1 k2 k3 (by rw [e1]; exact hce) hcv hcl T' rfl X'
    exact ⟨t2, st.trans a1, b1⟩
theorem vx_calld {S SX : Type} {post : UInt64 → S → Prop} {px : SX → Prop} {B : S → State → Prop} {BX : String → SX → State → Prop} {AX : Nat → Prop} (hr : vx_Run p l e R s m args below meth c H locs cells slots mc ms (F0 m pc ls st0) rest (va_Qd post B A1 a) (vx_X px BX AX) free) (hS : va_S A0 H0 H locs) (hA : ∀ q, q < H.size → A1 q → A0 q) (hf : ∀ q, free q → A0 q) (hAX : ∀ q, q < H.size → AX q → A0 q)
    (kx : ∀ (E : String) (ce : Cell) (q9 : Addr) (u : SX) (t : State) (H1 : Heap) (locs1 : List Loc), t.heap = H1 → s.vm.Alike t.vm → px u → BX E u t → H.size ≤ H1.size → (∀ q : Nat, q < H.size → ¬ AX q → H1[q]? = H[q]?) → va_S A0 H0 H1 locs1 → H1[q9]? = some ce → ce.vm = .none → s.vm.findClass E = some ce.cls → vx_W p l e R s m args below meth c H1 locs1 (cells + mc) (slots + ms) Q (F0 m pc ls rest) q9)
    (kk : ∀ (r : UInt64) (u : S) (t : State) (H1 : Heap) (locs1 : List Loc), t.heap = H1 → s.vm.Alike t.vm → post r u → B u t → H.size ≤ H1.size → (∀ q : Nat, q < H.size → ¬ A1 q → H1[q]? = H[q]?) → va_S A0 H0 H1 locs1 → W p l e R s m args below meth c H1 locs1 (cells + mc) (slots + ms) Q (F0 m (pc + 3) ls (.double r :: rest))) : W p l e R s m args below meth c H locs cells slots Q (F0 m pc ls st0) := by
  intro T hT X
  rcases hr T hT X with ⟨v, st₀, t, T', L, h0, X', hL, e1, e2, ⟨⟨r, u, hv, hp, hb⟩, hF⟩, st⟩ | ⟨q, st₀, t, T', L, E, ce, h0, X', hL, e1, e2, ⟨u, hp, hb, hF⟩, hce, hcv, hcl, st⟩
  · cases hv
    obtain ⟨k1, k2, k3⟩ := vx_keep h0 e1 hS hA hf hL hF
    obtain ⟨t2, a1, b1⟩ := kk r u t T'.heap (locs ++ L) e1.symm (by rw [← e2]; exact X'.warmed.alike) hp hb k1 k2 k3 T' rfl X'
    exact ⟨t2, st t2 a1, b1⟩
  · obtain ⟨k1, k2, k3⟩ := vx_keep h0 e1 hS hAX hf hL hF
    obtain ⟨t2, a1, b1⟩ := kx E ce q u t T'.heap (locs ++ L) e1.symm (by rw [← e2]; exact X'.warmed.alike) hp hb k1 k2 k3 (by rw [e1]; exact hce) hcv hcl T' rfl X'
    exact ⟨t2, st.trans a1, b1⟩
theorem vx_callv {S SX : Type} {post : S → Prop} {px : SX → Prop} {B : S → State → Prop} {BX : String → SX → State → Prop} {AX : Nat → Prop} (hr : vx_Run p l e R s m args below meth c H locs cells slots mc ms (F0 m pc ls st0) rest (va_Qv post B A1 a) (vx_X px BX AX) free) (hS : va_S A0 H0 H locs) (hA : ∀ q, q < H.size → A1 q → A0 q) (hf : ∀ q, free q → A0 q) (hAX : ∀ q, q < H.size → AX q → A0 q)
    (kx : ∀ (E : String) (ce : Cell) (q9 : Addr) (u : SX) (t : State) (H1 : Heap) (locs1 : List Loc), t.heap = H1 → s.vm.Alike t.vm → px u → BX E u t → H.size ≤ H1.size → (∀ q : Nat, q < H.size → ¬ AX q → H1[q]? = H[q]?) → va_S A0 H0 H1 locs1 → H1[q9]? = some ce → ce.vm = .none → s.vm.findClass E = some ce.cls → vx_W p l e R s m args below meth c H1 locs1 (cells + mc) (slots + ms) Q (F0 m pc ls rest) q9)
    (kk : ∀ (u : S) (t : State) (H1 : Heap) (locs1 : List Loc), t.heap = H1 → s.vm.Alike t.vm → post u → B u t → H.size ≤ H1.size → (∀ q : Nat, q < H.size → ¬ A1 q → H1[q]? = H[q]?) → va_S A0 H0 H1 locs1 → W p l e R s m args below meth c H1 locs1 (cells + mc) (slots + ms) Q (F0 m (pc + 3) ls (rest))) : W p l e R s m args below meth c H locs cells slots Q (F0 m pc ls st0) := by
  intro T hT X
  rcases hr T hT X with ⟨v, st₀, t, T', L, h0, X', hL, e1, e2, ⟨⟨u, hv, hp, hb⟩, hF⟩, st⟩ | ⟨q, st₀, t, T', L, E, ce, h0, X', hL, e1, e2, ⟨u, hp, hb, hF⟩, hce, hcv, hcl, st⟩
  · cases hv
    obtain ⟨k1, k2, k3⟩ := vx_keep h0 e1 hS hA hf hL hF
    obtain ⟨t2, a1, b1⟩ := kk u t T'.heap (locs ++ L) e1.symm (by rw [← e2]; exact X'.warmed.alike) hp hb k1 k2 k3 T' rfl X'
    exact ⟨t2, st t2 a1, b1⟩
  · obtain ⟨k1, k2, k3⟩ := vx_keep h0 e1 hS hAX hf hL hF
    obtain ⟨t2, a1, b1⟩ := kx E ce q u t T'.heap (locs ++ L) e1.symm (by rw [← e2]; exact X'.warmed.alike) hp hb k1 k2 k3 (by rw [e1]; exact hce) hcv hcl T' rfl X'
    exact ⟨t2, st.trans a1, b1⟩
end Rows
section Ends
variable {p : Program} {l : Launch} {e : Env} {R : Room} {s : State} {m : MethodId} {args : Array Value} {below : List Frame} {meth : Method} {c : Code} {H : Heap} {locs : List Loc} {cells slots : Nat} {Q : State → Prop}
variable {mc ms : Nat} {free : Addr → Prop} {A0 A1 : Nat → Prop} {H0 : Heap} {a : Array Value} {ls : Array Slot} {st0 rest : List Value}
variable {Qc : Array Value → State → Outcome → State → Prop} {XC : String → State → State → Prop}
/-- what a body that may throw owes at its end -/
def vx_MQ (below : List Frame) (Qc : Array Value → State → Outcome → State → Prop) (XC : String → State → State → Prop) (a : Array Value) (s : State) (mc ms : Nat) (free : Addr → Prop) : State → Prop := fun t =>
  ∃ o, t.status = .running ∧ Ended t below o ∧ vx_Q Qc XC mc ms free a s o t
theorem vx_ret {g : JFrame} {mc ms : Nat} (k : W p l e R s m args below meth c H locs cells slots (MQ below Qc args s mc ms free) g) : W p l e R s m args below meth c H locs cells slots (vx_MQ below Qc XC args s mc ms free) g := by
  intro T hT X
  obtain ⟨t, a1, o, b1, b2, b3, b4⟩ := k T hT X
  exact ⟨t, a1, o, b1, b2, Or.inl ⟨b3, b4⟩⟩
/-- not caught here: it goes on to the caller -/
theorem vx_widen {g : JFrame} {q : Addr} {k n : Nat} (h1 : cells ≤ k) (h2 : slots ≤ n) (kk : vx_W p l e R s m args below meth c H locs k n Q g q) : vx_W p l e R s m args below meth c H locs cells slots Q g q := fun T hT X => kk T hT (stand_widen X h1 h2)
theorem vx_out {pc : Nat} {E : String} {ce : Cell} {q : Addr} {mc ms : Nat} (hout : ∀ x ∈ c.exceptionTable.toList, covers x pc = false) (hlocks : meth.locks = false) (hcell : H[q]? = some ce) (hv : ce.vm = .none) (hcl : s.vm.findClass E = some ce.cls)
    (hx : ∀ t : State, t.heap = H → s.vm.Alike t.vm → XC E s t) (hf : ∀ z ∈ locs, free z.base) (hc : cells ≤ mc) (hs : slots ≤ ms) :
    vx_W p l e R s m args below meth c H locs cells slots (vx_MQ below Qc XC args s mc ms free) (F0 m pc ls rest) q := by
  intro T hT X
  obtain ⟨st1, hrun, hend, hW, hsm⟩ := X.leaveThrown q (g := F0 m pc ls rest) rfl rfl rfl hout hlocks
  have hcell9 : (T.setFrames (.throwing q :: below)).heap[q]? = some ce := by
    show T.heap[q]? = some ce
    rw [hT]; exact hcell
  exact ⟨_, st1, .threw q, hrun, hend, Or.inr ⟨q, rfl, E, ce, locs, hx _ hT hW.alike, hcell9, hv, hcl, hW, hsm.mono hc hs, hf⟩⟩
theorem vx_frame {U : State} {k n : Nat} (h : s.sameButNew ({ U with vm := s.vm } : State) locs k n) : s.heap.size ≤ U.heap.size ∧ ∀ q : Nat, q < s.heap.size → (∀ z ∈ locs, z.base ≠ q) → U.heap[q]? = s.heap[q]? := by
  obtain ⟨-, h2, -, -, -, h6⟩ := h
  refine ⟨h2, fun q hq hz => ?_⟩
  obtain ⟨c9, e1, e2, e3, e4⟩ := h6 q _ (Array.getElem?_eq_getElem hq)
  have hs : c9.slots = (s.heap[q]).slots := Array.ext_getElem? fun i => e4 i fun hm => hz _ hm rfl
  have h9 : c9 = s.heap[q] := by
    rw [hs] at e2
    exact e2
  have e5 : U.heap[q]? = some c9 := e1
  rw [e5, h9, Array.getElem?_eq_getElem hq]
/-- the words of a throw but the four that speak of the heap -/
def vx_no (w : Cond) : Bool := decide (w ≠ .isRef (.static Bundle.tN "UNASSIGNED_STACK" Bundle.steD)) && decide (w ≠ .isRef (.static Bundle.tN "SUPPRESSED_SENTINEL" Bundle.listD)) && decide (w ≠ .laysStatic Bundle.tN "UNASSIGNED_STACK" Bundle.steD) && decide (w ≠ .laysStatic Bundle.tN "SUPPRESSED_SENTINEL" Bundle.listD)
def vx_at0 (own : String) (ic : Nat) (X : String) (names : List String) : List Cond := (Bundle.ownAtoms0 own ic X names).filter vx_no
def vx_atS (own : String) (ic : Nat) (X : String) (names : List String) : List Cond := (Bundle.ownAtoms own ic X names).filter vx_no
/-- a word that the tables alone decide, or a good one -/
def vx_ot (w : Cond) : Bool := w.onTables || goodWord w
theorem vx_ot_at {args a' : Array Value} {s U : State} {w : Cond} (hW : s.WarmedH U.vm) (hvm : s.vm = U.vm) (hg : vx_ot w = true) (h : w.before args s = true) : w.before a' U = true := by
  simp only [vx_ot, Bool.or_eq_true] at hg
  rcases hg with hg | hg
  · exact va_tabs hg hvm h
  · exact word_at hW (good_of_word hg) h
/-- a list's words: the good ones out of the method's own list, the others by premises of their own -/
theorem vx_hat {args : Array Value} {s : State} {L B : List Cond} (h1 : ∀ w ∈ L.filter goodWord, w.before args s = true) (h2 : ∀ w ∈ L.filter (fun w => !goodWord w), w ∈ B) (h3 : ∀ w ∈ B, w.before args s = true) : ∀ w ∈ L, w.before args s = true := by
  intro w hw
  by_cases g : goodWord w = true
  · exact h1 w (List.mem_filter.mpr ⟨hw, g⟩)
  · refine h3 w (h2 w (List.mem_filter.mpr ⟨hw, ?_⟩))
    show (!goodWord w) = true
    cases hgw : goodWord w
    · rfl
    · exact absurd hgw g
theorem vx_c {args : Array Value} {s : State} {w : Cond} {B : List Cond} (h : w.before args s = true) (t : ∀ w ∈ B, w.before args s = true) : ∀ w' ∈ w :: B, w'.before args s = true := fun w' h' => (List.mem_cons.mp h').elim (fun e => by rw [e]; exact h) (t w')
theorem vx_n {args : Array Value} {s : State} : ∀ w ∈ ([] : List Cond), w.before args s = true := fun _ h => nomatch h
theorem vx_own {args : Array Value} {s : State} {L : List Cond} (h1 : ∀ w ∈ L.filter vx_no, w.before args s = true)
    (hU : (Cond.isRef (.static Bundle.tN "UNASSIGNED_STACK" Bundle.steD)).before args s = true) (hN : (Cond.isRef (.static Bundle.tN "SUPPRESSED_SENTINEL" Bundle.listD)).before args s = true)
    (lU : (Cond.laysStatic Bundle.tN "UNASSIGNED_STACK" Bundle.steD).before args s = true) (lN : (Cond.laysStatic Bundle.tN "SUPPRESSED_SENTINEL" Bundle.listD).before args s = true) : ∀ w ∈ L, w.before args s = true := by
  intro w hw
  by_cases e1 : w = .isRef (.static Bundle.tN "UNASSIGNED_STACK" Bundle.steD)
  · rw [e1]; exact hU
  · by_cases e2 : w = .isRef (.static Bundle.tN "SUPPRESSED_SENTINEL" Bundle.listD)
    · rw [e2]; exact hN
    · by_cases e3 : w = .laysStatic Bundle.tN "UNASSIGNED_STACK" Bundle.steD
      · rw [e3]; exact lU
      · by_cases e4 : w = .laysStatic Bundle.tN "SUPPRESSED_SENTINEL" Bundle.listD
        · rw [e4]; exact lN
        · exact h1 w (List.mem_filter.mpr ⟨hw, by unfold vx_no; rw [decide_eq_true e1, decide_eq_true e2, decide_eq_true e3, decide_eq_true e4]; rfl⟩)
/-- where a static field lies, its class's statics cell in H -/
def vx_L (C n d : String) (A : Nat → Prop) (U : State) (H : Heap) : Prop := ∃ (c : ClassId) (k : Class) (i : Nat) (f : Field) (a : Nat) (cell : Cell), U.vm.findClass C = some c ∧ U.fieldFound? C n d = some (c, k, i, f) ∧ f.isStatic = true ∧ k.statics = some a ∧ H[a]? = some cell ∧ cell.vm.isStatics = true ∧ cell.cls = c ∧ f.slot < cell.slots.size ∧ k.staticTypes[f.slot]? = some f.type ∧ ¬ A a
theorem vx_L.moved {C n d : String} {A : Nat → Prop} {u U : State} {H : Heap} (hvm : u.vm.Alike U.vm) (h : vx_L C n d A u H) : vx_L C n d A U H := by
  obtain ⟨c, k, i, f, a, cell, h1, h2, h3, h4, h5, h6, h7, h8, h9, h10⟩ := h
  obtain ⟨k', hi', he⟩ := State.fieldFound?_setVm hvm h2
  exact ⟨c, k', i, f, a, cell, by rw [hvm.findClass]; exact h1, hi', h3, by rw [he]; exact h4, h5, h6, h7, h8, by rw [he]; exact h9, h10⟩
theorem vx_L.kept {C n d : String} {A : Nat → Prop} {U : State} {H H1 : Heap} (h : vx_L C n d A U H) (hq : ∀ a : Nat, a < H.size → ¬ A a → H1[a]? = H[a]?) : vx_L C n d A U H1 := by
  obtain ⟨c, k, i, f, a, cell, h1, h2, h3, h4, h5, h6, h7, h8, h9, h10⟩ := h
  exact ⟨c, k, i, f, a, cell, h1, h2, h3, h4, by rw [hq a (Array.getElem?_eq_some_iff.mp h5).1 h10]; exact h5, h6, h7, h8, h9, h10⟩
theorem vx_L.narrow {C n d : String} {A B : Nat → Prop} {U : State} {H : Heap} (h : vx_L C n d A U H) (hAB : ∀ q, B q → A q) : vx_L C n d B U H := by
  obtain ⟨c, k, i, f, a, cell, h1, h2, h3, h4, h5, h6, h7, h8, h9, h10⟩ := h
  exact ⟨c, k, i, f, a, cell, h1, h2, h3, h4, h5, h6, h7, h8, h9, fun z => h10 (hAB _ z)⟩
theorem vx_L.word {C n d : String} {A : Nat → Prop} {s : State} {args : Array Value} (h : vx_L C n d A s s.heap) : (Cond.laysStatic C n d).before args s = true := by
  obtain ⟨c, k, i, f, a, cell, h1, h2, h3, h4, h5, h6, h7, h8, h9, -⟩ := h
  show (Cond.laysStatic C n d).holds args s none s [] = true
  exact Cond.laysStatic_of h1 h2 h3 h4 h5 h6 h7 h8 h9
/-- .. and what it holds: null or some reference -/
def vx_Zq (C n d : String) (A : Nat → Prop) (U : State) (H : Heap) : Prop := va_Zq C n d A U H ∧ vx_L C n d A U H
theorem vx_Zq.moved {C n d : String} {A : Nat → Prop} {u U : State} {H : Heap} (hvm : u.vm.Alike U.vm) (h : vx_Zq C n d A u H) : vx_Zq C n d A U H := ⟨va_Zq.moved hvm h.1, vx_L.moved hvm h.2⟩
theorem vx_Zq.kept {C n d : String} {A : Nat → Prop} {U : State} {H H1 : Heap} (h : vx_Zq C n d A U H) (hq : ∀ a : Nat, a < H.size → ¬ A a → H1[a]? = H[a]?) : vx_Zq C n d A U H1 := ⟨va_Zq.kept h.1 hq, vx_L.kept h.2 hq⟩
theorem vx_Zq.narrow {C n d : String} {A B : Nat → Prop} {U : State} {H : Heap} (h : vx_Zq C n d A U H) (hAB : ∀ q, B q → A q) : vx_Zq C n d B U H := ⟨va_Zq.narrow h.1 hAB, vx_L.narrow h.2 hAB⟩
theorem vx_Zqof {args : Array Value} {s : State} {C n d : String} {A : Nat → Prop} (hl : (Cond.laysStatic C n d).before args s = true) (hini : (Cond.initialized C).before args s = true) (h : (Cond.isRef (.static C n d)).before args s = true) (hA : ∀ a : Nat, a < s.heap.size → ¬ A a) : vx_Zq C n d A s s.heap := by
  refine ⟨va_Zqof hl hini h hA, ?_⟩
  obtain ⟨c, k, i, f, a, cell, h1, h2, h3, h4, h5, h6, h7, h8, h9⟩ := Cond.laysStatic_spec hl
  exact ⟨c, k, i, f, a, cell, h1, h2, h3, h4, h5, h6, h7, h8, h9, hA a (Array.getElem?_eq_some_iff.mp h5).1⟩
theorem vx_isRef {C n d : String} {v : Value} {A : Nat → Prop} {s : State} {args : Array Value} (h : va_Z C n d v A s s.heap) (hv : v.isRef = true) : (Cond.isRef (.static C n d)).before args s = true := by
  obtain ⟨cf, kf, fi, f, a, cell, h1, h2, h3, h4, h5, h6, h7, -⟩ := h
  have he : (Term.static C n d).eval args s none [] s = some v := by
    simp [Term.eval, State.fieldNamed?, h1, h2, h4, h5, h6, h7]
  simp only [Cond.before, Cond.holds, Cond.value, he]
  cases v <;> simp_all [Value.isRef]
theorem vx_isRefq {C n d : String} {A : Nat → Prop} {s : State} {args : Array Value} (h : va_Zq C n d A s s.heap) : (Cond.isRef (.static C n d)).before args s = true := by
  rcases h with h | ⟨t, h⟩
  · exact vx_isRef h rfl
  · exact vx_isRef h rfl
/-- the same frame, seen from here: as if the method were called anew in this heap -/
theorem vx_rebase {T : State} (X : Stand p l e R s m args below meth c T locs cells slots) {R' : Room} (hf : R'.frames ≤ R.frames) (hl : R'.locals ≤ R.locals) (hc : cells + R'.cells ≤ R.cells) (hs : slots + R'.slots ≤ R.slots) :
    Stand p l e R' ((T.setVm s.vm).setFrames (.invoking m args :: below)) m args below meth c T [] 0 0 := by
  have htop : (T.setVm s.vm).topJava?.isSome := X.here.top
  have hF : ((T.setVm s.vm).setFrames (.invoking m args :: below)).frames = .invoking m args :: below := State.frames_setFrames _ (State.cur_lt_of_top htop)
  obtain ⟨g₀, hg0⟩ := Option.isSome_iff_exists.mp htop
  obtain ⟨r, hr⟩ := State.topJava?_eq_some.mp hg0
  have hl9 : e.platform.stackLimits (T.setVm s.vm).me = e.platform.stackLimits s.me := X.limits
  have hb9 : (T.setVm s.vm).me.stackBytes = s.me.stackBytes := X.bytes
  refine ⟨X.admits, X.cas, X.clock, hF, ?_, X.hears, X.method, X.code, X.here, X.tail, X.warmed, ?_, ?_, ?_⟩
  · have h := X.room
    have hU : ((T.setVm s.vm).setFrames (.invoking m args :: below)).localsInUse = s.localsInUse := by
      rw [State.localsInUse_invoking hF (meth := meth) (c := c) X.method X.code, State.localsInUse_invoking X.frames X.method X.code]
    simp only [State.hasRoom, Bool.and_eq_true, decide_eq_true_eq] at h ⊢
    obtain ⟨⟨⟨⟨h1, h2, h3, h4, h5, h6⟩, h7⟩, h8⟩, h9⟩ := h
    rw [X.frames, List.length_cons] at h2 h3
    have q1 := X.heapSize
    have q2 := X.used
    simp only [hF, hU, List.length_cons, State.stackLimits_setFrames, State.stackBytes_setFrames, hl9, hb9]
    refine ⟨⟨⟨⟨by omega, by omega, by omega, by omega, by omega, h6⟩, ?_⟩, ?_⟩, X.book⟩
    · show T.heap.size + R'.cells ≤ e.platform.maxCells
      omega
    · show T.slotsUsed + R'.slots ≤ e.platform.maxSlots
      omega
  · rw [State.stackLimits_setFrames]; rfl
  · rw [State.stackBytes_setFrames]; rfl
  · refine ⟨?_, Nat.le_refl _, Nat.le_refl _, ?_, ?_, fun a c9 h9 => ⟨c9, h9, rfl, rfl, fun _ _ => rfl⟩⟩
    · obtain ⟨t, ht, -⟩ := State.frames_cons hr
      show T.setVm s.vm = { ((T.setVm s.vm).setFrames (.invoking m args :: below)).setFrames (T.setVm s.vm).frames with heap := T.heap, slotsUsed := T.slotsUsed }
      rw [State.setFrames_setFrames, State.setFrames_self ht]
      rfl
    · show T.slotsUsed = T.slotsUsed + ((T.heap.toList.drop T.heap.size).map (·.slots.size)).sum
      rw [List.drop_eq_nil_of_le (Nat.le_of_eq Array.length_toList)]
      rfl
    · show ((T.heap.toList.drop T.heap.size).map (·.slots.size)).sum ≤ 0
      rw [List.drop_eq_nil_of_le (Nat.le_of_eq Array.length_toList)]
      exact Nat.le_refl _
/-- 'throw new E()': new; dup; invokespecial; athrow -/
theorem vx_throw0 {cc : ByteArray} {pc : Nat} (hexec : p.tables.exec = Jvm.exec) (hb : c.code = cc) (hl : l.stackTraces = false) {own cls : String} {names : List String} {ik ic mc ms : Nat} {A : Nat → Prop}
    (hown : s.vm.findClass own = some m.cls) (hcls : Bundle.fit cls = true) (hnames : ∀ n ∈ names, Bundle.fit n = true)
    (hk : (Cond.classLink own ik cls).before args s = true) (hini : (Cond.initialized cls).before args s = true) (hat : ∀ w ∈ vx_at0 own ic cls names, w.before args s = true)
    (hgood : ∀ w ∈ Cond.classLink own ik cls :: Cond.initialized cls :: vx_at0 own ic cls names, vx_ot w = true)
    (hU : vx_Zq Bundle.tN "UNASSIGNED_STACK" Bundle.steD A s s.heap) (hN : vx_Zq Bundle.tN "SUPPRESSED_SENTINEL" Bundle.listD A s s.heap) (hS : va_S A s.heap H locs) (hsize : ls.size = c.maxLocals)
    (d0 : decode cc pc = .ok (.new ik, 3)) (d3 : decode cc (pc + 3) = .ok (.dup, 1)) (d4 : decode cc (pc + 4) = .ok (.invokespecial ic, 3)) (d7 : decode cc (pc + 7) = .ok (.athrow, 1))
    (hout : ∀ x ∈ c.exceptionTable.toList, covers x (pc + 7) = false)
    (hRframes : names.length + 3 < R.frames) (hRlocals : (rest.map fun v => v.category).sum + (13 * (names.length + 1) + 42) ≤ R.locals) (hRcells : cells + 1 ≤ R.cells) (hRslots : slots + 6 ≤ R.slots) (hlocks : meth.locks = false)
    (hx : ∀ t : State, s.vm.Alike t.vm → H.size ≤ t.heap.size → (∀ q : Nat, q < H.size → t.heap[q]? = H[q]?) → XC cls s t)
    (hf : ∀ z ∈ locs, free z.base) (hc : cells + 1 ≤ mc) (hs : slots + 6 ≤ ms) :
    W p l e R s m args below meth c H locs cells slots (vx_MQ below Qc XC args s mc ms free) (F0 m pc ls rest) := by
  intro T hT X
  have htr : e.platform.stackTraces = false := (show e.platform.stackTraces = l.stackTraces by rw [X.admits.platform]).trans hl
  have Y := vx_rebase X (R' := { frames := R.frames, locals := R.locals, cells := 1, slots := 6 }) (Nat.le_refl _) (Nat.le_refl _) hRcells hRslots
  obtain ⟨s', hA⟩ : ∃ z, z = (T.setVm s.vm).setFrames (.invoking m args :: below) := ⟨_, rfl⟩
  rw [← hA] at Y
  have hvm : s'.vm = s.vm := by rw [hA]; rfl
  have hhp : s'.heap = H := by rw [hA]; exact hT
  have hW0 : s.WarmedH s'.vm := by rw [hvm]; exact State.WarmedH.refl s
  have hat' : ∀ w ∈ vx_at0 own ic cls names, w.before args s' = true := fun w hw => vx_ot_at hW0 hvm.symm (hgood w (List.mem_cons_of_mem _ (List.mem_cons_of_mem _ hw))) (hat w hw)
  have hk' : (Cond.classLink own ik cls).before args s' = true := vx_ot_at hW0 hvm.symm (hgood _ List.mem_cons_self) hk
  have hini' : (Cond.initialized cls).before args s' = true := vx_ot_at hW0 hvm.symm (hgood _ (List.mem_cons_of_mem _ List.mem_cons_self)) hini
  have hU' : vx_Zq Bundle.tN "UNASSIGNED_STACK" Bundle.steD A s' s'.heap := by rw [hhp]; exact vx_Zq.moved hW0.alike (hU.kept hS.2.1)
  have hN' : vx_Zq Bundle.tN "SUPPRESSED_SENTINEL" Bundle.listD A s' s'.heap := by rw [hhp]; exact vx_Zq.moved hW0.alike (hN.kept hS.2.1)
  have h : ∀ w ∈ Bundle.ownAtoms0 own ic cls names, w.before args s' = true := vx_own hat' (vx_isRefq hU'.1) (vx_isRefq hN'.1) hU'.2.word hN'.2.word
  have hown' : s'.vm.findClass own = some m.cls := by rw [hvm]; exact hown
  have hins : (Cond.instantiable cls 6).before args s' = true := h _ (by simp [Bundle.ownAtoms0])
  obtain ⟨vm₁, cX, kX, hfX, hkX, -, -, X₁, st1⟩ := Y.newCold hexec (own := own) (C := cls) (index := ik) (n := 6) hown' hk' hins hini'
    (g := F0 m pc ls rest) rfl (by rw [hb]; exact d0) (Nat.le_refl _) (Nat.le_refl _)
  generalize hT1 : (T.setVm vm₁).pushCell { cls := cX, slots := kX.instanceTypes.map defaultValue, vm := .none } = T1 at X₁ st1
  have hcat : (Value.ref T.heap.size).category = 1 := rfl
  have hcellA : T1.heap[T.heap.size]? = some (freshCell cX kX) := by rw [← hT1]; exact State.heap_pushCell_size _ _
  have d3' : decode c.code (pc + 3) = .ok (.dup, 1) := by rw [hb]; exact d3
  obtain ⟨U, hsteps, hrun, hend, hW, hsame, ce, hce, hO⟩ := X₁.ctorThrow0 hexec htr (own := own) (cls := cls) (names := names) (ic := ic) hown' hcls hnames h (fun x hx => nomatch hx) hfX hkX hcellA (by rw [hhp, hT]; exact Nat.le_refl _)
    (g := { method := m, pc := pc + 4, locals := ls, stack := .ref T.heap.size :: .ref T.heap.size :: rest, locked := none }) rfl hsize rfl rfl (rest := rest) rfl
    (by rw [hb]; exact d4) (by rw [hb]; exact d7) hout hRframes (by simp only [List.map_cons, List.sum_cons, hcat]; omega) hlocks
  obtain ⟨f1, f2⟩ := vx_frame hsame
  rw [hhp] at f1 f2
  have hWs : s.WarmedH U.vm := State.WarmedH.trans hW0 hW
  have hcl : s.vm.findClass cls = some ce.cls := by
    have h9 := hO.cls
    rw [hvm] at h9
    exact h9
  have hall : s.sameButNew ({ U with vm := s.vm } : State) locs mc ms := by
    subst hA
    obtain ⟨e1, e2⟩ := hsame
    rw [State.setFrames_setFrames] at e1
    have h2 : (T.setVm s.vm).sameButNew ({ U with vm := s.vm } : State) [] (0 + 1) (0 + 6) := ⟨e1, e2⟩
    have h3 := X.same.trans h2
    rw [List.append_nil] at h3
    exact h3.mono hc hs
  refine ⟨U, ?_, .threw T.heap.size, hrun, hend, Or.inr ⟨T.heap.size, rfl, cls, ce, locs, hx U hWs.alike f1 (fun q hq => f2 q hq (fun z hz => nomatch hz)), hce, hO.vm, hcl, hWs, hall, hf⟩⟩
  refine st1 _ ?_
  show Steps p.tables e below (T1.setTop { method := m, pc := pc + 3, locals := ls, stack := .ref T.heap.size :: rest, locked := none }) _
  jvm_step X₁.here [X₁.here.top, hexec, d3', Value.category]
  exact hsteps
/-- 'throw new E("text")': new; dup; ldc; invokespecial; athrow -/
theorem vx_throwS {cc : ByteArray} {pc : Nat} (hexec : p.tables.exec = Jvm.exec) (hb : c.code = cc) (hl : l.stackTraces = false) {own cls text : String} {names : List String} {ik is ic mc ms sa : Nat} {A : Nat → Prop}
    (hown : s.vm.findClass own = some m.cls) (hcls : Bundle.fit cls = true) (hnames : ∀ n ∈ names, Bundle.fit n = true)
    (hk : (Cond.classLink own ik cls).before args s = true) (hini : (Cond.initialized cls).before args s = true) (hstr : vk_R own is text sa s) (hat : ∀ w ∈ vx_atS own ic cls names, w.before args s = true)
    (hgood : ∀ w ∈ Cond.classLink own ik cls :: Cond.initialized cls :: vx_atS own ic cls names, vx_ot w = true)
    (hU : vx_Zq Bundle.tN "UNASSIGNED_STACK" Bundle.steD A s s.heap) (hN : vx_Zq Bundle.tN "SUPPRESSED_SENTINEL" Bundle.listD A s s.heap) (hS : va_S A s.heap H locs) (hsize : ls.size = c.maxLocals)
    (d0 : decode cc pc = .ok (.new ik, 3)) (d3 : decode cc (pc + 3) = .ok (.dup, 1)) (d4 : decode cc (pc + 4) = .ok (.ldc is, 2)) (d6 : decode cc (pc + 6) = .ok (.invokespecial ic, 3)) (d9 : decode cc (pc + 9) = .ok (.athrow, 1))
    (hout : ∀ x ∈ c.exceptionTable.toList, covers x (pc + 9) = false)
    (hRframes : names.length + 3 < R.frames) (hRlocals : (rest.map fun v => v.category).sum + (13 * (names.length + 1) + 43) ≤ R.locals) (hRcells : cells + 1 ≤ R.cells) (hRslots : slots + 6 ≤ R.slots) (hlocks : meth.locks = false)
    (hx : ∀ t : State, s.vm.Alike t.vm → H.size ≤ t.heap.size → (∀ q : Nat, q < H.size → t.heap[q]? = H[q]?) → XC cls s t)
    (hf : ∀ z ∈ locs, free z.base) (hc : cells + 1 ≤ mc) (hs : slots + 6 ≤ ms) :
    W p l e R s m args below meth c H locs cells slots (vx_MQ below Qc XC args s mc ms free) (F0 m pc ls rest) := by
  intro T hT X
  have htr : e.platform.stackTraces = false := (show e.platform.stackTraces = l.stackTraces by rw [X.admits.platform]).trans hl
  have Y := vx_rebase X (R' := { frames := R.frames, locals := R.locals, cells := 1, slots := 6 }) (Nat.le_refl _) (Nat.le_refl _) hRcells hRslots
  obtain ⟨s', hA⟩ : ∃ z, z = (T.setVm s.vm).setFrames (.invoking m args :: below) := ⟨_, rfl⟩
  rw [← hA] at Y
  have hvm : s'.vm = s.vm := by rw [hA]; rfl
  have hhp : s'.heap = H := by rw [hA]; exact hT
  have hW0 : s.WarmedH s'.vm := by rw [hvm]; exact State.WarmedH.refl s
  have hat' : ∀ w ∈ vx_atS own ic cls names, w.before args s' = true := fun w hw => vx_ot_at hW0 hvm.symm (hgood w (List.mem_cons_of_mem _ (List.mem_cons_of_mem _ hw))) (hat w hw)
  have hk' : (Cond.classLink own ik cls).before args s' = true := vx_ot_at hW0 hvm.symm (hgood _ List.mem_cons_self) hk
  have hini' : (Cond.initialized cls).before args s' = true := vx_ot_at hW0 hvm.symm (hgood _ (List.mem_cons_of_mem _ List.mem_cons_self)) hini
  have hU' : vx_Zq Bundle.tN "UNASSIGNED_STACK" Bundle.steD A s' s'.heap := by rw [hhp]; exact vx_Zq.moved hW0.alike (hU.kept hS.2.1)
  have hN' : vx_Zq Bundle.tN "SUPPRESSED_SENTINEL" Bundle.listD A s' s'.heap := by rw [hhp]; exact vx_Zq.moved hW0.alike (hN.kept hS.2.1)
  have h : ∀ w ∈ Bundle.ownAtoms own ic cls names, w.before args s' = true := vx_own hat' (vx_isRefq hU'.1) (vx_isRefq hN'.1) hU'.2.word hN'.2.word
  have hown' : s'.vm.findClass own = some m.cls := by rw [hvm]; exact hown
  have hins : (Cond.instantiable cls 6).before args s' = true := h _ (by simp [Bundle.ownAtoms])
  obtain ⟨vm₁, cX, kX, hfX, hkX, -, -, X₁, st1⟩ := Y.newCold hexec (own := own) (C := cls) (index := ik) (n := 6) hown' hk' hins hini'
    (g := F0 m pc ls rest) rfl (by rw [hb]; exact d0) (Nat.le_refl _) (Nat.le_refl _)
  generalize hT1 : (T.setVm vm₁).pushCell { cls := cX, slots := kX.instanceTypes.map defaultValue, vm := .none } = T1 at X₁ st1
  have hcat : (Value.ref T.heap.size).category = 1 := rfl
  have hcellA : T1.heap[T.heap.size]? = some (freshCell cX kX) := by rw [← hT1]; exact State.heap_pushCell_size _ _
  have d3' : decode c.code (pc + 3) = .ok (.dup, 1) := by rw [hb]; exact d3
  have d4' : decode c.code (pc + 4) = .ok (.ldc is, 2) := by rw [hb]; exact d4
  have hstr' : vk_R own is text sa s' := vk_R.warm hW0 hstr
  obtain ⟨U, hsteps, hrun, hend, hW, hsame, ce, hce, hO⟩ := X₁.ctorThrowS hexec htr (own := own) (cls := cls) (names := names) (ic := ic) hown' hcls hnames h (fun x hx => nomatch hx) hfX hkX hcellA (by rw [hhp, hT]; exact Nat.le_refl _) (msg := .ref sa) rfl
    (g := { method := m, pc := pc + 6, locals := ls, stack := .ref sa :: .ref T.heap.size :: .ref T.heap.size :: rest, locked := none }) rfl hsize rfl rfl (rest := rest) rfl
    (by rw [hb]; exact d6) (by rw [hb]; exact d9) hout hRframes (by simp only [List.map_cons, List.sum_cons, hcat]; omega) hlocks
  obtain ⟨f1, f2⟩ := vx_frame hsame
  rw [hhp] at f1 f2
  have hWs : s.WarmedH U.vm := State.WarmedH.trans hW0 hW
  have hcl : s.vm.findClass cls = some ce.cls := by
    have h9 := hO.cls
    rw [hvm] at h9
    exact h9
  have hall : s.sameButNew ({ U with vm := s.vm } : State) locs mc ms := by
    subst hA
    obtain ⟨e1, e2⟩ := hsame
    rw [State.setFrames_setFrames] at e1
    have h2 : (T.setVm s.vm).sameButNew ({ U with vm := s.vm } : State) [] (0 + 1) (0 + 6) := ⟨e1, e2⟩
    have h3 := X.same.trans h2
    rw [List.append_nil] at h3
    exact h3.mono hc hs
  refine ⟨U, ?_, .threw T.heap.size, hrun, hend, Or.inr ⟨T.heap.size, rfl, cls, ce, locs, hx U hWs.alike f1 (fun q hq => f2 q hq (fun z hz => nomatch hz)), hce, hO.vm, hcl, hWs, hall, hf⟩⟩
  refine st1 _ ?_
  show Steps p.tables e below (T1.setTop { method := m, pc := pc + 3, locals := ls, stack := .ref T.heap.size :: rest, locked := none }) _
  jvm_step X₁.here [X₁.here.top, hexec, d3', Value.category]
  exact X₁.ldcString hexec (own := own) (text := text) (index := is) (a := sa) hown' hstr'.1 hstr'.2
    (g := { method := m, pc := pc + 4, locals := ls, stack := .ref T.heap.size :: .ref T.heap.size :: rest, locked := none }) rfl d4' _ hsteps
/-- 'throw new E("text")', the text by a wide index -/
theorem vx_throwSW {cc : ByteArray} {pc : Nat} (hexec : p.tables.exec = Jvm.exec) (hb : c.code = cc) (hl : l.stackTraces = false) {own cls text : String} {names : List String} {ik is ic mc ms sa : Nat} {A : Nat → Prop}
    (hown : s.vm.findClass own = some m.cls) (hcls : Bundle.fit cls = true) (hnames : ∀ n ∈ names, Bundle.fit n = true)
    (hk : (Cond.classLink own ik cls).before args s = true) (hini : (Cond.initialized cls).before args s = true) (hstr : vk_R own is text sa s) (hat : ∀ w ∈ vx_atS own ic cls names, w.before args s = true)
    (hgood : ∀ w ∈ Cond.classLink own ik cls :: Cond.initialized cls :: vx_atS own ic cls names, vx_ot w = true)
    (hU : vx_Zq Bundle.tN "UNASSIGNED_STACK" Bundle.steD A s s.heap) (hN : vx_Zq Bundle.tN "SUPPRESSED_SENTINEL" Bundle.listD A s s.heap) (hS : va_S A s.heap H locs) (hsize : ls.size = c.maxLocals)
    (d0 : decode cc pc = .ok (.new ik, 3)) (d3 : decode cc (pc + 3) = .ok (.dup, 1)) (d4 : decode cc (pc + 4) = .ok (.ldc_w is, 3)) (d7 : decode cc (pc + 7) = .ok (.invokespecial ic, 3)) (d10 : decode cc (pc + 10) = .ok (.athrow, 1))
    (hout : ∀ x ∈ c.exceptionTable.toList, covers x (pc + 10) = false)
    (hRframes : names.length + 3 < R.frames) (hRlocals : (rest.map fun v => v.category).sum + (13 * (names.length + 1) + 43) ≤ R.locals) (hRcells : cells + 1 ≤ R.cells) (hRslots : slots + 6 ≤ R.slots) (hlocks : meth.locks = false)
    (hx : ∀ t : State, s.vm.Alike t.vm → H.size ≤ t.heap.size → (∀ q : Nat, q < H.size → t.heap[q]? = H[q]?) → XC cls s t)
    (hf : ∀ z ∈ locs, free z.base) (hc : cells + 1 ≤ mc) (hs : slots + 6 ≤ ms) :
    W p l e R s m args below meth c H locs cells slots (vx_MQ below Qc XC args s mc ms free) (F0 m pc ls rest) := by
  intro T hT X
  have htr : e.platform.stackTraces = false := (show e.platform.stackTraces = l.stackTraces by rw [X.admits.platform]).trans hl
  have Y := vx_rebase X (R' := { frames := R.frames, locals := R.locals, cells := 1, slots := 6 }) (Nat.le_refl _) (Nat.le_refl _) hRcells hRslots
  obtain ⟨s', hA⟩ : ∃ z, z = (T.setVm s.vm).setFrames (.invoking m args :: below) := ⟨_, rfl⟩
  rw [← hA] at Y
  have hvm : s'.vm = s.vm := by rw [hA]; rfl
  have hhp : s'.heap = H := by rw [hA]; exact hT
  have hW0 : s.WarmedH s'.vm := by rw [hvm]; exact State.WarmedH.refl s
  have hat' : ∀ w ∈ vx_atS own ic cls names, w.before args s' = true := fun w hw => vx_ot_at hW0 hvm.symm (hgood w (List.mem_cons_of_mem _ (List.mem_cons_of_mem _ hw))) (hat w hw)
  have hk' : (Cond.classLink own ik cls).before args s' = true := vx_ot_at hW0 hvm.symm (hgood _ List.mem_cons_self) hk
  have hini' : (Cond.initialized cls).before args s' = true := vx_ot_at hW0 hvm.symm (hgood _ (List.mem_cons_of_mem _ List.mem_cons_self)) hini
  have hU' : vx_Zq Bundle.tN "UNASSIGNED_STACK" Bundle.steD A s' s'.heap := by rw [hhp]; exact vx_Zq.moved hW0.alike (hU.kept hS.2.1)
  have hN' : vx_Zq Bundle.tN "SUPPRESSED_SENTINEL" Bundle.listD A s' s'.heap := by rw [hhp]; exact vx_Zq.moved hW0.alike (hN.kept hS.2.1)
  have h : ∀ w ∈ Bundle.ownAtoms own ic cls names, w.before args s' = true := vx_own hat' (vx_isRefq hU'.1) (vx_isRefq hN'.1) hU'.2.word hN'.2.word
  have hown' : s'.vm.findClass own = some m.cls := by rw [hvm]; exact hown
  have hins : (Cond.instantiable cls 6).before args s' = true := h _ (by simp [Bundle.ownAtoms])
  obtain ⟨vm₁, cX, kX, hfX, hkX, -, -, X₁, st1⟩ := Y.newCold hexec (own := own) (C := cls) (index := ik) (n := 6) hown' hk' hins hini'
    (g := F0 m pc ls rest) rfl (by rw [hb]; exact d0) (Nat.le_refl _) (Nat.le_refl _)
  generalize hT1 : (T.setVm vm₁).pushCell { cls := cX, slots := kX.instanceTypes.map defaultValue, vm := .none } = T1 at X₁ st1
  have hcat : (Value.ref T.heap.size).category = 1 := rfl
  have hcellA : T1.heap[T.heap.size]? = some (freshCell cX kX) := by rw [← hT1]; exact State.heap_pushCell_size _ _
  have d3' : decode c.code (pc + 3) = .ok (.dup, 1) := by rw [hb]; exact d3
  have d4' : decode c.code (pc + 4) = .ok (.ldc_w is, 3) := by rw [hb]; exact d4
  have hstr' : vk_R own is text sa s' := vk_R.warm hW0 hstr
  obtain ⟨U, hsteps, hrun, hend, hW, hsame, ce, hce, hO⟩ := X₁.ctorThrowS hexec htr (own := own) (cls := cls) (names := names) (ic := ic) hown' hcls hnames h (fun x hx => nomatch hx) hfX hkX hcellA (by rw [hhp, hT]; exact Nat.le_refl _) (msg := .ref sa) rfl
    (g := { method := m, pc := pc + 7, locals := ls, stack := .ref sa :: .ref T.heap.size :: .ref T.heap.size :: rest, locked := none }) rfl hsize rfl rfl (rest := rest) rfl
    (by rw [hb]; exact d7) (by rw [hb]; exact d10) hout hRframes (by simp only [List.map_cons, List.sum_cons, hcat]; omega) hlocks
  obtain ⟨f1, f2⟩ := vx_frame hsame
  rw [hhp] at f1 f2
  have hWs : s.WarmedH U.vm := State.WarmedH.trans hW0 hW
  have hcl : s.vm.findClass cls = some ce.cls := by
    have h9 := hO.cls
    rw [hvm] at h9
    exact h9
  have hall : s.sameButNew ({ U with vm := s.vm } : State) locs mc ms := by
    subst hA
    obtain ⟨e1, e2⟩ := hsame
    rw [State.setFrames_setFrames] at e1
    have h2 : (T.setVm s.vm).sameButNew ({ U with vm := s.vm } : State) [] (0 + 1) (0 + 6) := ⟨e1, e2⟩
    have h3 := X.same.trans h2
    rw [List.append_nil] at h3
    exact h3.mono hc hs
  refine ⟨U, ?_, .threw T.heap.size, hrun, hend, Or.inr ⟨T.heap.size, rfl, cls, ce, locs, hx U hWs.alike f1 (fun q hq => f2 q hq (fun z hz => nomatch hz)), hce, hO.vm, hcl, hWs, hall, hf⟩⟩
  refine st1 _ ?_
  show Steps p.tables e below (T1.setTop { method := m, pc := pc + 3, locals := ls, stack := .ref T.heap.size :: rest, locked := none }) _
  jvm_step X₁.here [X₁.here.top, hexec, d3', Value.category]
  exact X₁.ldcStringW hexec (own := own) (text := text) (index := is) (a := sa) hown' hstr'.1 hstr'.2
    (g := { method := m, pc := pc + 4, locals := ls, stack := .ref T.heap.size :: .ref T.heap.size :: rest, locked := none }) rfl d4' _ hsteps
end Ends
section Bodies
variable {l : Launch}
theorem vx_ofW {y : MethodName} {ws ws' : List Cond} {rm : Room} {Pc : Array Value → State → Prop} {Qc : Array Value → State → Outcome → State → Prop} {XC : String → State → State → Prop} {mc ms : Nat} {free : Addr → Prop} {cc : ByteArray} {maxL : Nat} {ret : Option FieldType}
    (hy : plainName y.cls = true) (hw : ws = Cond.code y cc maxL ret :: ws')
    (body : ∀ p e s m args below meth c s₁, BodyLoose p l y (headSpec ws rm) cc maxL ret e s m args below meth c s₁ → c.maxLocals = maxL → (∀ x ∈ c.exceptionTable.toList, False) → Pc args s →
      W p l e (headSpec ws rm).room s m args below meth c s.heap [] 0 0 (vx_MQ below Qc XC args s mc ms free) (entryFrame m args maxL)) : vx_Met l y ws rm Pc Qc XC mc ms free := by
  refine MetFree.of_bodyS (code := cc) (maxLocals := maxL) (ret := ret) hy ?_ ?_
  · intro args s m h hn
    obtain ⟨meth, c, h1, h2, h3, h4, h5, h6, -, -⟩ := Cond.code_spec hn (atoms_spec (ws := ws) h _ (by rw [hw]; exact List.mem_cons_self))
    exact ⟨meth, c, h1, h2, h3, h4, h5, h6⟩
  · intro p e s m args below meth c s₁ B hml hP _
    have hh0 : s₁.heap = s.heap := by rw [B.state]; rfl
    have ht : ∀ x ∈ c.exceptionTable.toList, False := by
      obtain ⟨meth9, c9, h1, h2, -, -, -, -, h7, -⟩ := Cond.code_spec B.named (atoms_spec (ws := ws) B.pre _ (by rw [hw]; exact List.mem_cons_self))
      cases Option.some.inj (h1.symm.trans B.method)
      cases Option.some.inj (h2.symm.trans (Stand.of_body B).code)
      intro x hx
      rw [Array.isEmpty_iff.mp h7] at hx
      cases hx
    obtain ⟨t, a1, o, b1, b2, b3⟩ := body p e s m args below meth c s₁ B hml ht hP s₁ hh0 (Stand.of_body B)
    exact ⟨t, o, a1, b1, b2, b3⟩
/-- the table of a body with handlers -/
theorem vx_table {p : Program} {x y : MethodName} {S : Spec} {cc bytes : ByteArray} {maxL maxL' : Nat} {ret ret' : Option FieldType} {e : Env} {s s₁ : State} {m : MethodId} {args : Array Value} {below : List Frame} {meth : Method} {c : Code} {hh : List (Nat × Nat × Nat × Nat)}
    (B : BodyLoose p l y S cc maxL ret e s m args below meth c s₁) (h : (Cond.codeWith y bytes maxL' ret' hh).before args s = true) : c.exceptionTable.toList = tableOf hh := by
  obtain ⟨m9, meth9, c9, hn9, h1, h2, -, -, h6, -⟩ := Cond.codeWith_spec h
  cases Option.some.inj (hn9.symm.trans B.named)
  cases Option.some.inj (h1.symm.trans B.method)
  cases Option.some.inj (h2.symm.trans (Stand.of_body B).code)
  rw [← h6, table_eq]
end Bodies
end VXA
/-! ===== END ===== -/
/-! ===== BEGIN a static call of a method with an exception table ===== -/
section VXS
variable {p : Program} {l : Launch} {e : Env} {R : Room} {s : State} {m : MethodId} {args : Array Value} {below : List Frame} {meth : Method} {c : Code} {T : State} {H : Heap} {locs : List Loc} {cells slots : Nat}
abbrev vx_CSW (R : Room) (s : State) (args : Array Value) (own : String) (index : Nat) (y : MethodName) (bytes : ByteArray) (maxL : Nat) (ret : Option FieldType) (hh : List (Nat × Nat × Nat × Nat)) (ws : List Cond) (rm : Room) (mc ms n : Nat) : Prop :=
  (rm.cells = mc ∧ rm.slots = ms ∧ rm.frames + 1 ≤ R.frames ∧ 8 + (maxL + 11) + rm.locals ≤ R.locals ∧ (∀ w ∈ ws, ∀ (a' : Array Value) (U : State), s.WarmedH U.vm → w.before a' U = true) ∧ Cond.codeWith y bytes maxL ret hh ∈ ws) ∧
  (Cond.codeWith y bytes maxL ret hh).before args s = true ∧ (Cond.initialized y.cls).before args s = true ∧ (y.cls ≠ "java/lang/invoke/MethodHandle" ∧ y.cls ≠ "java/lang/invoke/VarHandle") ∧
  (∀ sig, parseMethodDescriptor y.desc = some sig → n = sig.parameters.length) ∧ (Cond.methodLink own index y).before args s = true ∧ (Cond.static y).before args s = true
theorem vx_cwSW {own : String} {index maxL mc ms : Nat} {y : MethodName} {bytes : ByteArray} {ret : Option FieldType} {hh : List (Nat × Nat × Nat × Nat)} {Ts ws ws' : List Cond} {rm : Room} (n : Nat) (ht : ∀ w ∈ Ts, w.before args s = true) (hT : GoodIn Ts (va_wsS own index y ws)) (hw : ws = Cond.codeWith y bytes maxL ret hh :: ws') (hrc : rm.cells = mc) (hrs : rm.slots = ms)
    (hd : y.cls ≠ "java/lang/invoke/MethodHandle" ∧ y.cls ≠ "java/lang/invoke/VarHandle" ∧ (parseMethodDescriptor y.desc).map (fun d => d.parameters.length) = some n) (hR : rm.frames + 1 ≤ R.frames ∧ 8 + (maxL + 11) + rm.locals ≤ R.locals) :
    vx_CSW R s args own index y bytes maxL ret hh ws rm mc ms n := by
  have ok : ∀ w ∈ va_wsS own index y ws, w.before args s = true := fun w h => ht w (hT w h).1
  have hG : GoodIn Ts ws := fun w h => hT w (by unfold va_wsS; exact List.mem_append_right _ h)
  have hc : Cond.codeWith y bytes maxL ret hh ∈ ws := by rw [hw]; exact List.mem_cons_self
  refine ⟨⟨hrc, hrs, hR.1, hR.2, pay_in ht hG, hc⟩, ht _ (hG _ hc).1, ok _ (by simp [va_wsS]), ⟨hd.1, hd.2.1⟩, fun sig h => ?_, ok _ (by simp [va_wsS]), ok _ (by simp [va_wsS])⟩
  have h2 := hd.2.2
  rw [h] at h2
  exact (Option.some.inj h2).symm
theorem vx_callSW (X : Stand p l e R s m args below meth c T locs cells slots) (hexec : p.tables.exec = Jvm.exec) {own : String} {index : Nat} {y : MethodName} {bytes : ByteArray} {maxL : Nat} {ret : Option FieldType} {hh : List (Nat × Nat × Nat × Nat)}
    (hown : s.vm.findClass own = some m.cls) (hlink : (Cond.methodLink own index y).before args s = true) (hstat : (Cond.static y).before args s = true) (hinit : (Cond.initialized y.cls).before args s = true)
    (hcode : (Cond.codeWith y bytes maxL ret hh).before args s = true) (hy : y.cls ≠ "java/lang/invoke/MethodHandle" ∧ y.cls ≠ "java/lang/invoke/VarHandle")
    {W9 : Nat} {Pre : Pt → Array Value → Prop} {Post : Pt → Array Value → Option Value → Pt → Prop} (hK : Back l R p e below s args y 3 W9 Pre Post)
    {g : JFrame} (hg : g.method = m) (hsize : g.locals.size = c.maxLocals) {argsL rest : List Value} (hlen : ∀ sig, parseMethodDescriptor y.desc = some sig → argsL.length = sig.parameters.length)
    (hstack : g.stack = argsL.reverse ++ rest) (hW : 2 * g.monitorRoom + (rest.map fun v => v.category).sum ≤ W9) (hdg : decode c.code g.pc = .ok (.invokestatic index, 3))
    (hpre : ∀ vm₁, s.WarmedH vm₁ → Pre ⟨T.setVm vm₁, locs, cells, slots⟩ argsL.toArray) :
    ∃ (v : Option Value) (vm₁ : Vm) (B : Pt), s.WarmedH vm₁ ∧ Stand p l e R s m args below meth c B.U B.locs B.cells B.slots ∧ Post ⟨T.setVm vm₁, locs, cells, slots⟩ argsL.toArray v B ∧
      ∀ target, Steps p.tables e below (B.U.setTop { g with pc := g.pc + 3, stack := v.toList ++ rest }) target → Steps p.tables e below (T.setTop g) target := by
  obtain ⟨mk, methM, cM, hnamed, hmethM, -, -, -, -, -, -, hsigM⟩ := Cond.codeWith_spec hcode
  have hstatic : methM.isStatic = true := Cond.static_spec hnamed hmethM hstat
  obtain ⟨kP, hkP, -⟩ := className_of_methodNamed hnamed
  have hinitP : kP.init = .initialized := Cond.initialized_spec (findClass_of_methodNamed hnamed) hkP hinit
  obtain ⟨vm₁, X₁, hstep₁⟩ := X.invokestatic hexec hown hlink hnamed hmethM hstatic hkP hinitP hy (g := g) hg (argsL := argsL) (rest := rest) (hlen _ hsigM) hstack hdg
  obtain ⟨v, B, X', hpost, hsteps⟩ := hK m meth c ⟨T.setVm vm₁, locs, cells, slots⟩ { g with stack := rest } (.invokestatic index) mk argsL.toArray X₁ hg hsize hdg hW (X₁.named hnamed) (hpre vm₁ X₁.warmed)
  exact ⟨v, vm₁, B, X₁.warmed, X', hpost, fun target h => hstep₁ _ fun acts => by rw [doInvoke_state]; exact hsteps.trans h⟩
theorem vx_runSW {y : MethodName} {bytes cc : ByteArray} {maxL nL mc ms n index : Nat} {ret : Option FieldType} {hh : List (Nat × Nat × Nat × Nat)} {ws : List Cond} {rm : Room} {Pc : Array Value → State → Prop} {Qc : Array Value → State → Outcome → State → Prop} {free : Addr → Prop} {Ts : List Cond} {own : String} {As rest : List Value} {g : JFrame}
    (S : CallFix p m c cc nL s args Ts own) (hM : Met l y ws rm Pc Qc mc ms free) (cw : vx_CSW R s args own index y bytes maxL ret hh ws rm mc ms n) (hp : PreS s H Pc As)
    (hg : g.method = m) (hn : As.length = n) (hsize : g.locals.size = nL) (hstack : g.stack = As.reverse ++ rest) (hW : 2 * g.monitorRoom + (rest.map fun v => v.category).sum ≤ 8) (hdg : decode cc g.pc = .ok (.invokestatic index, 3)) (hf : cells + mc ≤ R.cells ∧ slots + ms ≤ R.slots) :
    va_Run p l e R s m args below meth c H locs cells slots mc ms g rest (Qc As.toArray) (free) := by
  obtain ⟨⟨hrc, hrs, hfr, hlo, hws, hcw⟩, hcode, hini, hy, hlen, hl, hstt⟩ := cw
  have hK : Back l R p e below s args y 3 8 (PreOf R mc ms Pc) (PostOf Qc mc ms free) := va_backW (hh := hh) (bytes := bytes) (maxL := maxL) (ret := ret) hM hp.1 hrc hrs hfr hlo hws hcw (fun a' U hW => word_at hW (Or.inl (by first | rfl | simp [Cond.onTables, Cond.keeps, Cond.steady])) hini)
  obtain ⟨hx, hb, hml, ho, -⟩ := S
  intro T hT X
  obtain ⟨v, vm₁, ⟨U', l2, c2, s2⟩, hW₁, X', ⟨g', mk, t, L, e1, e2, hq, h1, hL, h2, h3⟩, st⟩ := vx_callSW X hx (hh := hh) (bytes := bytes) (maxL := maxL) (ret := ret) ho hl hstt hini hcode hy hK hg (hsize.trans hml.symm) (argsL := As) (rest := rest) (fun sig h => hn.trans (hlen sig h)) hstack hW (by rw [hb]; exact hdg)
    (fun vm₁ hW₁ => ⟨hf.1, hf.2, hp.2 (T.setVm vm₁) hT hW₁⟩)
  dsimp only [Pt.U, Pt.locs, Pt.cells, Pt.slots] at X' e1 e2 h1 h2 h3 st
  subst h1; subst h2; subst h3
  exact ⟨v, (T.setVm vm₁).calling g' mk As.toArray, t, U', L, hT, X', hL, e1, e2, hq, st⟩
/-- a thing of a world lies in the heap -/
theorem vx_lt {D : va_G} {cl : List vw_C} {ws : va_W} {H1 : Heap} (h : va_P D cl ws H1) {k : Nat} {q : Nat × va_E} (hk : ws[k]? = some q) : q.1 < H1.size := (h k q hk).lt
end VXS
/-! ===== END ===== -/
/-! ===== BEGIN methods with a table of their own: called by a name, returning or throwing ===== -/
section VXH
/-! vx_backW, vx_callVX, vx_callSX, vx_callVW, vx_runVW, vx_runVX, vx_runSX, vx_ofWH follow the same proofs as their sisters above (Free/Laws.lean, Shelf42/LK1.lean); vx_outP calls Shelf42/NT130.lean (outThrough). -/
section
variable {l : Launch} {R : Room} {p : Program} {e : Env} {below : List Frame} {s : State} {sargs : Array Value} {y : MethodName} {len W9 : Nat}
theorem vx_backW {ws : List Cond} {rm : Room} {Pc : Array Value → State → Prop} {Qc : Array Value → State → Outcome → State → Prop} {XC : String → State → State → Prop} {mc ms : Nat} {free : Addr → Prop} {bytes : ByteArray} {maxL : Nat} {ret : Option FieldType} {hh : List (Nat × Nat × Nat × Nat)}
    (hM : vx_Met l y ws rm Pc Qc XC mc ms free) (hblind : FrameBlind Pc) (hrc : rm.cells = mc) (hrs : rm.slots = ms)
    (hframes : rm.frames + 1 ≤ R.frames) (hlocals : W9 + (maxL + 11) + rm.locals ≤ R.locals)
    (hws : ∀ w ∈ ws, ∀ a' U, s.WarmedH U.vm → w.before a' U = true) (hcode : Cond.codeWith y bytes maxL ret hh ∈ ws) (hinit : ∀ a' U, s.WarmedH U.vm → (Cond.initialized y.cls).before a' U = true) :
    vx_Back l R p e below s sargs y len W9 (PreOf R mc ms Pc) (PostOf Qc mc ms free) (vx_Post XC mc ms free) := by
  intro m meth c A g ig mk a X hg hsize hdg hW hn hp
  have h1 : (headSpec ws rm).pre.before a A.U = true := atoms_intro fun w hw => hws w hw _ _ X.warmed
  have h2 : (Cond.codeWith y bytes maxL ret hh).before a A.U = true := hws _ hcode _ _ X.warmed
  have h3 : (Cond.initialized y.cls).before a A.U = true := hinit _ _ X.warmed
  have h4 : A.cells + (headSpec ws rm).room.cells ≤ R.cells := by rw [show (headSpec ws rm).room.cells = mc from hrc]; exact hp.1
  have h5 : A.slots + (headSpec ws rm).room.slots ≤ R.slots := by rw [show (headSpec ws rm).room.slots = ms from hrs]; exact hp.2.1
  have hPc : Pc a (A.U.calling g mk a) := hblind _ _ _ _ hp.2.2
  obtain ⟨U, Ls, c0, s0⟩ := A
  dsimp only [Pt.U, Pt.locs, Pt.cells, Pt.slots] at h1 h2 h3 h4 h5 X hn hPc ⊢
  obtain ⟨m9, methY, cY, hn9, hmY, hcY, -, hlY, -⟩ := Cond.codeWith_spec h2
  cases Option.some.inj (hn9.symm.trans hn)
  obtain ⟨kY, hkY, -⟩ := className_of_methodNamed hn
  have hinitY : kY.init = .initialized := Cond.initialized_spec (findClass_of_methodNamed hn) hkY h3
  have h : At U g.method c below := by rw [hg]; exact X.here
  have hlocals9 : W9 + (maxL + 11) + (headSpec ws rm).room.locals ≤ R.locals := hlocals
  have happ : (headSpec ws rm).appliesLoose y e.platform (U.calling g mk a) = true :=
    Spec.appliesLoose_calling (g := g) h hdg hn hkY hinitY
      (X.room_calling (g := g) (R' := (headSpec ws rm).room) hsize hmY hcY hframes (by rw [hlY]; omega) h4 h5) h1
  obtain ⟨mid, hmid⟩ := h.above
  have hfr : (U.setTop g).frames = (.java g :: mid) ++ below := by rw [State.frames_setTop' g h.top, hmid]; rfl
  obtain ⟨o, s₂, hsteps, -, hend, hq⟩ := Steps.callFree hM p X.admits X.cas X.clock (acts := []) hfr happ hPc trivial
  have hq' : vx_Q Qc XC mc ms free a (U.calling g mk a) o s₂ := hq
  rw [State.frames_setTop' g h.top] at hend
  obtain ⟨g₀, hg0⟩ := Option.isSome_iff_exists.mp h.top
  obtain ⟨r, hr⟩ := State.topJava?_eq_some.mp hg0
  have hr' : (({ U with heap := s₂.heap, slotsUsed := s₂.slotsUsed } : State).setVm s₂.vm).frames = .java g₀ :: r := hr
  rcases hq' with ⟨hqc, L, hfe, hL⟩ | ⟨q, rfl, E, ce, L, hx, hce, hcv, hcl, hW₂, hsm, hL⟩
  · obtain ⟨⟨v, rfl⟩, hW₂, e2, q2, q3, q4, q5, q6⟩ := id hfe
    have e3 : s₂ = ({ (U.calling g mk a).setFrames s₂.frames with heap := s₂.heap, slotsUsed := s₂.slotsUsed } : State).setVm s₂.vm := by
      have : s₂ = ({ s₂ with vm := (U.calling g mk a).vm } : State).setVm s₂.vm := rfl
      rw [e2] at this
      exact this
    obtain ⟨c₂, i₂, len₂, hc₂, hd₂, hf₂⟩ := hend
    have hW' : U.WarmedH s₂.vm := hW₂
    have hcc : c₂ = c := by
      have h1 : s₂.code? g.method = U.code? g.method := by
        rw [State.code?_eq, State.code?_eq, hW'.alike.method?]
      exact Option.some.inj (hc₂.symm.trans (h1.trans h.code))
    subst hcc
    have hlen : len₂ = len := by rw [hdg] at hd₂; cases hd₂; rfl
    subst hlen
    have hs₂ : s₂ = (({ U with heap := s₂.heap, slotsUsed := s₂.slotsUsed } : State).setVm s₂.vm).setTop { g with pc := g.pc + len₂, stack := v.toList ++ g.stack } := by
      refine e3.trans ?_
      rw [hf₂, State.calling_eq h.top, State.setFrames_setFrames, State.setTop_of_frames _ hr', hr]
      rfl
    have hsame : U.sameButNew ({ U with heap := s₂.heap, slotsUsed := s₂.slotsUsed } : State) L mc ms := by
      refine ⟨?_, q2, q3, q4, q5, q6⟩
      obtain ⟨t, ht, -⟩ := State.frames_cons hr
      show ({ U with heap := s₂.heap, slotsUsed := s₂.slotsUsed } : State) = { U.setFrames U.frames with heap := s₂.heap, slotsUsed := s₂.slotsUsed }
      rw [State.setFrames_self ht]
    subst hg
    refine Or.inl ⟨v, ⟨(({ U with heap := s₂.heap, slotsUsed := s₂.slotsUsed } : State).setVm s₂.vm), Ls ++ L, c0 + mc, s0 + ms⟩,
      ⟨X.admits, X.cas, X.clock, X.frames, X.room, X.hears, X.method, X.code, (X.here.setHeapUsed s₂.heap s₂.slotsUsed).setVm hW'.alike, X.tail, State.WarmedH.trans X.warmed hW', X.limits, X.bytes, X.same.trans (hsame.setVm s.vm)⟩,
      ⟨g, mk, s₂, L, rfl, rfl, hqc, rfl, hL, rfl, rfl⟩, ?_⟩
    show Steps p.tables e below _ ((({ U with heap := s₂.heap, slotsUsed := s₂.slotsUsed } : State).setVm s₂.vm).setTop { g with pc := g.pc + len₂, stack := v.toList ++ g.stack })
    rw [← hs₂]
    exact hsteps
  · obtain ⟨e2, q2, q3, q4, q5, q6⟩ := id hsm
    have e3 : s₂ = ({ (U.calling g mk a).setFrames s₂.frames with heap := s₂.heap, slotsUsed := s₂.slotsUsed } : State).setVm s₂.vm := by
      have : s₂ = ({ s₂ with vm := (U.calling g mk a).vm } : State).setVm s₂.vm := rfl
      rw [e2] at this
      exact this
    have hf₂ : s₂.frames = .throwing q :: .java g :: U.frames.tail := hend
    have hW' : U.WarmedH s₂.vm := hW₂
    have hs₂ : s₂ = ((({ U with heap := s₂.heap, slotsUsed := s₂.slotsUsed } : State).setVm s₂.vm).setTop g).pushFrame (.throwing q) := by
      refine e3.trans ?_
      rw [hf₂, State.calling_eq h.top, State.setFrames_setFrames, State.pushFrame, State.frames_setTop _ hr', State.setTop_of_frames _ hr', State.setFrames_setFrames, hr]
      rfl
    have hsame : U.sameButNew ({ U with heap := s₂.heap, slotsUsed := s₂.slotsUsed } : State) L mc ms := by
      refine ⟨?_, q2, q3, q4, q5, q6⟩
      obtain ⟨t, ht, -⟩ := State.frames_cons hr
      show ({ U with heap := s₂.heap, slotsUsed := s₂.slotsUsed } : State) = { U.setFrames U.frames with heap := s₂.heap, slotsUsed := s₂.slotsUsed }
      rw [State.setFrames_self ht]
    subst hg
    refine Or.inr ⟨q, ⟨(({ U with heap := s₂.heap, slotsUsed := s₂.slotsUsed } : State).setVm s₂.vm), Ls ++ L, c0 + mc, s0 + ms⟩,
      ⟨X.admits, X.cas, X.clock, X.frames, X.room, X.hears, X.method, X.code, (X.here.setHeapUsed s₂.heap s₂.slotsUsed).setVm hW'.alike, X.tail, State.WarmedH.trans X.warmed hW', X.limits, X.bytes, X.same.trans (hsame.setVm s.vm)⟩,
      ⟨g, mk, s₂, L, E, ce, rfl, rfl, hx, hce, hcv, hcl, rfl, hL, rfl, rfl⟩, ?_⟩
    show Steps p.tables e below _ (((({ U with heap := s₂.heap, slotsUsed := s₂.slotsUsed } : State).setVm s₂.vm).setTop g).pushFrame (.throwing q))
    rw [← hs₂]
    exact hsteps
end
variable {p : Program} {l : Launch} {e : Env} {R : Room} {s : State} {m : MethodId} {args : Array Value} {below : List Frame} {meth : Method} {c : Code} {T : State} {H : Heap} {locs : List Loc} {cells slots : Nat}
theorem vx_callVX (X : Stand p l e R s m args below meth c T locs cells slots) (hexec : p.tables.exec = Jvm.exec) {own C : String} {index : Nat} {y : MethodName} {bytes : ByteArray} {maxL : Nat} {ret : Option FieldType} {hh : List (Nat × Nat × Nat × Nat)}
    (hown : s.vm.findClass own = some m.cls) (hlink : (Cond.methodLink own index y).before args s = true) (hinst : (Cond.instanceMethod y).before args s = true) (hsel : (Cond.selects C y y).before args s = true)
    (hcode : (Cond.codeWith y bytes maxL ret hh).before args s = true) (hy : y.cls ≠ "java/lang/invoke/MethodHandle" ∧ y.cls ≠ "java/lang/invoke/VarHandle")
    {W9 : Nat} {Pre : Pt → Array Value → Prop} {Post : Pt → Array Value → Option Value → Pt → Prop} {PostX : Pt → Array Value → Addr → Pt → Prop} (hK : vx_Back l R p e below s args y 3 W9 Pre Post PostX)
    {b : Addr} {cellB : Cell} (hcell : T.heap[b]? = some cellB) (hobj : cellB.vm.isStatics = false) (hcls : s.vm.findClass C = some cellB.cls)
    {g : JFrame} (hg : g.method = m) (hsize : g.locals.size = c.maxLocals) {argsL rest : List Value} (hlen : ∀ sig, parseMethodDescriptor y.desc = some sig → argsL.length = sig.parameters.length)
    (hstack : g.stack = argsL.reverse ++ .ref b :: rest) (hW : 2 * g.monitorRoom + (rest.map fun v => v.category).sum ≤ W9) (hdg : decode c.code g.pc = .ok (.invokevirtual index, 3))
    (hpre : ∀ vm₁, s.WarmedH vm₁ → Pre ⟨T.setVm vm₁, locs, cells, slots⟩ (Value.ref b :: argsL).toArray) :
    (∃ (v : Option Value) (vm₁ : Vm) (B : Pt), s.WarmedH vm₁ ∧ Stand p l e R s m args below meth c B.U B.locs B.cells B.slots ∧ Post ⟨T.setVm vm₁, locs, cells, slots⟩ (Value.ref b :: argsL).toArray v B ∧
      ∀ target, Steps p.tables e below (B.U.setTop { g with pc := g.pc + 3, stack := v.toList ++ rest }) target → Steps p.tables e below (T.setTop g) target) ∨
    (∃ (q : Addr) (vm₁ : Vm) (B : Pt), s.WarmedH vm₁ ∧ Stand p l e R s m args below meth c B.U B.locs B.cells B.slots ∧ PostX ⟨T.setVm vm₁, locs, cells, slots⟩ (Value.ref b :: argsL).toArray q B ∧
      Steps p.tables e below (T.setTop g) ((B.U.setTop { g with stack := rest }).pushFrame (.throwing q))) := by
  obtain ⟨mk, methM, hnamed, hmethM, hstM, habM⟩ := Cond.instanceMethod_spec hinst
  obtain ⟨m8, methM', cM, hn8, hmethM', -, -, -, -, -, -, hsigM⟩ := Cond.codeWith_spec hcode
  cases Option.some.inj (hn8.symm.trans hnamed)
  cases hmethM.symm.trans hmethM'
  obtain ⟨c2, r2, m2, q1, q2, q3, q4, kP, hkP, hkPi⟩ := Cond.selects_spec hsel
  cases hcls.symm.trans q1
  cases (State.methodFound?_of_named hnamed hy).symm.trans q2
  cases hnamed.symm.trans q3
  have hselP : selectMethod e.platform s.vm cellB.cls mk = .method mk := by rw [Launch.admits_selectMethod X.admits]; exact q4
  obtain ⟨vm₁, X₁, hstep₁⟩ := X.invokevirtual hexec hown hlink hnamed hmethM hstM hkP hkPi hy (a := b) (cell := cellB) hcell
    (fun z h => by rw [h] at hobj; cases hobj) hselP hmethM habM hkP hkPi (g := g) hg (argsL := argsL) (rest := rest) (hlen _ hsigM) hstack hdg
  rcases hK m meth c ⟨T.setVm vm₁, locs, cells, slots⟩ { g with stack := rest } (.invokevirtual index) mk (Value.ref b :: argsL).toArray X₁ hg hsize hdg hW (X₁.named hnamed) (hpre vm₁ X₁.warmed) with ⟨v, B, X', hpost, hsteps⟩ | ⟨q, B, X', hpost, hsteps⟩
  · exact Or.inl ⟨v, vm₁, B, X₁.warmed, X', hpost, fun target h => hstep₁ _ fun acts => by rw [doInvoke_state]; exact hsteps.trans h⟩
  · exact Or.inr ⟨q, vm₁, B, X₁.warmed, X', hpost, hstep₁ _ fun acts => by rw [doInvoke_state]; exact hsteps⟩
theorem vx_callSX (X : Stand p l e R s m args below meth c T locs cells slots) (hexec : p.tables.exec = Jvm.exec) {own : String} {index : Nat} {y : MethodName} {bytes : ByteArray} {maxL : Nat} {ret : Option FieldType} {hh : List (Nat × Nat × Nat × Nat)}
    (hown : s.vm.findClass own = some m.cls) (hlink : (Cond.methodLink own index y).before args s = true) (hstat : (Cond.static y).before args s = true) (hinit : (Cond.initialized y.cls).before args s = true)
    (hcode : (Cond.codeWith y bytes maxL ret hh).before args s = true) (hy : y.cls ≠ "java/lang/invoke/MethodHandle" ∧ y.cls ≠ "java/lang/invoke/VarHandle")
    {W9 : Nat} {Pre : Pt → Array Value → Prop} {Post : Pt → Array Value → Option Value → Pt → Prop} {PostX : Pt → Array Value → Addr → Pt → Prop} (hK : vx_Back l R p e below s args y 3 W9 Pre Post PostX)
    {g : JFrame} (hg : g.method = m) (hsize : g.locals.size = c.maxLocals) {argsL rest : List Value} (hlen : ∀ sig, parseMethodDescriptor y.desc = some sig → argsL.length = sig.parameters.length)
    (hstack : g.stack = argsL.reverse ++ rest) (hW : 2 * g.monitorRoom + (rest.map fun v => v.category).sum ≤ W9) (hdg : decode c.code g.pc = .ok (.invokestatic index, 3))
    (hpre : ∀ vm₁, s.WarmedH vm₁ → Pre ⟨T.setVm vm₁, locs, cells, slots⟩ argsL.toArray) :
    (∃ (v : Option Value) (vm₁ : Vm) (B : Pt), s.WarmedH vm₁ ∧ Stand p l e R s m args below meth c B.U B.locs B.cells B.slots ∧ Post ⟨T.setVm vm₁, locs, cells, slots⟩ argsL.toArray v B ∧
      ∀ target, Steps p.tables e below (B.U.setTop { g with pc := g.pc + 3, stack := v.toList ++ rest }) target → Steps p.tables e below (T.setTop g) target) ∨
    (∃ (q : Addr) (vm₁ : Vm) (B : Pt), s.WarmedH vm₁ ∧ Stand p l e R s m args below meth c B.U B.locs B.cells B.slots ∧ PostX ⟨T.setVm vm₁, locs, cells, slots⟩ argsL.toArray q B ∧
      Steps p.tables e below (T.setTop g) ((B.U.setTop { g with stack := rest }).pushFrame (.throwing q))) := by
  obtain ⟨mk, methM, cM, hnamed, hmethM, -, -, -, -, -, -, hsigM⟩ := Cond.codeWith_spec hcode
  have hstatic : methM.isStatic = true := Cond.static_spec hnamed hmethM hstat
  obtain ⟨kP, hkP, -⟩ := className_of_methodNamed hnamed
  have hinitP : kP.init = .initialized := Cond.initialized_spec (findClass_of_methodNamed hnamed) hkP hinit
  obtain ⟨vm₁, X₁, hstep₁⟩ := X.invokestatic hexec hown hlink hnamed hmethM hstatic hkP hinitP hy (g := g) hg (argsL := argsL) (rest := rest) (hlen _ hsigM) hstack hdg
  rcases hK m meth c ⟨T.setVm vm₁, locs, cells, slots⟩ { g with stack := rest } (.invokestatic index) mk argsL.toArray X₁ hg hsize hdg hW (X₁.named hnamed) (hpre vm₁ X₁.warmed) with ⟨v, B, X', hpost, hsteps⟩ | ⟨q, B, X', hpost, hsteps⟩
  · exact Or.inl ⟨v, vm₁, B, X₁.warmed, X', hpost, fun target h => hstep₁ _ fun acts => by rw [doInvoke_state]; exact hsteps.trans h⟩
  · exact Or.inr ⟨q, vm₁, B, X₁.warmed, X', hpost, hstep₁ _ fun acts => by rw [doInvoke_state]; exact hsteps⟩
theorem vx_callVW (X : Stand p l e R s m args below meth c T locs cells slots) (hexec : p.tables.exec = Jvm.exec) {own C : String} {index : Nat} {y : MethodName} {bytes : ByteArray} {maxL : Nat} {ret : Option FieldType} {hh : List (Nat × Nat × Nat × Nat)}
    (hown : s.vm.findClass own = some m.cls) (hlink : (Cond.methodLink own index y).before args s = true) (hinst : (Cond.instanceMethod y).before args s = true) (hsel : (Cond.selects C y y).before args s = true)
    (hcode : (Cond.codeWith y bytes maxL ret hh).before args s = true) (hy : y.cls ≠ "java/lang/invoke/MethodHandle" ∧ y.cls ≠ "java/lang/invoke/VarHandle")
    {W9 : Nat} {Pre : Pt → Array Value → Prop} {Post : Pt → Array Value → Option Value → Pt → Prop} (hK : Back l R p e below s args y 3 W9 Pre Post)
    {b : Addr} {cellB : Cell} (hcell : T.heap[b]? = some cellB) (hobj : cellB.vm.isStatics = false) (hcls : s.vm.findClass C = some cellB.cls)
    {g : JFrame} (hg : g.method = m) (hsize : g.locals.size = c.maxLocals) {argsL rest : List Value} (hlen : ∀ sig, parseMethodDescriptor y.desc = some sig → argsL.length = sig.parameters.length)
    (hstack : g.stack = argsL.reverse ++ .ref b :: rest) (hW : 2 * g.monitorRoom + (rest.map fun v => v.category).sum ≤ W9) (hdg : decode c.code g.pc = .ok (.invokevirtual index, 3))
    (hpre : ∀ vm₁, s.WarmedH vm₁ → Pre ⟨T.setVm vm₁, locs, cells, slots⟩ (Value.ref b :: argsL).toArray) :
    ∃ (v : Option Value) (vm₁ : Vm) (B : Pt), s.WarmedH vm₁ ∧ Stand p l e R s m args below meth c B.U B.locs B.cells B.slots ∧ Post ⟨T.setVm vm₁, locs, cells, slots⟩ (Value.ref b :: argsL).toArray v B ∧
      ∀ target, Steps p.tables e below (B.U.setTop { g with pc := g.pc + 3, stack := v.toList ++ rest }) target → Steps p.tables e below (T.setTop g) target := by
  obtain ⟨mk, methM, hnamed, hmethM, hstM, habM⟩ := Cond.instanceMethod_spec hinst
  obtain ⟨m8, methM', cM, hn8, hmethM', -, -, -, -, -, -, hsigM⟩ := Cond.codeWith_spec hcode
  cases Option.some.inj (hn8.symm.trans hnamed)
  cases hmethM.symm.trans hmethM'
  obtain ⟨c2, r2, m2, q1, q2, q3, q4, kP, hkP, hkPi⟩ := Cond.selects_spec hsel
  cases hcls.symm.trans q1
  cases (State.methodFound?_of_named hnamed hy).symm.trans q2
  cases hnamed.symm.trans q3
  have hselP : selectMethod e.platform s.vm cellB.cls mk = .method mk := by rw [Launch.admits_selectMethod X.admits]; exact q4
  obtain ⟨vm₁, X₁, hstep₁⟩ := X.invokevirtual hexec hown hlink hnamed hmethM hstM hkP hkPi hy (a := b) (cell := cellB) hcell
    (fun z h => by rw [h] at hobj; cases hobj) hselP hmethM habM hkP hkPi (g := g) hg (argsL := argsL) (rest := rest) (hlen _ hsigM) hstack hdg
  obtain ⟨v, B, X', hpost, hsteps⟩ := hK m meth c ⟨T.setVm vm₁, locs, cells, slots⟩ { g with stack := rest } (.invokevirtual index) mk (Value.ref b :: argsL).toArray X₁ hg hsize hdg hW (X₁.named hnamed) (hpre vm₁ X₁.warmed)
  exact ⟨v, vm₁, B, X₁.warmed, X', hpost, fun target h => hstep₁ _ fun acts => by rw [doInvoke_state]; exact hsteps.trans h⟩
abbrev vx_CVW (R : Room) (s : State) (args : Array Value) (own C : String) (index : Nat) (y : MethodName) (bytes : ByteArray) (maxL : Nat) (ret : Option FieldType) (hh : List (Nat × Nat × Nat × Nat)) (ws : List Cond) (rm : Room) (mc ms n : Nat) : Prop :=
  (rm.cells = mc ∧ rm.slots = ms ∧ rm.frames + 1 ≤ R.frames ∧ 8 + (maxL + 11) + rm.locals ≤ R.locals ∧ (∀ w ∈ ws, ∀ (a' : Array Value) (U : State), s.WarmedH U.vm → w.before a' U = true) ∧ Cond.codeWith y bytes maxL ret hh ∈ ws) ∧
  (Cond.codeWith y bytes maxL ret hh).before args s = true ∧ (Cond.initialized y.cls).before args s = true ∧ (y.cls ≠ "java/lang/invoke/MethodHandle" ∧ y.cls ≠ "java/lang/invoke/VarHandle") ∧
  (∀ sig, parseMethodDescriptor y.desc = some sig → n = sig.parameters.length) ∧ (Cond.methodLink own index y).before args s = true ∧ (Cond.instanceMethod y).before args s = true ∧ (Cond.selects C y y).before args s = true
theorem vx_cwVW {own C : String} {index maxL mc ms : Nat} {y : MethodName} {bytes : ByteArray} {ret : Option FieldType} {hh : List (Nat × Nat × Nat × Nat)} {Ts ws ws' : List Cond} {rm : Room} (n : Nat) (ht : ∀ w ∈ Ts, w.before args s = true) (hT : GoodIn Ts (wsV own index C y ws)) (hw : ws = Cond.codeWith y bytes maxL ret hh :: ws') (hrc : rm.cells = mc) (hrs : rm.slots = ms)
    (hd : y.cls = C ∧ y.cls ≠ "java/lang/invoke/MethodHandle" ∧ y.cls ≠ "java/lang/invoke/VarHandle" ∧ (parseMethodDescriptor y.desc).map (fun d => d.parameters.length) = some n) (hR : rm.frames + 1 ≤ R.frames ∧ 8 + (maxL + 11) + rm.locals ≤ R.locals) :
    vx_CVW R s args own C index y bytes maxL ret hh ws rm mc ms n := by
  obtain ⟨hC, hd⟩ := hd
  subst hC
  have ok : ∀ w ∈ wsV own index y.cls y ws, w.before args s = true := fun w h => ht w (hT w h).1
  have hG : GoodIn Ts ws := fun w h => hT w (by unfold wsV; exact List.mem_append_right _ h)
  have hc : Cond.codeWith y bytes maxL ret hh ∈ ws := by rw [hw]; exact List.mem_cons_self
  refine ⟨⟨hrc, hrs, hR.1, hR.2, pay_in ht hG, hc⟩, ht _ (hG _ hc).1, ok _ (by simp [wsV]), ⟨hd.1, hd.2.1⟩, fun sig h => ?_, ok _ (by simp [wsV]), ok _ (by simp [wsV]), ok _ (by simp [wsV])⟩
  have h2 := hd.2.2
  rw [h] at h2
  exact (Option.some.inj h2).symm
theorem vx_runVW {y : MethodName} {bytes cc : ByteArray} {maxL nL mc ms n index : Nat} {ret : Option FieldType} {hh : List (Nat × Nat × Nat × Nat)} {ws : List Cond} {rm : Room} {Pc : Array Value → State → Prop} {Qc : Array Value → State → Outcome → State → Prop} {free : Addr → Prop} {Ts : List Cond} {own C : String} {b : Addr} {As rest : List Value} {g : JFrame}
    (S : CallFix p m c cc nL s args Ts own) (hM : Met l y ws rm Pc Qc mc ms free) (cw : vx_CVW R s args own C index y bytes maxL ret hh ws rm mc ms n) (hp : PreV s H C b Pc As)
    (hg : g.method = m) (hn : As.length = n) (hsize : g.locals.size = nL) (hstack : g.stack = As.reverse ++ .ref b :: rest) (hW : 2 * g.monitorRoom + (rest.map fun v => v.category).sum ≤ 8) (hdg : decode cc g.pc = .ok (.invokevirtual index, 3)) (hf : cells + mc ≤ R.cells ∧ slots + ms ≤ R.slots) :
    va_Run p l e R s m args below meth c H locs cells slots mc ms g rest (Qc (Value.ref b :: As).toArray) free := by
  obtain ⟨⟨hrc, hrs, hfr, hlo, hws, hcw⟩, hcode, hini, hy, hlen, hl, hin, hse⟩ := cw
  have hK : Back l R p e below s args y 3 8 (PreOf R mc ms Pc) (PostOf Qc mc ms free) := va_backW (hh := hh) (bytes := bytes) (maxL := maxL) (ret := ret) hM hp.1 hrc hrs hfr hlo hws hcw (fun a' U hW => word_at hW (Or.inl (by first | rfl | simp [Cond.onTables, Cond.keeps, Cond.steady])) hini)
  obtain ⟨hx, hb, hml, ho, -⟩ := S
  obtain ⟨-, ⟨cellB, hcB, hoB, hclB⟩, hPc⟩ := hp
  intro T hT X
  obtain ⟨v, vm₁, ⟨U', l2, c2, s2⟩, hW₁, X', ⟨g', mk, t, L, e1, e2, hq, h1, hL, h2, h3⟩, st⟩ := vx_callVW X hx (C := C) (hh := hh) (bytes := bytes) (maxL := maxL) (ret := ret) ho hl hin hse hcode hy hK (by rw [hT]; exact hcB) hoB hclB hg (hsize.trans hml.symm) (argsL := As) (rest := rest) (fun sig h => hn.trans (hlen sig h)) hstack hW (by rw [hb]; exact hdg)
    (fun vm₁ hW₁ => ⟨hf.1, hf.2, hPc (T.setVm vm₁) hT hW₁⟩)
  dsimp only [Pt.U, Pt.locs, Pt.cells, Pt.slots] at X' e1 e2 h1 h2 h3 st
  subst h1; subst h2; subst h3
  exact ⟨v, (T.setVm vm₁).calling g' mk (Value.ref b :: As).toArray, t, U', L, hT, X', hL, e1, e2, hq, st⟩
section
variable {y : MethodName} {bytes cc : ByteArray} {maxL nL mc ms n index : Nat} {ret : Option FieldType} {ws : List Cond} {rm : Room} {Pc : Array Value → State → Prop} {Qc : Array Value → State → Outcome → State → Prop} {XC : String → State → State → Prop} {free : Addr → Prop} {Ts : List Cond} {own C : String} {b : Addr} {As rest : List Value} {g : JFrame}
theorem vx_runVX {hh : List (Nat × Nat × Nat × Nat)} (S : CallFix p m c cc nL s args Ts own) (hM : vx_Met l y ws rm Pc Qc XC mc ms free) (cw : vx_CVW R s args own C index y bytes maxL ret hh ws rm mc ms n) (hp : PreV s H C b Pc As)
    (hg : g.method = m) (hn : As.length = n) (hsize : g.locals.size = nL) (hstack : g.stack = As.reverse ++ .ref b :: rest) (hW : 2 * g.monitorRoom + (rest.map fun v => v.category).sum ≤ 8) (hdg : decode cc g.pc = .ok (.invokevirtual index, 3)) (hf : cells + mc ≤ R.cells ∧ slots + ms ≤ R.slots) :
    vx_Run p l e R s m args below meth c H locs cells slots mc ms g rest (Qc (Value.ref b :: As).toArray) XC free := by
  obtain ⟨⟨hrc, hrs, hfr, hlo, hws, hcw⟩, hcode, hini, hy, hlen, hl, hin, hse⟩ := cw
  have hK : vx_Back l R p e below s args y 3 8 (PreOf R mc ms Pc) (PostOf Qc mc ms free) (vx_Post XC mc ms free) := vx_backW (hh := hh) (bytes := bytes) (maxL := maxL) (ret := ret) hM hp.1 hrc hrs hfr hlo hws hcw (fun a' U hW => word_at hW (Or.inl (by first | rfl | simp [Cond.onTables, Cond.keeps, Cond.steady])) hini)
  obtain ⟨hx, hb, hml, ho, -⟩ := S
  obtain ⟨-, ⟨cellB, hcB, hoB, hclB⟩, hPc⟩ := hp
  intro T hT X
  rcases vx_callVX X hx (C := C) (hh := hh) (bytes := bytes) (maxL := maxL) (ret := ret) ho hl hin hse hcode hy hK (by rw [hT]; exact hcB) hoB hclB hg (hsize.trans hml.symm) (argsL := As) (rest := rest) (fun sig h => hn.trans (hlen sig h)) hstack hW (by rw [hb]; exact hdg)
    (fun vm₁ hW₁ => ⟨hf.1, hf.2, hPc (T.setVm vm₁) hT hW₁⟩) with ⟨v, vm₁, ⟨U', l2, c2, s2⟩, hW₁, X', ⟨g', mk, t, L, e1, e2, hq, h1, hL, h2, h3⟩, st⟩ | ⟨q, vm₁, ⟨U', l2, c2, s2⟩, hW₁, X', ⟨g', mk, t, L, E, ce, e1, e2, hq, hce, hcv, hcl, h1, hL, h2, h3⟩, st⟩
  · dsimp only [Pt.U, Pt.locs, Pt.cells, Pt.slots] at X' e1 e2 h1 h2 h3 st
    subst h1; subst h2; subst h3
    exact Or.inl ⟨v, (T.setVm vm₁).calling g' mk (Value.ref b :: As).toArray, t, U', L, hT, X', hL, e1, e2, hq, st⟩
  · dsimp only [Pt.U, Pt.locs, Pt.cells, Pt.slots] at X' e1 e2 h1 h2 h3 st hcl
    subst h1; subst h2; subst h3
    exact Or.inr ⟨q, (T.setVm vm₁).calling g' mk (Value.ref b :: As).toArray, t, U', L, E, ce, hT, X', hL, e1, e2, hq, hce, hcv, vx_cls hW₁ hcl, st⟩
theorem vx_runSX {hh : List (Nat × Nat × Nat × Nat)} (S : CallFix p m c cc nL s args Ts own) (hM : vx_Met l y ws rm Pc Qc XC mc ms free) (cw : vx_CSW R s args own index y bytes maxL ret hh ws rm mc ms n) (hp : PreS s H Pc As)
    (hg : g.method = m) (hn : As.length = n) (hsize : g.locals.size = nL) (hstack : g.stack = As.reverse ++ rest) (hW : 2 * g.monitorRoom + (rest.map fun v => v.category).sum ≤ 8) (hdg : decode cc g.pc = .ok (.invokestatic index, 3)) (hf : cells + mc ≤ R.cells ∧ slots + ms ≤ R.slots) :
    vx_Run p l e R s m args below meth c H locs cells slots mc ms g rest (Qc As.toArray) XC free := by
  obtain ⟨⟨hrc, hrs, hfr, hlo, hws, hcw⟩, hcode, hini, hy, hlen, hl, hstt⟩ := cw
  have hK : vx_Back l R p e below s args y 3 8 (PreOf R mc ms Pc) (PostOf Qc mc ms free) (vx_Post XC mc ms free) := vx_backW (hh := hh) (bytes := bytes) (maxL := maxL) (ret := ret) hM hp.1 hrc hrs hfr hlo hws hcw (fun a' U hW => word_at hW (Or.inl (by first | rfl | simp [Cond.onTables, Cond.keeps, Cond.steady])) hini)
  obtain ⟨hx, hb, hml, ho, -⟩ := S
  intro T hT X
  rcases vx_callSX X hx (hh := hh) (bytes := bytes) (maxL := maxL) (ret := ret) ho hl hstt hini hcode hy hK hg (hsize.trans hml.symm) (argsL := As) (rest := rest) (fun sig h => hn.trans (hlen sig h)) hstack hW (by rw [hb]; exact hdg)
    (fun vm₁ hW₁ => ⟨hf.1, hf.2, hp.2 (T.setVm vm₁) hT hW₁⟩) with ⟨v, vm₁, ⟨U', l2, c2, s2⟩, hW₁, X', ⟨g', mk, t, L, e1, e2, hq, h1, hL, h2, h3⟩, st⟩ | ⟨q, vm₁, ⟨U', l2, c2, s2⟩, hW₁, X', ⟨g', mk, t, L, E, ce, e1, e2, hq, hce, hcv, hcl, h1, hL, h2, h3⟩, st⟩
  · dsimp only [Pt.U, Pt.locs, Pt.cells, Pt.slots] at X' e1 e2 h1 h2 h3 st
    subst h1; subst h2; subst h3
    exact Or.inl ⟨v, (T.setVm vm₁).calling g' mk As.toArray, t, U', L, hT, X', hL, e1, e2, hq, st⟩
  · dsimp only [Pt.U, Pt.locs, Pt.cells, Pt.slots] at X' e1 e2 h1 h2 h3 st hcl
    subst h1; subst h2; subst h3
    exact Or.inr ⟨q, (T.setVm vm₁).calling g' mk As.toArray, t, U', L, E, ce, hT, X', hL, e1, e2, hq, hce, hcv, vx_cls hW₁ hcl, st⟩
end
end VXH
theorem vx_ofWH {l : Launch} {y : MethodName} {ws ws' : List Cond} {rm : Room} {Pc : Array Value → State → Prop} {Qc : Array Value → State → Outcome → State → Prop} {XC : String → State → State → Prop} {mc ms : Nat} {free : Addr → Prop} {cc : ByteArray} {maxL : Nat} {ret : Option FieldType} {hh : List (Nat × Nat × Nat × Nat)}
    (hy : plainName y.cls = true) (hw : ws = Cond.codeWith y cc maxL ret hh :: ws')
    (body : ∀ p e s m args below meth c s₁, BodyLoose p l y (headSpec ws rm) cc maxL ret e s m args below meth c s₁ → c.maxLocals = maxL → Pc args s →
      W p l e (headSpec ws rm).room s m args below meth c s.heap [] 0 0 (vx_MQ below Qc XC args s mc ms free) (entryFrame m args maxL)) : vx_Met l y ws rm Pc Qc XC mc ms free := by
  refine MetFree.of_bodyS (code := cc) (maxLocals := maxL) (ret := ret) hy ?_ ?_
  · intro args s m h hn
    obtain ⟨m9, meth, c, hn9, h1, h2, h3, h4, -, h5, h6, -⟩ := Cond.codeWith_spec (atoms_spec (ws := ws) h _ (by rw [hw]; exact List.mem_cons_self))
    cases hn.symm.trans hn9
    exact ⟨meth, c, h1, h2, h3, h4, h5, h6⟩
  · intro p e s m args below meth c s₁ B hml hP _
    have hh0 : s₁.heap = s.heap := by rw [B.state]; rfl
    obtain ⟨t, a1, o, b1, b2, b3⟩ := body p e s m args below meth c s₁ B hml hP s₁ hh0 (Stand.of_body B)
    exact ⟨t, o, a1, b1, b2, b3⟩
/-! ===== END ===== -/
end
section
/-! ===== BEGIN printed: names, fields, word lists, decode rows ===== -/
def RX0 : String := "DesertChannels$Channel"
def TX0 : u_T := fun k => match k with
  | 0 => ("DesertChannels$Channel", "x", "[I", true)
  | 1 => ("DesertChannels$Channel", "y", "[I", true)
  | 2 => ("DesertChannels$Channel", "floor", "[I", true)
  | 3 => ("DesertChannels$Channel", "collapsed", "[Z", true)
  | 4 => ("DesertChannels$Channel", "wells", "I", false)
  | 5 => ("DesertChannels$Channel", "turn", "I", false)
  | 6 => ("DesertChannels$Channel", "dugYear", "I", false)
  | _ => ("DesertChannels$Channel", "dugOrder", "I", false)
def tyX0 : Nat → FieldType := fun k => match k with
  | 0 => .array .int
  | 1 => .array .int
  | 2 => .array .int
  | 3 => .array .boolean
  | 4 => .int
  | 5 => .int
  | 6 => .int
  | _ => .int
abbrev wsX00 : List Cond := u_ws RX0 TX0 8
theorem nmX0 : ∀ a, a < 8 → ∀ b, b < 8 → a ≠ b → (TX0 a).2.1 ≠ (TX0 b).2.1 := by decide +kernel
theorem tyX0_ok : ∀ k, k < 8 → parseFieldDescriptor (TX0 k).2.2.1 = some (tyX0 k) := by decide +kernel
abbrev cX0_init : ByteArray := prog_2_method_1_code
def yX0_init : MethodName := ⟨RX0, "<init>", "()V"⟩
abbrev cX0_isDug : ByteArray := prog_2_method_2_code
def yX0_isDug : MethodName := ⟨RX0, "isDug", "()Z"⟩
abbrev cX0_lastFloor : ByteArray := prog_2_method_3_code
def yX0_lastFloor : MethodName := ⟨RX0, "lastFloor", "()I"⟩
abbrev cX0_addWell : ByteArray := prog_2_method_4_code
def yX0_addWell : MethodName := ⟨RX0, "addWell", "(III)V"⟩
abbrev cX0_runningWells : ByteArray := prog_2_method_5_code
def yX0_runningWells : MethodName := ⟨RX0, "runningWells", "()I"⟩
abbrev cX0_leaksBelow : ByteArray := prog_2_method_6_code
def yX0_leaksBelow : MethodName := ⟨RX0, "leaksBelow", "(I)Z"⟩
def RX1 : String := "DesertChannels$Fields"
def TX1 : u_T := fun k => match k with
  | 0 => ("DesertChannels$Fields", "minutes", "[I", true)
  | 1 => ("DesertChannels$Fields", "due", "[I", true)
  | 2 => ("DesertChannels$Fields", "loss", "[I", true)
  | 3 => ("DesertChannels$Fields", "best", "[I", true)
  | _ => ("DesertChannels$Fields", "many", "I", false)
def tyX1 : Nat → FieldType := fun k => match k with
  | 0 => .array .int
  | 1 => .array .int
  | 2 => .array .int
  | 3 => .array .int
  | _ => .int
abbrev wsX10 : List Cond := u_ws RX1 TX1 5
theorem nmX1 : ∀ a, a < 5 → ∀ b, b < 5 → a ≠ b → (TX1 a).2.1 ≠ (TX1 b).2.1 := by decide +kernel
theorem tyX1_ok : ∀ k, k < 5 → parseFieldDescriptor (TX1 k).2.2.1 = some (tyX1 k) := by decide +kernel
abbrev cX1_init : ByteArray := prog_3_method_1_code
def yX1_init : MethodName := ⟨RX1, "<init>", "()V"⟩
abbrev cX1_addField : ByteArray := prog_3_method_2_code
def yX1_addField : MethodName := ⟨RX1, "addField", "(III)V"⟩
abbrev cX1_leastLoss : ByteArray := prog_3_method_3_code
def yX1_leastLoss : MethodName := ⟨RX1, "leastLoss", "()I"⟩
abbrev cX1_minutesOf : ByteArray := prog_3_method_4_code
def yX1_minutesOf : MethodName := ⟨RX1, "minutesOf", "(I)I"⟩
def RX2 : String := "DesertChannels$Heirs"
def TX2 : u_T := fun k => match k with
  | 0 => ("DesertChannels$Heirs", "owner", "[I", true)
  | 1 => ("DesertChannels$Heirs", "length", "[I", true)
  | _ => ("DesertChannels$Heirs", "part", "[I", true)
def tyX2 : Nat → FieldType := fun k => match k with
  | 0 => .array .int
  | 1 => .array .int
  | _ => .array .int
abbrev wsX20 : List Cond := u_ws RX2 TX2 3
theorem nmX2 : ∀ a, a < 3 → ∀ b, b < 3 → a ≠ b → (TX2 a).2.1 ≠ (TX2 b).2.1 := by decide +kernel
theorem tyX2_ok : ∀ k, k < 3 → parseFieldDescriptor (TX2 k).2.2.1 = some (tyX2 k) := by decide +kernel
abbrev cX2_init : ByteArray := prog_4_method_1_code
def yX2_init : MethodName := ⟨RX2, "<init>", "()V"⟩
abbrev cX2_name : ByteArray := prog_4_method_2_code
def yX2_name : MethodName := ⟨RX2, "name", "(III)V"⟩
abbrev cX2_firstStand : ByteArray := prog_4_method_3_code
def yX2_firstStand : MethodName := ⟨RX2, "firstStand", "(I)Z"⟩
abbrev cX2_partLength : ByteArray := prog_4_method_4_code
def yX2_partLength : MethodName := ⟨RX2, "partLength", "(II)I"⟩
def RX3 : String := "DesertChannels$LawReader"
def TX3 : u_T := fun k => match k with
  | 0 => ("DesertChannels$LawReader", "tape", "LDesertChannels$Tape;", true)
  | 1 => ("DesertChannels$LawReader", "draft", "[I", true)
  | 2 => ("DesertChannels$LawReader", "begin", "I", false)
  | _ => ("DesertChannels$LawReader", "behind", "I", false)
def tyX3 : Nat → FieldType := fun k => match k with
  | 0 => .object "DesertChannels$Tape"
  | 1 => .array .int
  | 2 => .int
  | _ => .int
abbrev wsX30 : List Cond := u_ws RX3 TX3 4
theorem nmX3 : ∀ a, a < 4 → ∀ b, b < 4 → a ≠ b → (TX3 a).2.1 ≠ (TX3 b).2.1 := by decide +kernel
theorem tyX3_ok : ∀ k, k < 4 → parseFieldDescriptor (TX3 k).2.2.1 = some (tyX3 k) := by decide +kernel
abbrev cX3_init : ByteArray := prog_5_method_1_code
def yX3_init : MethodName := ⟨RX3, "<init>", "()V"⟩
abbrev cX3_readTerms : ByteArray := prog_5_method_2_code
def yX3_readTerms : MethodName := ⟨RX3, "readTerms", "([I)I"⟩
abbrev cX3_isTerm : ByteArray := prog_5_method_3_code
def yX3_isTerm : MethodName := ⟨RX3, "isTerm", "()Z"⟩
abbrev cX3_isPayment : ByteArray := prog_5_method_4_code
def yX3_isPayment : MethodName := ⟨RX3, "isPayment", "()Z"⟩
abbrev cX3_isNumber : ByteArray := prog_5_method_5_code
def yX3_isNumber : MethodName := ⟨RX3, "isNumber", "(II)Z"⟩
abbrev cX3_isWord : ByteArray := prog_5_method_6_code
def yX3_isWord : MethodName := ⟨RX3, "isWord", "(Ljava/lang/String;)Z"⟩
abbrev cX3_takeThing : ByteArray := prog_5_method_7_code
def yX3_takeThing : MethodName := ⟨RX3, "takeThing", "()V"⟩
abbrev cX3_isLetter : ByteArray := prog_5_method_8_code
def yX3_isLetter : MethodName := ⟨RX3, "isLetter", "(I)Z"⟩
abbrev cX3_isDigit : ByteArray := prog_5_method_9_code
def yX3_isDigit : MethodName := ⟨RX3, "isDigit", "(I)Z"⟩
def RX4 : String := "DesertChannels$Share"
def TX4 : u_T := fun k => match k with
  | 0 => ("DesertChannels$Share", "channel", "I", false)
  | 1 => ("DesertChannels$Share", "from", "I", false)
  | 2 => ("DesertChannels$Share", "to", "I", false)
  | 3 => ("DesertChannels$Share", "owner", "I", false)
  | 4 => ("DesertChannels$Share", "tenant", "I", false)
  | 5 => ("DesertChannels$Share", "letFrom", "I", false)
  | _ => ("DesertChannels$Share", "letTo", "I", false)
def tyX4 : Nat → FieldType := fun k => match k with
  | 0 => .int
  | 1 => .int
  | 2 => .int
  | 3 => .int
  | 4 => .int
  | 5 => .int
  | _ => .int
abbrev wsX40 : List Cond := u_ws RX4 TX4 7
theorem nmX4 : ∀ a, a < 7 → ∀ b, b < 7 → a ≠ b → (TX4 a).2.1 ≠ (TX4 b).2.1 := by decide +kernel
theorem tyX4_ok : ∀ k, k < 7 → parseFieldDescriptor (TX4 k).2.2.1 = some (tyX4 k) := by decide +kernel
abbrev cX4_init : ByteArray := prog_6_method_1_code
def yX4_init : MethodName := ⟨RX4, "<init>", "()V"⟩
abbrev cX4_become : ByteArray := prog_6_method_2_code
def yX4_become : MethodName := ⟨RX4, "become", "(IIII)V"⟩
abbrev cX4_isLetFrom : ByteArray := prog_6_method_3_code
def yX4_isLetFrom : MethodName := ⟨RX4, "isLetFrom", "(I)Z"⟩
abbrev cX4_heldBy : ByteArray := prog_6_method_4_code
def yX4_heldBy : MethodName := ⟨RX4, "heldBy", "(I)I"⟩
def RX5 : String := "DesertChannels$Tape"
def TX5 : u_T := fun k => match k with
  | 0 => ("DesertChannels$Tape", "bytes", "[I", true)
  | _ => ("DesertChannels$Tape", "length", "I", false)
def tyX5 : Nat → FieldType := fun k => match k with
  | 0 => .array .int
  | _ => .int
abbrev wsX50 : List Cond := u_ws RX5 TX5 2
theorem nmX5 : ∀ a, a < 2 → ∀ b, b < 2 → a ≠ b → (TX5 a).2.1 ≠ (TX5 b).2.1 := by decide +kernel
theorem tyX5_ok : ∀ k, k < 2 → parseFieldDescriptor (TX5 k).2.2.1 = some (tyX5 k) := by decide +kernel
abbrev cX5_init : ByteArray := prog_7_method_1_code
def yX5_init : MethodName := ⟨RX5, "<init>", "()V"⟩
abbrev cX5_append : ByteArray := prog_7_method_2_code
def yX5_append : MethodName := ⟨RX5, "append", "(I)V"⟩
def RX6 : String := "DesertChannels"
def TX6 : u_T := fun k => match k with
  | 0 => ("DesertChannels", "reader", "LDesertChannels$LawReader;", true)
  | 1 => ("DesertChannels", "tape", "LDesertChannels$Tape;", true)
  | 2 => ("DesertChannels", "lawNow", "[I", true)
  | 3 => ("DesertChannels", "wrongByte", "I", false)
  | 4 => ("DesertChannels", "channels", "[LDesertChannels$Channel;", true)
  | 5 => ("DesertChannels", "channelCount", "I", false)
  | 6 => ("DesertChannels", "dugCount", "I", false)
  | 7 => ("DesertChannels", "head", "I", false)
  | 8 => ("DesertChannels", "slope", "I", false)
  | 9 => ("DesertChannels", "year", "I", false)
  | 10 => ("DesertChannels", "shares", "[LDesertChannels$Share;", true)
  | 11 => ("DesertChannels", "shareCount", "I", false)
  | 12 => ("DesertChannels", "now", "I", false)
  | 13 => ("DesertChannels", "heirRow", "LDesertChannels$Heirs;", true)
  | 14 => ("DesertChannels", "weights", "[I", true)
  | _ => ("DesertChannels", "fields", "LDesertChannels$Fields;", true)
def tyX6 : Nat → FieldType := fun k => match k with
  | 0 => .object "DesertChannels$LawReader"
  | 1 => .object "DesertChannels$Tape"
  | 2 => .array .int
  | 3 => .int
  | 4 => .array (.object "DesertChannels$Channel")
  | 5 => .int
  | 6 => .int
  | 7 => .int
  | 8 => .int
  | 9 => .int
  | 10 => .array (.object "DesertChannels$Share")
  | 11 => .int
  | 12 => .int
  | 13 => .object "DesertChannels$Heirs"
  | 14 => .array .int
  | _ => .object "DesertChannels$Fields"
abbrev wsX60 : List Cond := u_ws RX6 TX6 16
theorem nmX6 : ∀ a, a < 16 → ∀ b, b < 16 → a ≠ b → (TX6 a).2.1 ≠ (TX6 b).2.1 := by decide +kernel
theorem tyX6_ok : ∀ k, k < 16 → parseFieldDescriptor (TX6 k).2.2.1 = some (tyX6 k) := by decide +kernel
abbrev cX6_init : ByteArray := prog_1_method_1_code
def yX6_init : MethodName := ⟨RX6, "<init>", "()V"⟩
abbrev cX6_feed : ByteArray := prog_1_method_2_code
def yX6_feed : MethodName := ⟨RX6, "feed", "(IIIII)I"⟩
abbrev cX6_end : ByteArray := prog_1_method_3_code
def yX6_end : MethodName := ⟨RX6, "end", "(I)Z"⟩
abbrev cX6_ground : ByteArray := prog_1_method_4_code
def yX6_ground : MethodName := ⟨RX6, "ground", "(II)V"⟩
abbrev cX6_channel : ByteArray := prog_1_method_5_code
def yX6_channel : MethodName := ⟨RX6, "channel", "()I"⟩
abbrev cX6_well : ByteArray := prog_1_method_6_code
def yX6_well : MethodName := ⟨RX6, "well", "(IIII)I"⟩
abbrev cX6_may : ByteArray := prog_1_method_7_code
def yX6_may : MethodName := ⟨RX6, "may", "(I)Z"⟩
abbrev cX6_dig : ByteArray := prog_1_method_8_code
def yX6_dig : MethodName := ⟨RX6, "dig", "(III)I"⟩
abbrev cX6_years : ByteArray := prog_1_method_9_code
def yX6_years : MethodName := ⟨RX6, "years", "(I)I"⟩
abbrev cX6_collapse : ByteArray := prog_1_method_10_code
def yX6_collapse : MethodName := ⟨RX6, "collapse", "(IIZ)Z"⟩
abbrev cX6_flow : ByteArray := prog_1_method_11_code
def yX6_flow : MethodName := ⟨RX6, "flow", "(I)I"⟩
abbrev cX6_harm : ByteArray := prog_1_method_12_code
def yX6_harm : MethodName := ⟨RX6, "harm", "(I)I"⟩
abbrev cX6_seep : ByteArray := prog_1_method_13_code
def yX6_seep : MethodName := ⟨RX6, "seep", "(II)I"⟩
abbrev cX6_sell : ByteArray := prog_1_method_14_code
def yX6_sell : MethodName := ⟨RX6, "sell", "(IIII)V"⟩
abbrev cX6_heirs : ByteArray := prog_1_method_15_code
def yX6_heirs : MethodName := ⟨RX6, "heirs", "(IIIIIIIIII)I"⟩
abbrev cX6_let : ByteArray := prog_1_method_16_code
def yX6_let : MethodName := ⟨RX6, "let", "(IIII)V"⟩
abbrev cX6_minutes : ByteArray := prog_1_method_17_code
def yX6_minutes : MethodName := ⟨RX6, "minutes", "(I)I"⟩
abbrev cX6_holder : ByteArray := prog_1_method_18_code
def yX6_holder : MethodName := ⟨RX6, "holder", "(II)I"⟩
abbrev cX6_share : ByteArray := prog_1_method_19_code
def yX6_share : MethodName := ⟨RX6, "share", "(II)I"⟩
abbrev cX6_law : ByteArray := prog_1_method_20_code
def yX6_law : MethodName := ⟨RX6, "law", "()I"⟩
abbrev cX6_fault : ByteArray := prog_1_method_21_code
def yX6_fault : MethodName := ⟨RX6, "fault", "()I"⟩
abbrev cX6_says : ByteArray := prog_1_method_22_code
def yX6_says : MethodName := ⟨RX6, "says", "(I)I"⟩
abbrev cX6_pays : ByteArray := prog_1_method_23_code
def yX6_pays : MethodName := ⟨RX6, "pays", "(III)I"⟩
abbrev cX6_field : ByteArray := prog_1_method_24_code
def yX6_field : MethodName := ⟨RX6, "field", "(III)I"⟩
abbrev cX6_least : ByteArray := prog_1_method_25_code
def yX6_least : MethodName := ⟨RX6, "least", "()I"⟩
abbrev cX6_count : ByteArray := prog_1_method_26_code
def yX6_count : MethodName := ⟨RX6, "count", "(I)I"⟩
abbrev cX6_isWithin : ByteArray := prog_1_method_27_code
def yX6_isWithin : MethodName := ⟨RX6, "isWithin", "(III)Z"⟩
abbrev cX6_isOwner : ByteArray := prog_1_method_28_code
def yX6_isOwner : MethodName := ⟨RX6, "isOwner", "(I)Z"⟩
abbrev cX6_kingSteps : ByteArray := prog_1_method_29_code
def yX6_kingSteps : MethodName := ⟨RX6, "kingSteps", "(IIII)I"⟩
abbrev cX6_partOf : ByteArray := prog_1_method_30_code
def yX6_partOf : MethodName := ⟨RX6, "partOf", "(III)I"⟩
abbrev cX6_channelAt : ByteArray := prog_1_method_31_code
def yX6_channelAt : MethodName := ⟨RX6, "channelAt", "(I)LDesertChannels$Channel;"⟩
abbrev cX6_undugAt : ByteArray := prog_1_method_32_code
def yX6_undugAt : MethodName := ⟨RX6, "undugAt", "(I)LDesertChannels$Channel;"⟩
abbrev cX6_dugAt : ByteArray := prog_1_method_33_code
def yX6_dugAt : MethodName := ⟨RX6, "dugAt", "(I)LDesertChannels$Channel;"⟩
abbrev cX6_dugWithWell : ByteArray := prog_1_method_34_code
def yX6_dugWithWell : MethodName := ⟨RX6, "dugWithWell", "(II)LDesertChannels$Channel;"⟩
abbrev cX6_shareAt : ByteArray := prog_1_method_35_code
def yX6_shareAt : MethodName := ⟨RX6, "shareAt", "(I)LDesertChannels$Share;"⟩
abbrev cX6_unletAt : ByteArray := prog_1_method_36_code
def yX6_unletAt : MethodName := ⟨RX6, "unletAt", "(I)LDesertChannels$Share;"⟩
abbrev cX6_isAllowed : ByteArray := prog_1_method_37_code
def yX6_isAllowed : MethodName := ⟨RX6, "isAllowed", "(LDesertChannels$Channel;)Z"⟩
abbrev cX6_isClearOf : ByteArray := prog_1_method_38_code
def yX6_isClearOf : MethodName := ⟨RX6, "isClearOf", "(LDesertChannels$Channel;LDesertChannels$Channel;)Z"⟩
abbrev cX6_drawAt : ByteArray := prog_1_method_39_code
def yX6_drawAt : MethodName := ⟨RX6, "drawAt", "(LDesertChannels$Channel;II)I"⟩
abbrev cX6_seepAt : ByteArray := prog_1_method_40_code
def yX6_seepAt : MethodName := ⟨RX6, "seepAt", "(LDesertChannels$Channel;II)I"⟩
abbrev cX6_flowOf : ByteArray := prog_1_method_41_code
def yX6_flowOf : MethodName := ⟨RX6, "flowOf", "(LDesertChannels$Channel;I)I"⟩
abbrev cX6_flowOfAll : ByteArray := prog_1_method_42_code
def yX6_flowOfAll : MethodName := ⟨RX6, "flowOfAll", "()I"⟩
abbrev cX6_addShare : ByteArray := prog_1_method_43_code
def yX6_addShare : MethodName := ⟨RX6, "addShare", "(IIII)V"⟩
abbrev cX6_leaveTo : ByteArray := prog_1_method_44_code
def yX6_leaveTo : MethodName := ⟨RX6, "leaveTo", "(LDesertChannels$Share;I)V"⟩
abbrev cX6_letShares : ByteArray := prog_1_method_45_code
def yX6_letShares : MethodName := ⟨RX6, "letShares", "()I"⟩
abbrev cX6_weighOwners : ByteArray := prog_1_method_46_code
def yX6_weighOwners : MethodName := ⟨RX6, "weighOwners", "(I)V"⟩
abbrev cX6_paidBy : ByteArray := prog_1_method_47_code
def yX6_paidBy : MethodName := ⟨RX6, "paidBy", "(II)I"⟩
def RX7 : String := "DesertChannelsModel"
def TX7 : u_T := fun k => match k with
  | 0 => ("DesertChannelsModel", "thrown", "I", false)
  | 1 => ("DesertChannelsModel", "head", "I", false)
  | 2 => ("DesertChannelsModel", "slope", "I", false)
  | 3 => ("DesertChannelsModel", "year", "I", false)
  | 4 => ("DesertChannelsModel", "now", "I", false)
  | 5 => ("DesertChannelsModel", "wells", "[I", true)
  | 6 => ("DesertChannelsModel", "isDug", "[Z", true)
  | 7 => ("DesertChannelsModel", "dugIn", "[I", true)
  | 8 => ("DesertChannelsModel", "order", "[I", true)
  | 9 => ("DesertChannelsModel", "turn", "[I", true)
  | 10 => ("DesertChannelsModel", "channels", "I", false)
  | 11 => ("DesertChannelsModel", "dug", "I", false)
  | 12 => ("DesertChannelsModel", "wx", "[I", true)
  | 13 => ("DesertChannelsModel", "wy", "[I", true)
  | 14 => ("DesertChannelsModel", "floor", "[I", true)
  | 15 => ("DesertChannelsModel", "isDown", "[Z", true)
  | 16 => ("DesertChannelsModel", "share", "[I", true)
  | 17 => ("DesertChannelsModel", "shares", "I", false)
  | 18 => ("DesertChannelsModel", "who", "[I", true)
  | 19 => ("DesertChannelsModel", "part", "[I", true)
  | 20 => ("DesertChannelsModel", "length", "[I", true)
  | 21 => ("DesertChannelsModel", "says", "[I", true)
  | 22 => ("DesertChannelsModel", "draft", "[I", true)
  | 23 => ("DesertChannelsModel", "tape", "[B", true)
  | 24 => ("DesertChannelsModel", "taped", "I", false)
  | 25 => ("DesertChannelsModel", "point", "I", false)
  | 26 => ("DesertChannelsModel", "end", "I", false)
  | 27 => ("DesertChannelsModel", "begin", "I", false)
  | 28 => ("DesertChannelsModel", "faultAt", "I", false)
  | 29 => ("DesertChannelsModel", "five", "[I", true)
  | 30 => ("DesertChannelsModel", "minutesOf", "[I", true)
  | 31 => ("DesertChannelsModel", "need", "[I", true)
  | 32 => ("DesertChannelsModel", "due", "[I", true)
  | 33 => ("DesertChannelsModel", "loss", "[I", true)
  | 34 => ("DesertChannelsModel", "fields", "I", false)
  | _ => ("DesertChannelsModel", "lost", "[I", true)
def tyX7 : Nat → FieldType := fun k => match k with
  | 0 => .int
  | 1 => .int
  | 2 => .int
  | 3 => .int
  | 4 => .int
  | 5 => .array .int
  | 6 => .array .boolean
  | 7 => .array .int
  | 8 => .array .int
  | 9 => .array .int
  | 10 => .int
  | 11 => .int
  | 12 => .array .int
  | 13 => .array .int
  | 14 => .array .int
  | 15 => .array .boolean
  | 16 => .array .int
  | 17 => .int
  | 18 => .array .int
  | 19 => .array .int
  | 20 => .array .int
  | 21 => .array .int
  | 22 => .array .int
  | 23 => .array .byte
  | 24 => .int
  | 25 => .int
  | 26 => .int
  | 27 => .int
  | 28 => .int
  | 29 => .array .int
  | 30 => .array .int
  | 31 => .array .int
  | 32 => .array .int
  | 33 => .array .int
  | 34 => .int
  | _ => .array .int
abbrev wsX70 : List Cond := u_ws RX7 TX7 36
theorem nmX7 : ∀ a, a < 36 → ∀ b, b < 36 → a ≠ b → (TX7 a).2.1 ≠ (TX7 b).2.1 := by decide +kernel
theorem tyX7_ok : ∀ k, k < 36 → parseFieldDescriptor (TX7 k).2.2.1 = some (tyX7 k) := by decide +kernel
abbrev cX7_init : ByteArray := prog_9_method_1_code
def yX7_init : MethodName := ⟨RX7, "<init>", "()V"⟩
abbrev cX7_thrown : ByteArray := prog_9_method_2_code
def yX7_thrown : MethodName := ⟨RX7, "thrown", "()I"⟩
abbrev cX7_throwsIf : ByteArray := prog_9_method_3_code
def yX7_throwsIf : MethodName := ⟨RX7, "throwsIf", "(ZI)Z"⟩
abbrev cX7_in : ByteArray := prog_9_method_4_code
def yX7_in : MethodName := ⟨RX7, "in", "(III)Z"⟩
abbrev cX7_noChannel : ByteArray := prog_9_method_5_code
def yX7_noChannel : MethodName := ⟨RX7, "noChannel", "(I)Z"⟩
abbrev cX7_noWell : ByteArray := prog_9_method_6_code
def yX7_noWell : MethodName := ⟨RX7, "noWell", "(II)Z"⟩
abbrev cX7_noShare : ByteArray := prog_9_method_7_code
def yX7_noShare : MethodName := ⟨RX7, "noShare", "(I)Z"⟩
abbrev cX7_ground : ByteArray := prog_9_method_8_code
def yX7_ground : MethodName := ⟨RX7, "ground", "(II)V"⟩
abbrev cX7_channel : ByteArray := prog_9_method_9_code
def yX7_channel : MethodName := ⟨RX7, "channel", "()I"⟩
abbrev cX7_well : ByteArray := prog_9_method_10_code
def yX7_well : MethodName := ⟨RX7, "well", "(IIII)I"⟩
abbrev cX7_steps : ByteArray := prog_9_method_11_code
def yX7_steps : MethodName := ⟨RX7, "steps", "(IIII)I"⟩
abbrev cX7_mayBe : ByteArray := prog_9_method_12_code
def yX7_mayBe : MethodName := ⟨RX7, "mayBe", "(I)Z"⟩
abbrev cX7_may : ByteArray := prog_9_method_13_code
def yX7_may : MethodName := ⟨RX7, "may", "(I)Z"⟩
abbrev cX7_dig : ByteArray := prog_9_method_14_code
def yX7_dig : MethodName := ⟨RX7, "dig", "(III)I"⟩
abbrev cX7_years : ByteArray := prog_9_method_15_code
def yX7_years : MethodName := ⟨RX7, "years", "(I)I"⟩
abbrev cX7_collapse : ByteArray := prog_9_method_16_code
def yX7_collapse : MethodName := ⟨RX7, "collapse", "(IIZ)Z"⟩
abbrev cX7_runs : ByteArray := prog_9_method_17_code
def yX7_runs : MethodName := ⟨RX7, "runs", "(I)I"⟩
abbrev cX7_draw : ByteArray := prog_9_method_18_code
def yX7_draw : MethodName := ⟨RX7, "draw", "(III)I"⟩
abbrev cX7_seeps : ByteArray := prog_9_method_19_code
def yX7_seeps : MethodName := ⟨RX7, "seeps", "(III)I"⟩
abbrev cX7_flows : ByteArray := prog_9_method_20_code
def yX7_flows : MethodName := ⟨RX7, "flows", "(II)I"⟩
abbrev cX7_flow : ByteArray := prog_9_method_21_code
def yX7_flow : MethodName := ⟨RX7, "flow", "(I)I"⟩
abbrev cX7_harm : ByteArray := prog_9_method_22_code
def yX7_harm : MethodName := ⟨RX7, "harm", "(I)I"⟩
abbrev cX7_seep : ByteArray := prog_9_method_23_code
def yX7_seep : MethodName := ⟨RX7, "seep", "(II)I"⟩
abbrev cX7_sets : ByteArray := prog_9_method_24_code
def yX7_sets : MethodName := ⟨RX7, "sets", "(IIII)V"⟩
abbrev cX7_adds : ByteArray := prog_9_method_25_code
def yX7_adds : MethodName := ⟨RX7, "adds", "(IIII)V"⟩
abbrev cX7_isLet : ByteArray := prog_9_method_26_code
def yX7_isLet : MethodName := ⟨RX7, "isLet", "(I)Z"⟩
abbrev cX7_noOwner : ByteArray := prog_9_method_27_code
def yX7_noOwner : MethodName := ⟨RX7, "noOwner", "(I)Z"⟩
abbrev cX7_sell : ByteArray := prog_9_method_28_code
def yX7_sell : MethodName := ⟨RX7, "sell", "(IIII)V"⟩
abbrev cX7_heirs : ByteArray := prog_9_method_29_code
def yX7_heirs : MethodName := ⟨RX7, "heirs", "(IIIIIIIIII)I"⟩
abbrev cX7_let : ByteArray := prog_9_method_30_code
def yX7_let : MethodName := ⟨RX7, "let", "(IIII)V"⟩
abbrev cX7_minutes : ByteArray := prog_9_method_31_code
def yX7_minutes : MethodName := ⟨RX7, "minutes", "(I)I"⟩
abbrev cX7_holder : ByteArray := prog_9_method_32_code
def yX7_holder : MethodName := ⟨RX7, "holder", "(II)I"⟩
abbrev cX7_share : ByteArray := prog_9_method_33_code
def yX7_share : MethodName := ⟨RX7, "share", "(II)I"⟩
abbrev cX7_feed : ByteArray := prog_9_method_34_code
def yX7_feed : MethodName := ⟨RX7, "feed", "(IIIII)I"⟩
abbrev cX7_end : ByteArray := prog_9_method_35_code
def yX7_end : MethodName := ⟨RX7, "end", "(I)Z"⟩
abbrev cX7_isAt : ByteArray := prog_9_method_36_code
def yX7_isAt : MethodName := ⟨RX7, "isAt", "(II)Z"⟩
abbrev cX7_blanks : ByteArray := prog_9_method_37_code
def yX7_blanks : MethodName := ⟨RX7, "blanks", "()V"⟩
abbrev cX7_isWord : ByteArray := prog_9_method_38_code
def yX7_isWord : MethodName := ⟨RX7, "isWord", "(Ljava/lang/String;)Z"⟩
abbrev cX7_word : ByteArray := prog_9_method_39_code
def yX7_word : MethodName := ⟨RX7, "word", "()V"⟩
abbrev cX7_number : ByteArray := prog_9_method_40_code
def yX7_number : MethodName := ⟨RX7, "number", "(II)Z"⟩
abbrev cX7_readTerm : ByteArray := prog_9_method_41_code
def yX7_readTerm : MethodName := ⟨RX7, "readTerm", "()Z"⟩
abbrev cX7_law : ByteArray := prog_9_method_42_code
def yX7_law : MethodName := ⟨RX7, "law", "()I"⟩
abbrev cX7_fault : ByteArray := prog_9_method_43_code
def yX7_fault : MethodName := ⟨RX7, "fault", "()I"⟩
abbrev cX7_says : ByteArray := prog_9_method_44_code
def yX7_says : MethodName := ⟨RX7, "says", "(I)I"⟩
abbrev cX7_pays : ByteArray := prog_9_method_45_code
def yX7_pays : MethodName := ⟨RX7, "pays", "(III)I"⟩
abbrev cX7_portion : ByteArray := prog_9_method_46_code
def yX7_portion : MethodName := ⟨RX7, "portion", "(JIII)J"⟩
abbrev cX7_field : ByteArray := prog_9_method_47_code
def yX7_field : MethodName := ⟨RX7, "field", "(III)I"⟩
abbrev cX7_least : ByteArray := prog_9_method_48_code
def yX7_least : MethodName := ⟨RX7, "least", "()I"⟩
abbrev cX7_count : ByteArray := prog_9_method_49_code
def yX7_count : MethodName := ⟨RX7, "count", "(I)I"⟩
def RJ9 : String := "java/lang/Math"
def TJ9 : u_T := fun k => match k with
  | _ => ("", "", "", false)
def tyJ9 : Nat → FieldType := fun k => match k with
  | _ => .int
abbrev wsJ90 : List Cond := u_ws RJ9 TJ9 0
theorem nmJ9 : ∀ a, a < 0 → ∀ b, b < 0 → a ≠ b → (TJ9 a).2.1 ≠ (TJ9 b).2.1 := by decide +kernel
theorem tyJ9_ok : ∀ k, k < 0 → parseFieldDescriptor (TJ9 k).2.2.1 = some (tyJ9 k) := by decide +kernel
abbrev cJ9_abs_0f7a4 : ByteArray := prog_14_method_59_code
def yJ9_abs_0f7a4 : MethodName := ⟨RJ9, "abs", "(I)I"⟩
abbrev cJ9_max_7cf53 : ByteArray := prog_14_method_65_code
def yJ9_max_7cf53 : MethodName := ⟨RJ9, "max", "(II)I"⟩
abbrev cJ9_min_7cf53 : ByteArray := prog_14_method_69_code
def yJ9_min_7cf53 : MethodName := ⟨RJ9, "min", "(II)I"⟩
def RJ0 : String := "java/lang/String"
def TJ0 : u_T := fun k => match k with
  | _ => ("", "", "", false)
def tyJ0 : Nat → FieldType := fun k => match k with
  | _ => .int
abbrev wsJ00 : List Cond := u_ws RJ0 TJ0 0
theorem nmJ0 : ∀ a, a < 0 → ∀ b, b < 0 → a ≠ b → (TJ0 a).2.1 ≠ (TJ0 b).2.1 := by decide +kernel
theorem tyJ0_ok : ∀ k, k < 0 → parseFieldDescriptor (TJ0 k).2.2.1 = some (tyJ0 k) := by decide +kernel
abbrev cJ0_length_8abf5 : ByteArray := prog_16_method_54_code
def yJ0_length_8abf5 : MethodName := ⟨RJ0, "length", "()I"⟩
abbrev cJ0_charAt_5068e : ByteArray := prog_16_method_56_code
def yJ0_charAt_5068e : MethodName := ⟨RJ0, "charAt", "(I)C"⟩
abbrev cJ0_coder_7d493 : ByteArray := prog_16_method_152_code
def yJ0_coder_7d493 : MethodName := ⟨RJ0, "coder", "()B"⟩
abbrev cJ0_isLatin1_aae02 : ByteArray := prog_16_method_154_code
def yJ0_isLatin1_aae02 : MethodName := ⟨RJ0, "isLatin1", "()Z"⟩
abbrev cJ0_checkIndex_df160 : ByteArray := prog_16_method_155_code
def yJ0_checkIndex_df160 : MethodName := ⟨RJ0, "checkIndex", "(II)V"⟩
def RJ1 : String := "java/lang/StringLatin1"
def TJ1 : u_T := fun k => match k with
  | _ => ("", "", "", false)
def tyJ1 : Nat → FieldType := fun k => match k with
  | _ => .int
abbrev wsJ10 : List Cond := u_ws RJ1 TJ1 0
theorem nmJ1 : ∀ a, a < 0 → ∀ b, b < 0 → a ≠ b → (TJ1 a).2.1 ≠ (TJ1 b).2.1 := by decide +kernel
theorem tyJ1_ok : ∀ k, k < 0 → parseFieldDescriptor (TJ1 k).2.2.1 = some (tyJ1 k) := by decide +kernel
abbrev cJ1_charAt_3b067 : ByteArray := prog_17_method_2_code
def yJ1_charAt_3b067 : MethodName := ⟨RJ1, "charAt", "([BI)C"⟩
def RJ2 : String := "java/lang/StringUTF16"
def TJ2 : u_T := fun k => match k with
  | _ => ("", "", "", false)
def tyJ2 : Nat → FieldType := fun k => match k with
  | _ => .int
abbrev wsJ20 : List Cond := u_ws RJ2 TJ2 0
theorem nmJ2 : ∀ a, a < 0 → ∀ b, b < 0 → a ≠ b → (TJ2 a).2.1 ≠ (TJ2 b).2.1 := by decide +kernel
theorem tyJ2_ok : ∀ k, k < 0 → parseFieldDescriptor (TJ2 k).2.2.1 = some (tyJ2 k) := by decide +kernel
abbrev cJ2_getChar_3b067 : ByteArray := prog_18_method_5_code
def yJ2_getChar_3b067 : MethodName := ⟨RJ2, "getChar", "([BI)C"⟩
abbrev cJ2_length_9d52b : ByteArray := prog_18_method_6_code
def yJ2_length_9d52b : MethodName := ⟨RJ2, "length", "([B)I"⟩
abbrev cJ2_charAt_3b067 : ByteArray := prog_18_method_83_code
def yJ2_charAt_3b067 : MethodName := ⟨RJ2, "charAt", "([BI)C"⟩
abbrev cJ2_checkIndex_2214a : ByteArray := prog_18_method_91_code
def yJ2_checkIndex_2214a : MethodName := ⟨RJ2, "checkIndex", "(I[B)V"⟩
def RJ10 : String := "java/lang/System"
def TJ10 : u_T := fun k => match k with
  | _ => ("", "", "", false)
def tyJ10 : Nat → FieldType := fun k => match k with
  | _ => .int
abbrev wsJ100 : List Cond := u_ws RJ10 TJ10 0
theorem nmJ10 : ∀ a, a < 0 → ∀ b, b < 0 → a ≠ b → (TJ10 a).2.1 ≠ (TJ10 b).2.1 := by decide +kernel
theorem tyJ10_ok : ∀ k, k < 0 → parseFieldDescriptor (TJ10 k).2.2.1 = some (tyJ10 k) := by decide +kernel
def RJ3 : String := "jdk/internal/util/Preconditions"
def TJ3 : u_T := fun k => match k with
  | _ => ("", "", "", false)
def tyJ3 : Nat → FieldType := fun k => match k with
  | _ => .int
abbrev wsJ30 : List Cond := u_ws RJ3 TJ3 0
theorem nmJ3 : ∀ a, a < 0 → ∀ b, b < 0 → a ≠ b → (TJ3 a).2.1 ≠ (TJ3 b).2.1 := by decide +kernel
theorem tyJ3_ok : ∀ k, k < 0 → parseFieldDescriptor (TJ3 k).2.2.1 = some (tyJ3 k) := by decide +kernel
abbrev cJ3_checkIndex_8e157 : ByteArray := prog_23_method_11_code
def yJ3_checkIndex_8e157 : MethodName := ⟨RJ3, "checkIndex", "(IILjava/util/function/BiFunction;)I"⟩
def RL : String := "DesertChannelsLaw"
abbrev cL_ground : ByteArray := method_3_code
def yL_ground : MethodName := ⟨RL, "ground", "(LDesertChannels;II)I"⟩
abbrev cL_channel : ByteArray := method_4_code
def yL_channel : MethodName := ⟨RL, "channel", "(LDesertChannels;[J)I"⟩
abbrev cL_well : ByteArray := method_5_code
def yL_well : MethodName := ⟨RL, "well", "(LDesertChannels;IIII[J)I"⟩
abbrev cL_may : ByteArray := method_6_code
def yL_may : MethodName := ⟨RL, "may", "(LDesertChannels;I[J)I"⟩
abbrev cL_dig : ByteArray := method_7_code
def yL_dig : MethodName := ⟨RL, "dig", "(LDesertChannels;III[J)I"⟩
abbrev cL_years : ByteArray := method_8_code
def yL_years : MethodName := ⟨RL, "years", "(LDesertChannels;I[J)I"⟩
abbrev cL_collapse : ByteArray := method_9_code
def yL_collapse : MethodName := ⟨RL, "collapse", "(LDesertChannels;IIZ[J)I"⟩
abbrev cL_flow : ByteArray := method_10_code
def yL_flow : MethodName := ⟨RL, "flow", "(LDesertChannels;I[J)I"⟩
abbrev cL_harm : ByteArray := method_11_code
def yL_harm : MethodName := ⟨RL, "harm", "(LDesertChannels;I[J)I"⟩
abbrev cL_seep : ByteArray := method_12_code
def yL_seep : MethodName := ⟨RL, "seep", "(LDesertChannels;II[J)I"⟩
abbrev cL_sell : ByteArray := method_13_code
def yL_sell : MethodName := ⟨RL, "sell", "(LDesertChannels;IIII)I"⟩
abbrev cL_heirs : ByteArray := method_14_code
def yL_heirs : MethodName := ⟨RL, "heirs", "(LDesertChannels;IIIIIIIIII[J)I"⟩
abbrev cL_let : ByteArray := method_15_code
def yL_let : MethodName := ⟨RL, "let", "(LDesertChannels;IIII)I"⟩
abbrev cL_minutes : ByteArray := method_16_code
def yL_minutes : MethodName := ⟨RL, "minutes", "(LDesertChannels;I[J)I"⟩
abbrev cL_holder : ByteArray := method_17_code
def yL_holder : MethodName := ⟨RL, "holder", "(LDesertChannels;II[J)I"⟩
abbrev cL_share : ByteArray := method_18_code
def yL_share : MethodName := ⟨RL, "share", "(LDesertChannels;II[J)I"⟩
abbrev cL_law : ByteArray := method_19_code
def yL_law : MethodName := ⟨RL, "law", "(LDesertChannels;[J)I"⟩
abbrev cL_says : ByteArray := method_20_code
def yL_says : MethodName := ⟨RL, "says", "(LDesertChannels;I[J)I"⟩
abbrev cL_pays : ByteArray := method_21_code
def yL_pays : MethodName := ⟨RL, "pays", "(LDesertChannels;III[J)I"⟩
abbrev cL_field : ByteArray := method_22_code
def yL_field : MethodName := ⟨RL, "field", "(LDesertChannels;III[J)I"⟩
abbrev cL_law_ : ByteArray := code
def yL_law_ : MethodName := ⟨RL, "law", "([I)Z"⟩
def wsX0_init : List Cond := .code yX0_init cX0_init 1 none :: ([.methodLink RX0 3 objectInit, .instanceMethod objectInit, .code objectInit ⟨#[0xb1]⟩ 1 none, .arrayClass .int, .fieldLink RX0 9 "DesertChannels$Channel" "x" "[I", .fieldLink RX0 15 "DesertChannels$Channel" "y" "[I", .fieldLink RX0 18 "DesertChannels$Channel" "floor" "[I", .arrayClass .boolean, .fieldLink RX0 21 "DesertChannels$Channel" "collapsed" "[Z"] ++ wsX00)
def wsX0_isDug : List Cond := .code yX0_isDug cX0_isDug 1 (some .boolean) :: ([.fieldLink RX0 25 "DesertChannels$Channel" "turn" "I"] ++ wsX00)
def wsX0_lastFloor : List Cond := .code yX0_lastFloor cX0_lastFloor 1 (some .int) :: ([.fieldLink RX0 29 "DesertChannels$Channel" "wells" "I", .fieldLink RX0 18 "DesertChannels$Channel" "floor" "[I"] ++ wsX00)
def wsX0_addWell : List Cond := .code yX0_addWell cX0_addWell 4 none :: ([.fieldLink RX0 29 "DesertChannels$Channel" "wells" "I", .fieldLink RX0 9 "DesertChannels$Channel" "x" "[I", .fieldLink RX0 15 "DesertChannels$Channel" "y" "[I", .fieldLink RX0 18 "DesertChannels$Channel" "floor" "[I"] ++ wsX00)
def wsX0_runningWells : List Cond := .code yX0_runningWells cX0_runningWells 2 (some .int) :: ([.fieldLink RX0 29 "DesertChannels$Channel" "wells" "I", .fieldLink RX0 21 "DesertChannels$Channel" "collapsed" "[Z"] ++ wsX00)
def wsX0_leaksBelow : List Cond := .code yX0_leaksBelow cX0_leaksBelow 3 (some .boolean) :: ([.fieldLink RX0 29 "DesertChannels$Channel" "wells" "I", .fieldLink RX0 18 "DesertChannels$Channel" "floor" "[I"] ++ wsX00)
def wsX1_init : List Cond := .code yX1_init cX1_init 1 none :: ([.methodLink RX1 3 objectInit, .instanceMethod objectInit, .code objectInit ⟨#[0xb1]⟩ 1 none, .arrayClass .int, .fieldLink RX1 9 "DesertChannels$Fields" "minutes" "[I", .fieldLink RX1 15 "DesertChannels$Fields" "due" "[I", .fieldLink RX1 18 "DesertChannels$Fields" "loss" "[I", .fieldLink RX1 21 "DesertChannels$Fields" "best" "[I"] ++ wsX10)
def wsX1_addField : List Cond := .code yX1_addField cX1_addField 4 none :: ([.fieldLink RX1 24 "DesertChannels$Fields" "many" "I", .fieldLink RX1 9 "DesertChannels$Fields" "minutes" "[I", .fieldLink RX1 15 "DesertChannels$Fields" "due" "[I", .fieldLink RX1 18 "DesertChannels$Fields" "loss" "[I"] ++ wsX10)
def wsX1_minutesOf : List Cond := .code yX1_minutesOf cX1_minutesOf 4 (some .int) :: ([.fieldLink RX1 24 "DesertChannels$Fields" "many" "I", .fieldLink RX1 9 "DesertChannels$Fields" "minutes" "[I"] ++ wsX10)
def wsX1_leastLoss : List Cond := .code yX1_leastLoss cX1_leastLoss 6 (some .int) :: ([.fieldLink RX1 24 "DesertChannels$Fields" "many" "I", .fieldLink RX1 21 "DesertChannels$Fields" "best" "[I", .constant RX1 32 (1000000000), .fieldLink RX1 18 "DesertChannels$Fields" "loss" "[I", .fieldLink RX1 15 "DesertChannels$Fields" "due" "[I", .methodLink RX1 33 Lib.Math.max.name, .static Lib.Math.max.name, .initialized "java/lang/Math", .code Lib.Math.max.name Lib.Math.max.code 2 (some .int), .methodLink RX1 39 Lib.Math.min.name, .static Lib.Math.min.name, .code Lib.Math.min.name Lib.Math.min.code 2 (some .int), .methodLink RX1 28 yX1_minutesOf, .instanceMethod yX1_minutesOf, .selects RX1 yX1_minutesOf yX1_minutesOf, .initialized RX1, .code yX1_minutesOf cX1_minutesOf 4 (some .int), .fieldLink RX1 9 "DesertChannels$Fields" "minutes" "[I"] ++ wsX10)
def wsX2_init : List Cond := .code yX2_init cX2_init 1 none :: ([.methodLink RX2 3 objectInit, .instanceMethod objectInit, .code objectInit ⟨#[0xb1]⟩ 1 none, .arrayClass .int, .fieldLink RX2 9 "DesertChannels$Heirs" "owner" "[I", .fieldLink RX2 15 "DesertChannels$Heirs" "length" "[I", .fieldLink RX2 18 "DesertChannels$Heirs" "part" "[I"] ++ wsX20)
def wsX6_isWithin : List Cond := .code yX6_isWithin cX6_isWithin 3 (some .boolean) :: ([])
def wsX2_name : List Cond := .code yX2_name cX2_name 4 none :: ([.fieldLink RX2 9 "DesertChannels$Heirs" "owner" "[I", .fieldLink RX2 18 "DesertChannels$Heirs" "part" "[I", .static yX6_isWithin, .initialized RX6, .code yX6_isWithin cX6_isWithin 3 (some .boolean)] ++ wsX20)
def wsX6_isOwner : List Cond := .code yX6_isOwner cX6_isOwner 1 (some .boolean) :: ([.methodLink RX6 75 yX6_isWithin, .static yX6_isWithin, .initialized RX6, .code yX6_isWithin cX6_isWithin 3 (some .boolean)])
def wsX2_firstStand : List Cond := .code yX2_firstStand cX2_firstStand 3 (some .boolean) :: ([.fieldLink RX2 9 "DesertChannels$Heirs" "owner" "[I", .fieldLink RX2 18 "DesertChannels$Heirs" "part" "[I", .static yX6_isOwner, .initialized RX6, .code yX6_isOwner cX6_isOwner 1 (some .boolean), .methodLink RX6 75 yX6_isWithin, .static yX6_isWithin, .code yX6_isWithin cX6_isWithin 3 (some .boolean)] ++ wsX20)
def wsX6_partOf : List Cond := .code yX6_partOf cX6_partOf 3 (some .int) :: ([])
def wsX2_partLength : List Cond := .code yX2_partLength cX2_partLength 7 (some .int) :: ([.fieldLink RX2 18 "DesertChannels$Heirs" "part" "[I", .fieldLink RX2 15 "DesertChannels$Heirs" "length" "[I", .static yX6_partOf, .initialized RX6, .code yX6_partOf cX6_partOf 3 (some .int)] ++ wsX20)
def wsX5_init : List Cond := .code yX5_init cX5_init 1 none :: ([.methodLink RX5 3 objectInit, .instanceMethod objectInit, .code objectInit ⟨#[0xb1]⟩ 1 none, .arrayClass .int, .fieldLink RX5 9 "DesertChannels$Tape" "bytes" "[I"] ++ wsX50)
def wsX3_init : List Cond := .code yX3_init cX3_init 1 none :: ([.methodLink RX3 3 objectInit, .instanceMethod objectInit, .code objectInit ⟨#[0xb1]⟩ 1 none, .classLink RX3 9 RX5, .instantiable RX5 2, .initialized RX5, .fieldLink RX3 12 "DesertChannels$LawReader" "tape" "LDesertChannels$Tape;", .arrayClass .int, .fieldLink RX3 18 "DesertChannels$LawReader" "draft" "[I", .instanceMethod yX5_init, .code yX5_init cX5_init 1 none, .methodLink RX5 3 objectInit, .fieldLink RX5 9 "DesertChannels$Tape" "bytes" "[I"] ++ wsX50 ++ wsX30)
def wsX3_isLetter : List Cond := .code yX3_isLetter cX3_isLetter 1 (some .boolean) :: ([.static yX6_isWithin, .initialized RX6, .code yX6_isWithin cX6_isWithin 3 (some .boolean)])
def wsX3_isDigit : List Cond := .code yX3_isDigit cX3_isDigit 1 (some .boolean) :: ([.static yX6_isWithin, .initialized RX6, .code yX6_isWithin cX6_isWithin 3 (some .boolean)])
def wsX3_takeThing : List Cond := .code yX3_takeThing cX3_takeThing 1 none :: ([.fieldLink RX3 28 "DesertChannels$LawReader" "behind" "I", .fieldLink RX3 39 "DesertChannels$LawReader" "begin" "I", .fieldLink RX3 12 "DesertChannels$LawReader" "tape" "LDesertChannels$Tape;", .fieldLink RX3 42 "DesertChannels$Tape" "length" "I", .fieldLink RX3 45 "DesertChannels$Tape" "bytes" "[I", .methodLink RX3 84 yX3_isLetter, .static yX3_isLetter, .initialized RX3, .code yX3_isLetter cX3_isLetter 1 (some .boolean), .static yX6_isWithin, .initialized RX6, .code yX6_isWithin cX6_isWithin 3 (some .boolean), .methodLink RX3 71 yX3_isDigit, .static yX3_isDigit, .code yX3_isDigit cX3_isDigit 1 (some .boolean)] ++ wsX30 ++ wsX50)
def wsJ0_coder_7d493 : List Cond := .code yJ0_coder_7d493 cJ0_coder_7d493 1 (some .byte) :: ([.fieldLink RJ0 38 "java/lang/String" "COMPACT_STRINGS" "Z", .fieldLink RJ0 15 "java/lang/String" "coder" "B"])
def wsJ0_length_8abf5 : List Cond := .code yJ0_length_8abf5 cJ0_length_8abf5 1 (some .int) :: ([.fieldLink RJ0 9 "java/lang/String" "value" "[B", .methodLink RJ0 335 yJ0_coder_7d493, .instanceMethod yJ0_coder_7d493, .selects RJ0 yJ0_coder_7d493 yJ0_coder_7d493, .initialized RJ0, .code yJ0_coder_7d493 cJ0_coder_7d493 1 (some .byte), .fieldLink RJ0 38 "java/lang/String" "COMPACT_STRINGS" "Z", .fieldLink RJ0 15 "java/lang/String" "coder" "B"])
def wsJ0_isLatin1_aae02 : List Cond := .code yJ0_isLatin1_aae02 cJ0_isLatin1_aae02 1 (some .boolean) :: ([.fieldLink RJ0 38 "java/lang/String" "COMPACT_STRINGS" "Z", .fieldLink RJ0 15 "java/lang/String" "coder" "B"])
def wsJ3_checkIndex_8e157 : List Cond := .code yJ3_checkIndex_8e157 cJ3_checkIndex_8e157 3 (some .int) :: ([])
def wsJ0_checkIndex_df160 : List Cond := .code yJ0_checkIndex_df160 cJ0_checkIndex_df160 2 none :: ([.fieldLink RJ0 1053 "jdk/internal/util/Preconditions" "SIOOBE_FORMATTER" "Ljava/util/function/BiFunction;", .methodLink RJ0 1059 yJ3_checkIndex_8e157, .static yJ3_checkIndex_8e157, .initialized RJ3, .code yJ3_checkIndex_8e157 cJ3_checkIndex_8e157 3 (some .int)])
def wsJ1_charAt_3b067 : List Cond := .code yJ1_charAt_3b067 cJ1_charAt_3b067 2 (some .char) :: ([.methodLink RJ1 9 yJ0_checkIndex_df160, .static yJ0_checkIndex_df160, .initialized RJ0, .code yJ0_checkIndex_df160 cJ0_checkIndex_df160 2 none, .fieldLink RJ0 1053 "jdk/internal/util/Preconditions" "SIOOBE_FORMATTER" "Ljava/util/function/BiFunction;", .methodLink RJ0 1059 yJ3_checkIndex_8e157, .static yJ3_checkIndex_8e157, .initialized RJ3, .code yJ3_checkIndex_8e157 cJ3_checkIndex_8e157 3 (some .int)])
def wsJ2_length_9d52b : List Cond := .code yJ2_length_9d52b cJ2_length_9d52b 1 (some .int) :: ([])
def wsJ2_checkIndex_2214a : List Cond := .code yJ2_checkIndex_2214a cJ2_checkIndex_2214a 2 none :: ([.methodLink RJ2 48 yJ2_length_9d52b, .static yJ2_length_9d52b, .initialized RJ2, .code yJ2_length_9d52b cJ2_length_9d52b 1 (some .int), .methodLink RJ2 414 yJ0_checkIndex_df160, .static yJ0_checkIndex_df160, .initialized RJ0, .code yJ0_checkIndex_df160 cJ0_checkIndex_df160 2 none, .fieldLink RJ0 1053 "jdk/internal/util/Preconditions" "SIOOBE_FORMATTER" "Ljava/util/function/BiFunction;", .methodLink RJ0 1059 yJ3_checkIndex_8e157, .static yJ3_checkIndex_8e157, .initialized RJ3, .code yJ3_checkIndex_8e157 cJ3_checkIndex_8e157 3 (some .int)])
def wsJ2_getChar_3b067 : List Cond := .code yJ2_getChar_3b067 cJ2_getChar_3b067 2 (some .char) :: ([.fieldLink RJ2 44 "java/lang/StringUTF16" "$assertionsDisabled" "Z", .fieldLink RJ2 59 "java/lang/StringUTF16" "HI_BYTE_SHIFT" "I", .fieldLink RJ2 63 "java/lang/StringUTF16" "LO_BYTE_SHIFT" "I", .methodLink RJ2 48 yJ2_length_9d52b, .static yJ2_length_9d52b, .initialized RJ2, .code yJ2_length_9d52b cJ2_length_9d52b 1 (some .int)])
def wsJ2_charAt_3b067 : List Cond := .code yJ2_charAt_3b067 cJ2_charAt_3b067 2 (some .char) :: ([.methodLink RJ2 67 yJ2_checkIndex_2214a, .static yJ2_checkIndex_2214a, .initialized RJ2, .code yJ2_checkIndex_2214a cJ2_checkIndex_2214a 2 none, .methodLink RJ2 48 yJ2_length_9d52b, .static yJ2_length_9d52b, .code yJ2_length_9d52b cJ2_length_9d52b 1 (some .int), .methodLink RJ2 414 yJ0_checkIndex_df160, .static yJ0_checkIndex_df160, .initialized RJ0, .code yJ0_checkIndex_df160 cJ0_checkIndex_df160 2 none, .fieldLink RJ0 1053 "jdk/internal/util/Preconditions" "SIOOBE_FORMATTER" "Ljava/util/function/BiFunction;", .methodLink RJ0 1059 yJ3_checkIndex_8e157, .static yJ3_checkIndex_8e157, .initialized RJ3, .code yJ3_checkIndex_8e157 cJ3_checkIndex_8e157 3 (some .int), .methodLink RJ2 71 yJ2_getChar_3b067, .static yJ2_getChar_3b067, .code yJ2_getChar_3b067 cJ2_getChar_3b067 2 (some .char), .fieldLink RJ2 44 "java/lang/StringUTF16" "$assertionsDisabled" "Z", .fieldLink RJ2 59 "java/lang/StringUTF16" "HI_BYTE_SHIFT" "I", .fieldLink RJ2 63 "java/lang/StringUTF16" "LO_BYTE_SHIFT" "I"])
def wsJ0_charAt_5068e_r1 : List Cond := [Cond.fieldLink RJ0 9 "java/lang/String" "value" "[B", Cond.methodLink RJ0 492 yJ0_isLatin1_aae02, Cond.instanceMethod yJ0_isLatin1_aae02, Cond.selects RJ0 yJ0_isLatin1_aae02 yJ0_isLatin1_aae02, Cond.initialized RJ0, Cond.code yJ0_isLatin1_aae02 cJ0_isLatin1_aae02 1 (some .boolean), Cond.fieldLink RJ0 38 "java/lang/String" "COMPACT_STRINGS" "Z", Cond.fieldLink RJ0 15 "java/lang/String" "coder" "B", Cond.methodLink RJ0 495 yJ1_charAt_3b067, Cond.static yJ1_charAt_3b067, Cond.initialized RJ1, Cond.code yJ1_charAt_3b067 cJ1_charAt_3b067 2 (some .char), Cond.methodLink RJ1 9 yJ0_checkIndex_df160, Cond.static yJ0_checkIndex_df160, Cond.code yJ0_checkIndex_df160 cJ0_checkIndex_df160 2 none, Cond.fieldLink RJ0 1053 "jdk/internal/util/Preconditions" "SIOOBE_FORMATTER" "Ljava/util/function/BiFunction;", Cond.methodLink RJ0 1059 yJ3_checkIndex_8e157, Cond.static yJ3_checkIndex_8e157, Cond.initialized RJ3, Cond.code yJ3_checkIndex_8e157 cJ3_checkIndex_8e157 3 (some .int), Cond.methodLink RJ0 498 yJ2_charAt_3b067, Cond.static yJ2_charAt_3b067, Cond.initialized RJ2, Cond.code yJ2_charAt_3b067 cJ2_charAt_3b067 2 (some .char)]
def wsJ0_charAt_5068e_r2 : List Cond := [Cond.methodLink RJ2 67 yJ2_checkIndex_2214a, Cond.static yJ2_checkIndex_2214a, Cond.code yJ2_checkIndex_2214a cJ2_checkIndex_2214a 2 none, Cond.methodLink RJ2 48 yJ2_length_9d52b, Cond.static yJ2_length_9d52b, Cond.code yJ2_length_9d52b cJ2_length_9d52b 1 (some .int), Cond.methodLink RJ2 414 yJ0_checkIndex_df160, Cond.methodLink RJ2 71 yJ2_getChar_3b067, Cond.static yJ2_getChar_3b067, Cond.code yJ2_getChar_3b067 cJ2_getChar_3b067 2 (some .char), Cond.fieldLink RJ2 44 "java/lang/StringUTF16" "$assertionsDisabled" "Z", Cond.fieldLink RJ2 59 "java/lang/StringUTF16" "HI_BYTE_SHIFT" "I", Cond.fieldLink RJ2 63 "java/lang/StringUTF16" "LO_BYTE_SHIFT" "I"]
def wsJ0_charAt_5068e : List Cond := .code yJ0_charAt_5068e cJ0_charAt_5068e 2 (some .char) :: ((wsJ0_charAt_5068e_r1 ++ wsJ0_charAt_5068e_r2))
def wsX3_isWord_r1 : List Cond := [Cond.fieldLink RX3 28 "DesertChannels$LawReader" "behind" "I", Cond.fieldLink RX3 39 "DesertChannels$LawReader" "begin" "I", Cond.fieldLink RX3 12 "DesertChannels$LawReader" "tape" "LDesertChannels$Tape;", Cond.fieldLink RX3 45 "DesertChannels$Tape" "bytes" "[I", Cond.methodLink RX3 75 yJ0_length_8abf5, Cond.instanceMethod yJ0_length_8abf5, Cond.selects RJ0 yJ0_length_8abf5 yJ0_length_8abf5, Cond.initialized RJ0, Cond.code yJ0_length_8abf5 cJ0_length_8abf5 1 (some .int), Cond.fieldLink RJ0 9 "java/lang/String" "value" "[B", Cond.methodLink RJ0 335 yJ0_coder_7d493, Cond.instanceMethod yJ0_coder_7d493, Cond.selects RJ0 yJ0_coder_7d493 yJ0_coder_7d493, Cond.code yJ0_coder_7d493 cJ0_coder_7d493 1 (some .byte), Cond.fieldLink RJ0 38 "java/lang/String" "COMPACT_STRINGS" "Z", Cond.fieldLink RJ0 15 "java/lang/String" "coder" "B", Cond.methodLink RX3 80 yJ0_charAt_5068e, Cond.instanceMethod yJ0_charAt_5068e, Cond.selects RJ0 yJ0_charAt_5068e yJ0_charAt_5068e, Cond.code yJ0_charAt_5068e cJ0_charAt_5068e 2 (some .char), Cond.methodLink RJ0 492 yJ0_isLatin1_aae02, Cond.instanceMethod yJ0_isLatin1_aae02, Cond.selects RJ0 yJ0_isLatin1_aae02 yJ0_isLatin1_aae02, Cond.code yJ0_isLatin1_aae02 cJ0_isLatin1_aae02 1 (some .boolean)]
def wsX3_isWord_r2 : List Cond := [Cond.methodLink RJ0 495 yJ1_charAt_3b067, Cond.static yJ1_charAt_3b067, Cond.initialized RJ1, Cond.code yJ1_charAt_3b067 cJ1_charAt_3b067 2 (some .char), Cond.methodLink RJ1 9 yJ0_checkIndex_df160, Cond.static yJ0_checkIndex_df160, Cond.code yJ0_checkIndex_df160 cJ0_checkIndex_df160 2 none, Cond.fieldLink RJ0 1053 "jdk/internal/util/Preconditions" "SIOOBE_FORMATTER" "Ljava/util/function/BiFunction;", Cond.methodLink RJ0 1059 yJ3_checkIndex_8e157, Cond.static yJ3_checkIndex_8e157, Cond.initialized RJ3, Cond.code yJ3_checkIndex_8e157 cJ3_checkIndex_8e157 3 (some .int), Cond.methodLink RJ0 498 yJ2_charAt_3b067, Cond.static yJ2_charAt_3b067, Cond.initialized RJ2, Cond.code yJ2_charAt_3b067 cJ2_charAt_3b067 2 (some .char), Cond.methodLink RJ2 67 yJ2_checkIndex_2214a, Cond.static yJ2_checkIndex_2214a, Cond.code yJ2_checkIndex_2214a cJ2_checkIndex_2214a 2 none, Cond.methodLink RJ2 48 yJ2_length_9d52b, Cond.static yJ2_length_9d52b, Cond.code yJ2_length_9d52b cJ2_length_9d52b 1 (some .int), Cond.methodLink RJ2 414 yJ0_checkIndex_df160, Cond.methodLink RJ2 71 yJ2_getChar_3b067]
def wsX3_isWord_r3 : List Cond := [Cond.static yJ2_getChar_3b067, Cond.code yJ2_getChar_3b067 cJ2_getChar_3b067 2 (some .char), Cond.fieldLink RJ2 44 "java/lang/StringUTF16" "$assertionsDisabled" "Z", Cond.fieldLink RJ2 59 "java/lang/StringUTF16" "HI_BYTE_SHIFT" "I", Cond.fieldLink RJ2 63 "java/lang/StringUTF16" "LO_BYTE_SHIFT" "I"]
def wsX3_isWord : List Cond := .code yX3_isWord cX3_isWord 3 (some .boolean) :: ((wsX3_isWord_r1 ++ (wsX3_isWord_r2 ++ wsX3_isWord_r3)) ++ wsX30 ++ wsX50)
def wsX3_isNumber : List Cond := .code yX3_isNumber cX3_isNumber 5 (some .boolean) :: ([.fieldLink RX3 39 "DesertChannels$LawReader" "begin" "I", .fieldLink RX3 12 "DesertChannels$LawReader" "tape" "LDesertChannels$Tape;", .fieldLink RX3 42 "DesertChannels$Tape" "length" "I", .fieldLink RX3 45 "DesertChannels$Tape" "bytes" "[I", .fieldLink RX3 28 "DesertChannels$LawReader" "behind" "I", .fieldLink RX3 18 "DesertChannels$LawReader" "draft" "[I", .methodLink RX3 36 yX3_takeThing, .instanceMethod yX3_takeThing, .selects RX3 yX3_takeThing yX3_takeThing, .initialized RX3, .code yX3_takeThing cX3_takeThing 1 none, .methodLink RX3 84 yX3_isLetter, .static yX3_isLetter, .code yX3_isLetter cX3_isLetter 1 (some .boolean), .static yX6_isWithin, .initialized RX6, .code yX6_isWithin cX6_isWithin 3 (some .boolean), .methodLink RX3 71 yX3_isDigit, .static yX3_isDigit, .code yX3_isDigit cX3_isDigit 1 (some .boolean)] ++ wsX30 ++ wsX50)
def wsX3_isPayment_r1 : List Cond := [Cond.fieldLink RX3 18 "DesertChannels$LawReader" "draft" "[I", Cond.methodLink RX3 36 yX3_takeThing, Cond.instanceMethod yX3_takeThing, Cond.selects RX3 yX3_takeThing yX3_takeThing, Cond.initialized RX3, Cond.code yX3_takeThing cX3_takeThing 1 none, Cond.fieldLink RX3 28 "DesertChannels$LawReader" "behind" "I", Cond.fieldLink RX3 39 "DesertChannels$LawReader" "begin" "I", Cond.fieldLink RX3 12 "DesertChannels$LawReader" "tape" "LDesertChannels$Tape;", Cond.fieldLink RX3 42 "DesertChannels$Tape" "length" "I", Cond.fieldLink RX3 45 "DesertChannels$Tape" "bytes" "[I", Cond.methodLink RX3 84 yX3_isLetter, Cond.static yX3_isLetter, Cond.code yX3_isLetter cX3_isLetter 1 (some .boolean), Cond.static yX6_isWithin, Cond.initialized RX6, Cond.code yX6_isWithin cX6_isWithin 3 (some .boolean), Cond.methodLink RX3 71 yX3_isDigit, Cond.static yX3_isDigit, Cond.code yX3_isDigit cX3_isDigit 1 (some .boolean), Cond.methodLink RX3 50 yX3_isWord, Cond.instanceMethod yX3_isWord, Cond.selects RX3 yX3_isWord yX3_isWord, Cond.code yX3_isWord cX3_isWord 3 (some .boolean)]
def wsX3_isPayment_r2 : List Cond := [Cond.methodLink RX3 75 yJ0_length_8abf5, Cond.instanceMethod yJ0_length_8abf5, Cond.selects RJ0 yJ0_length_8abf5 yJ0_length_8abf5, Cond.initialized RJ0, Cond.code yJ0_length_8abf5 cJ0_length_8abf5 1 (some .int), Cond.fieldLink RJ0 9 "java/lang/String" "value" "[B", Cond.methodLink RJ0 335 yJ0_coder_7d493, Cond.instanceMethod yJ0_coder_7d493, Cond.selects RJ0 yJ0_coder_7d493 yJ0_coder_7d493, Cond.code yJ0_coder_7d493 cJ0_coder_7d493 1 (some .byte), Cond.fieldLink RJ0 38 "java/lang/String" "COMPACT_STRINGS" "Z", Cond.fieldLink RJ0 15 "java/lang/String" "coder" "B", Cond.methodLink RX3 80 yJ0_charAt_5068e, Cond.instanceMethod yJ0_charAt_5068e, Cond.selects RJ0 yJ0_charAt_5068e yJ0_charAt_5068e, Cond.code yJ0_charAt_5068e cJ0_charAt_5068e 2 (some .char), Cond.methodLink RJ0 492 yJ0_isLatin1_aae02, Cond.instanceMethod yJ0_isLatin1_aae02, Cond.selects RJ0 yJ0_isLatin1_aae02 yJ0_isLatin1_aae02, Cond.code yJ0_isLatin1_aae02 cJ0_isLatin1_aae02 1 (some .boolean), Cond.methodLink RJ0 495 yJ1_charAt_3b067, Cond.static yJ1_charAt_3b067, Cond.initialized RJ1, Cond.code yJ1_charAt_3b067 cJ1_charAt_3b067 2 (some .char)]
def wsX3_isPayment_r3 : List Cond := [Cond.methodLink RJ1 9 yJ0_checkIndex_df160, Cond.static yJ0_checkIndex_df160, Cond.code yJ0_checkIndex_df160 cJ0_checkIndex_df160 2 none, Cond.fieldLink RJ0 1053 "jdk/internal/util/Preconditions" "SIOOBE_FORMATTER" "Ljava/util/function/BiFunction;", Cond.methodLink RJ0 1059 yJ3_checkIndex_8e157, Cond.static yJ3_checkIndex_8e157, Cond.initialized RJ3, Cond.code yJ3_checkIndex_8e157 cJ3_checkIndex_8e157 3 (some .int), Cond.methodLink RJ0 498 yJ2_charAt_3b067, Cond.static yJ2_charAt_3b067, Cond.initialized RJ2, Cond.code yJ2_charAt_3b067 cJ2_charAt_3b067 2 (some .char), Cond.methodLink RJ2 67 yJ2_checkIndex_2214a, Cond.static yJ2_checkIndex_2214a, Cond.code yJ2_checkIndex_2214a cJ2_checkIndex_2214a 2 none, Cond.methodLink RJ2 48 yJ2_length_9d52b, Cond.static yJ2_length_9d52b, Cond.code yJ2_length_9d52b cJ2_length_9d52b 1 (some .int), Cond.methodLink RJ2 414 yJ0_checkIndex_df160, Cond.methodLink RJ2 71 yJ2_getChar_3b067, Cond.static yJ2_getChar_3b067, Cond.code yJ2_getChar_3b067 cJ2_getChar_3b067 2 (some .char), Cond.fieldLink RJ2 44 "java/lang/StringUTF16" "$assertionsDisabled" "Z", Cond.fieldLink RJ2 59 "java/lang/StringUTF16" "HI_BYTE_SHIFT" "I"]
def wsX3_isPayment_r4 : List Cond := [Cond.fieldLink RJ2 63 "java/lang/StringUTF16" "LO_BYTE_SHIFT" "I"]
def wsX3_isPayment : List Cond := .code yX3_isPayment cX3_isPayment 2 (some .boolean) :: ((wsX3_isPayment_r1 ++ (wsX3_isPayment_r2 ++ (wsX3_isPayment_r3 ++ wsX3_isPayment_r4))) ++ wsX30 ++ wsX50)
def wsX3_isTerm_r1 : List Cond := [Cond.methodLink RX3 36 yX3_takeThing, Cond.instanceMethod yX3_takeThing, Cond.selects RX3 yX3_takeThing yX3_takeThing, Cond.initialized RX3, Cond.code yX3_takeThing cX3_takeThing 1 none, Cond.fieldLink RX3 28 "DesertChannels$LawReader" "behind" "I", Cond.fieldLink RX3 39 "DesertChannels$LawReader" "begin" "I", Cond.fieldLink RX3 12 "DesertChannels$LawReader" "tape" "LDesertChannels$Tape;", Cond.fieldLink RX3 42 "DesertChannels$Tape" "length" "I", Cond.fieldLink RX3 45 "DesertChannels$Tape" "bytes" "[I", Cond.methodLink RX3 84 yX3_isLetter, Cond.static yX3_isLetter, Cond.code yX3_isLetter cX3_isLetter 1 (some .boolean), Cond.static yX6_isWithin, Cond.initialized RX6, Cond.code yX6_isWithin cX6_isWithin 3 (some .boolean), Cond.methodLink RX3 71 yX3_isDigit, Cond.static yX3_isDigit, Cond.code yX3_isDigit cX3_isDigit 1 (some .boolean), Cond.methodLink RX3 50 yX3_isWord, Cond.instanceMethod yX3_isWord, Cond.selects RX3 yX3_isWord yX3_isWord, Cond.code yX3_isWord cX3_isWord 3 (some .boolean), Cond.methodLink RX3 75 yJ0_length_8abf5]
def wsX3_isTerm_r2 : List Cond := [Cond.instanceMethod yJ0_length_8abf5, Cond.selects RJ0 yJ0_length_8abf5 yJ0_length_8abf5, Cond.initialized RJ0, Cond.code yJ0_length_8abf5 cJ0_length_8abf5 1 (some .int), Cond.fieldLink RJ0 9 "java/lang/String" "value" "[B", Cond.methodLink RJ0 335 yJ0_coder_7d493, Cond.instanceMethod yJ0_coder_7d493, Cond.selects RJ0 yJ0_coder_7d493 yJ0_coder_7d493, Cond.code yJ0_coder_7d493 cJ0_coder_7d493 1 (some .byte), Cond.fieldLink RJ0 38 "java/lang/String" "COMPACT_STRINGS" "Z", Cond.fieldLink RJ0 15 "java/lang/String" "coder" "B", Cond.methodLink RX3 80 yJ0_charAt_5068e, Cond.instanceMethod yJ0_charAt_5068e, Cond.selects RJ0 yJ0_charAt_5068e yJ0_charAt_5068e, Cond.code yJ0_charAt_5068e cJ0_charAt_5068e 2 (some .char), Cond.methodLink RJ0 492 yJ0_isLatin1_aae02, Cond.instanceMethod yJ0_isLatin1_aae02, Cond.selects RJ0 yJ0_isLatin1_aae02 yJ0_isLatin1_aae02, Cond.code yJ0_isLatin1_aae02 cJ0_isLatin1_aae02 1 (some .boolean), Cond.methodLink RJ0 495 yJ1_charAt_3b067, Cond.static yJ1_charAt_3b067, Cond.initialized RJ1, Cond.code yJ1_charAt_3b067 cJ1_charAt_3b067 2 (some .char), Cond.methodLink RJ1 9 yJ0_checkIndex_df160]
def wsX3_isTerm_r3 : List Cond := [Cond.static yJ0_checkIndex_df160, Cond.code yJ0_checkIndex_df160 cJ0_checkIndex_df160 2 none, Cond.fieldLink RJ0 1053 "jdk/internal/util/Preconditions" "SIOOBE_FORMATTER" "Ljava/util/function/BiFunction;", Cond.methodLink RJ0 1059 yJ3_checkIndex_8e157, Cond.static yJ3_checkIndex_8e157, Cond.initialized RJ3, Cond.code yJ3_checkIndex_8e157 cJ3_checkIndex_8e157 3 (some .int), Cond.methodLink RJ0 498 yJ2_charAt_3b067, Cond.static yJ2_charAt_3b067, Cond.initialized RJ2, Cond.code yJ2_charAt_3b067 cJ2_charAt_3b067 2 (some .char), Cond.methodLink RJ2 67 yJ2_checkIndex_2214a, Cond.static yJ2_checkIndex_2214a, Cond.code yJ2_checkIndex_2214a cJ2_checkIndex_2214a 2 none, Cond.methodLink RJ2 48 yJ2_length_9d52b, Cond.static yJ2_length_9d52b, Cond.code yJ2_length_9d52b cJ2_length_9d52b 1 (some .int), Cond.methodLink RJ2 414 yJ0_checkIndex_df160, Cond.methodLink RJ2 71 yJ2_getChar_3b067, Cond.static yJ2_getChar_3b067, Cond.code yJ2_getChar_3b067 cJ2_getChar_3b067 2 (some .char), Cond.fieldLink RJ2 44 "java/lang/StringUTF16" "$assertionsDisabled" "Z", Cond.fieldLink RJ2 59 "java/lang/StringUTF16" "HI_BYTE_SHIFT" "I", Cond.fieldLink RJ2 63 "java/lang/StringUTF16" "LO_BYTE_SHIFT" "I"]
def wsX3_isTerm_r4 : List Cond := [Cond.methodLink RX3 54 yX3_isNumber, Cond.instanceMethod yX3_isNumber, Cond.selects RX3 yX3_isNumber yX3_isNumber, Cond.code yX3_isNumber cX3_isNumber 5 (some .boolean), Cond.fieldLink RX3 18 "DesertChannels$LawReader" "draft" "[I", Cond.methodLink RX3 64 yX3_isPayment, Cond.instanceMethod yX3_isPayment, Cond.selects RX3 yX3_isPayment yX3_isPayment, Cond.code yX3_isPayment cX3_isPayment 2 (some .boolean)]
def wsX3_isTerm : List Cond := .code yX3_isTerm cX3_isTerm 1 (some .boolean) :: ((wsX3_isTerm_r1 ++ (wsX3_isTerm_r2 ++ (wsX3_isTerm_r3 ++ wsX3_isTerm_r4))) ++ wsX30 ++ wsX50)
def wsX3_readTerms_r1 : List Cond := [Cond.fieldLink RX3 18 "DesertChannels$LawReader" "draft" "[I", Cond.methodLink RX3 22 arraycopyName, Cond.native arraycopyName, Cond.static arraycopyName, Cond.initialized "java/lang/System", Cond.fieldLink RX3 28 "DesertChannels$LawReader" "behind" "I", Cond.fieldLink RX3 39 "DesertChannels$LawReader" "begin" "I", Cond.fieldLink RX3 12 "DesertChannels$LawReader" "tape" "LDesertChannels$Tape;", Cond.fieldLink RX3 42 "DesertChannels$Tape" "length" "I", Cond.fieldLink RX3 45 "DesertChannels$Tape" "bytes" "[I", Cond.methodLink RX3 32 yX3_isTerm, Cond.instanceMethod yX3_isTerm, Cond.selects RX3 yX3_isTerm yX3_isTerm, Cond.initialized RX3, Cond.code yX3_isTerm cX3_isTerm 1 (some .boolean), Cond.methodLink RX3 36 yX3_takeThing, Cond.instanceMethod yX3_takeThing, Cond.selects RX3 yX3_takeThing yX3_takeThing, Cond.code yX3_takeThing cX3_takeThing 1 none, Cond.methodLink RX3 84 yX3_isLetter, Cond.static yX3_isLetter, Cond.code yX3_isLetter cX3_isLetter 1 (some .boolean), Cond.static yX6_isWithin, Cond.initialized RX6]
def wsX3_readTerms_r2 : List Cond := [Cond.code yX6_isWithin cX6_isWithin 3 (some .boolean), Cond.methodLink RX3 71 yX3_isDigit, Cond.static yX3_isDigit, Cond.code yX3_isDigit cX3_isDigit 1 (some .boolean), Cond.methodLink RX3 50 yX3_isWord, Cond.instanceMethod yX3_isWord, Cond.selects RX3 yX3_isWord yX3_isWord, Cond.code yX3_isWord cX3_isWord 3 (some .boolean), Cond.methodLink RX3 75 yJ0_length_8abf5, Cond.instanceMethod yJ0_length_8abf5, Cond.selects RJ0 yJ0_length_8abf5 yJ0_length_8abf5, Cond.initialized RJ0, Cond.code yJ0_length_8abf5 cJ0_length_8abf5 1 (some .int), Cond.fieldLink RJ0 9 "java/lang/String" "value" "[B", Cond.methodLink RJ0 335 yJ0_coder_7d493, Cond.instanceMethod yJ0_coder_7d493, Cond.selects RJ0 yJ0_coder_7d493 yJ0_coder_7d493, Cond.code yJ0_coder_7d493 cJ0_coder_7d493 1 (some .byte), Cond.fieldLink RJ0 38 "java/lang/String" "COMPACT_STRINGS" "Z", Cond.fieldLink RJ0 15 "java/lang/String" "coder" "B", Cond.methodLink RX3 80 yJ0_charAt_5068e, Cond.instanceMethod yJ0_charAt_5068e, Cond.selects RJ0 yJ0_charAt_5068e yJ0_charAt_5068e, Cond.code yJ0_charAt_5068e cJ0_charAt_5068e 2 (some .char)]
def wsX3_readTerms_r3 : List Cond := [Cond.methodLink RJ0 492 yJ0_isLatin1_aae02, Cond.instanceMethod yJ0_isLatin1_aae02, Cond.selects RJ0 yJ0_isLatin1_aae02 yJ0_isLatin1_aae02, Cond.code yJ0_isLatin1_aae02 cJ0_isLatin1_aae02 1 (some .boolean), Cond.methodLink RJ0 495 yJ1_charAt_3b067, Cond.static yJ1_charAt_3b067, Cond.initialized RJ1, Cond.code yJ1_charAt_3b067 cJ1_charAt_3b067 2 (some .char), Cond.methodLink RJ1 9 yJ0_checkIndex_df160, Cond.static yJ0_checkIndex_df160, Cond.code yJ0_checkIndex_df160 cJ0_checkIndex_df160 2 none, Cond.fieldLink RJ0 1053 "jdk/internal/util/Preconditions" "SIOOBE_FORMATTER" "Ljava/util/function/BiFunction;", Cond.methodLink RJ0 1059 yJ3_checkIndex_8e157, Cond.static yJ3_checkIndex_8e157, Cond.initialized RJ3, Cond.code yJ3_checkIndex_8e157 cJ3_checkIndex_8e157 3 (some .int), Cond.methodLink RJ0 498 yJ2_charAt_3b067, Cond.static yJ2_charAt_3b067, Cond.initialized RJ2, Cond.code yJ2_charAt_3b067 cJ2_charAt_3b067 2 (some .char), Cond.methodLink RJ2 67 yJ2_checkIndex_2214a, Cond.static yJ2_checkIndex_2214a, Cond.code yJ2_checkIndex_2214a cJ2_checkIndex_2214a 2 none, Cond.methodLink RJ2 48 yJ2_length_9d52b]
def wsX3_readTerms_r4 : List Cond := [Cond.static yJ2_length_9d52b, Cond.code yJ2_length_9d52b cJ2_length_9d52b 1 (some .int), Cond.methodLink RJ2 414 yJ0_checkIndex_df160, Cond.methodLink RJ2 71 yJ2_getChar_3b067, Cond.static yJ2_getChar_3b067, Cond.code yJ2_getChar_3b067 cJ2_getChar_3b067 2 (some .char), Cond.fieldLink RJ2 44 "java/lang/StringUTF16" "$assertionsDisabled" "Z", Cond.fieldLink RJ2 59 "java/lang/StringUTF16" "HI_BYTE_SHIFT" "I", Cond.fieldLink RJ2 63 "java/lang/StringUTF16" "LO_BYTE_SHIFT" "I", Cond.methodLink RX3 54 yX3_isNumber, Cond.instanceMethod yX3_isNumber, Cond.selects RX3 yX3_isNumber yX3_isNumber, Cond.code yX3_isNumber cX3_isNumber 5 (some .boolean), Cond.methodLink RX3 64 yX3_isPayment, Cond.instanceMethod yX3_isPayment, Cond.selects RX3 yX3_isPayment yX3_isPayment, Cond.code yX3_isPayment cX3_isPayment 2 (some .boolean)]
def wsX3_readTerms : List Cond := .code yX3_readTerms cX3_readTerms 3 (some .int) :: ((wsX3_readTerms_r1 ++ (wsX3_readTerms_r2 ++ (wsX3_readTerms_r3 ++ wsX3_readTerms_r4))) ++ wsX30 ++ wsX50)
def wsX4_init : List Cond := .code yX4_init cX4_init 1 none :: ([.methodLink RX4 3 objectInit, .instanceMethod objectInit, .code objectInit ⟨#[0xb1]⟩ 1 none])
def wsX4_become : List Cond := .code yX4_become cX4_become 5 none :: ([.fieldLink RX4 9 "DesertChannels$Share" "channel" "I", .fieldLink RX4 15 "DesertChannels$Share" "from" "I", .fieldLink RX4 18 "DesertChannels$Share" "to" "I", .fieldLink RX4 21 "DesertChannels$Share" "owner" "I", .fieldLink RX4 24 "DesertChannels$Share" "tenant" "I", .fieldLink RX4 27 "DesertChannels$Share" "letFrom" "I", .fieldLink RX4 30 "DesertChannels$Share" "letTo" "I"] ++ wsX40)
def wsX4_isLetFrom : List Cond := .code yX4_isLetFrom cX4_isLetFrom 2 (some .boolean) :: ([.fieldLink RX4 30 "DesertChannels$Share" "letTo" "I"] ++ wsX40)
def wsX4_heldBy : List Cond := .code yX4_heldBy cX4_heldBy 2 (some .int) :: ([.fieldLink RX4 27 "DesertChannels$Share" "letFrom" "I", .fieldLink RX4 30 "DesertChannels$Share" "letTo" "I", .fieldLink RX4 24 "DesertChannels$Share" "tenant" "I", .fieldLink RX4 21 "DesertChannels$Share" "owner" "I"] ++ wsX40)
def wsX5_append : List Cond := .code yX5_append cX5_append 3 none :: ([.fieldLink RX5 15 "DesertChannels$Tape" "length" "I", .fieldLink RX5 9 "DesertChannels$Tape" "bytes" "[I"] ++ wsX50)
def wsX6_init_r1 : List Cond := [Cond.methodLink RX6 1 objectInit, Cond.instanceMethod objectInit, Cond.code objectInit ⟨#[0xb1]⟩ 1 none, Cond.classLink RX6 7 RX3, Cond.instantiable RX3 4, Cond.initialized RX3, Cond.fieldLink RX6 10 "DesertChannels" "reader" "LDesertChannels$LawReader;", Cond.fieldLink RX6 16 "DesertChannels$LawReader" "tape" "LDesertChannels$Tape;", Cond.fieldLink RX6 20 "DesertChannels" "tape" "LDesertChannels$Tape;", Cond.arrayClass .int, Cond.fieldLink RX6 21 "DesertChannels" "lawNow" "[I", Cond.fieldLink RX6 25 "DesertChannels" "wrongByte" "I", Cond.classLink RX6 29 RX0, Cond.fieldLink RX6 31 "DesertChannels" "channels" "[LDesertChannels$Channel;", Cond.instantiable RX0 8, Cond.initialized RX0, Cond.fieldLink RX6 36 "DesertChannels" "head" "I", Cond.fieldLink RX6 39 "DesertChannels" "slope" "I", Cond.classLink RX6 42 RX4, Cond.fieldLink RX6 44 "DesertChannels" "shares" "[LDesertChannels$Share;", Cond.instantiable RX4 7, Cond.initialized RX4, Cond.classLink RX6 49 RX2, Cond.instantiable RX2 3]
def wsX6_init_r2 : List Cond := [Cond.initialized RX2, Cond.fieldLink RX6 52 "DesertChannels" "heirRow" "LDesertChannels$Heirs;", Cond.fieldLink RX6 56 "DesertChannels" "weights" "[I", Cond.classLink RX6 59 RX1, Cond.instantiable RX1 5, Cond.initialized RX1, Cond.fieldLink RX6 62 "DesertChannels" "fields" "LDesertChannels$Fields;", Cond.instanceMethod yX3_init, Cond.code yX3_init cX3_init 1 none, Cond.methodLink RX3 3 objectInit, Cond.classLink RX3 9 RX5, Cond.instantiable RX5 2, Cond.initialized RX5, Cond.fieldLink RX3 12 "DesertChannels$LawReader" "tape" "LDesertChannels$Tape;", Cond.fieldLink RX3 18 "DesertChannels$LawReader" "draft" "[I", Cond.instanceMethod yX5_init, Cond.code yX5_init cX5_init 1 none, Cond.methodLink RX5 3 objectInit, Cond.fieldLink RX5 9 "DesertChannels$Tape" "bytes" "[I", Cond.instanceMethod yX0_init, Cond.code yX0_init cX0_init 1 none, Cond.methodLink RX0 3 objectInit, Cond.fieldLink RX0 9 "DesertChannels$Channel" "x" "[I", Cond.fieldLink RX0 15 "DesertChannels$Channel" "y" "[I"]
def wsX6_init_r3 : List Cond := [Cond.fieldLink RX0 18 "DesertChannels$Channel" "floor" "[I", Cond.arrayClass .boolean, Cond.fieldLink RX0 21 "DesertChannels$Channel" "collapsed" "[Z", Cond.instanceMethod yX4_init, Cond.code yX4_init cX4_init 1 none, Cond.methodLink RX4 3 objectInit, Cond.instanceMethod yX2_init, Cond.code yX2_init cX2_init 1 none, Cond.methodLink RX2 3 objectInit, Cond.fieldLink RX2 9 "DesertChannels$Heirs" "owner" "[I", Cond.fieldLink RX2 15 "DesertChannels$Heirs" "length" "[I", Cond.fieldLink RX2 18 "DesertChannels$Heirs" "part" "[I", Cond.instanceMethod yX1_init, Cond.code yX1_init cX1_init 1 none, Cond.methodLink RX1 3 objectInit, Cond.fieldLink RX1 9 "DesertChannels$Fields" "minutes" "[I", Cond.fieldLink RX1 15 "DesertChannels$Fields" "due" "[I", Cond.fieldLink RX1 18 "DesertChannels$Fields" "loss" "[I", Cond.fieldLink RX1 21 "DesertChannels$Fields" "best" "[I"]
def wsX6_init : List Cond := .code yX6_init cX6_init 2 none :: ((wsX6_init_r1 ++ (wsX6_init_r2 ++ wsX6_init_r3)) ++ wsX30 ++ wsX60 ++ wsX00 ++ wsX40 ++ wsX20 ++ wsX10 ++ wsX50)
def wsX6_feed : List Cond := .code yX6_feed cX6_feed 6 (some .int) :: ([.fieldLink RX6 20 "DesertChannels" "tape" "LDesertChannels$Tape;", .fieldLink RX6 66 "DesertChannels$Tape" "length" "I", .methodLink RX6 71 yX5_append, .instanceMethod yX5_append, .selects RX5 yX5_append yX5_append, .initialized RX5, .code yX5_append cX5_append 3 none, .fieldLink RX5 15 "DesertChannels$Tape" "length" "I", .fieldLink RX5 9 "DesertChannels$Tape" "bytes" "[I"] ++ wsX60 ++ wsX50)
def wsX6_end : List Cond := .code yX6_end cX6_end 2 (some .boolean) :: ([.fieldLink RX6 20 "DesertChannels" "tape" "LDesertChannels$Tape;", .fieldLink RX6 66 "DesertChannels$Tape" "length" "I"] ++ wsX60 ++ wsX50)
def wsX6_ground : List Cond := .code yX6_ground cX6_ground 3 none :: ([.classLink RX6 79 "java/lang/IllegalArgumentException", .initialized "java/lang/IllegalArgumentException", .fieldLink RX6 36 "DesertChannels" "head" "I", .fieldLink RX6 39 "DesertChannels" "slope" "I", .methodLink RX6 75 yX6_isWithin, .static yX6_isWithin, .initialized RX6, .code yX6_isWithin cX6_isWithin 3 (some .boolean)] ++ wsX60 ++ (vx_atS RX6 83 "java/lang/IllegalArgumentException" ["java/lang/RuntimeException", "java/lang/Exception"]).filter goodWord)
def wsX6_channel : List Cond := .code yX6_channel cX6_channel 1 (some .int) :: ([.classLink RX6 89 "java/lang/UnsupportedOperationException", .initialized "java/lang/UnsupportedOperationException", .fieldLink RX6 86 "DesertChannels" "channelCount" "I"] ++ wsX60 ++ (vx_atS RX6 93 "java/lang/UnsupportedOperationException" ["java/lang/RuntimeException", "java/lang/Exception"]).filter goodWord)
def wsX6_channelAt : List Cond := .code yX6_channelAt cX6_channelAt 2 (some (.object "DesertChannels$Channel")) :: ([.classLink RX6 304 "java/lang/IndexOutOfBoundsException", .initialized "java/lang/IndexOutOfBoundsException", .fieldLink RX6 86 "DesertChannels" "channelCount" "I", .fieldLink RX6 31 "DesertChannels" "channels" "[LDesertChannels$Channel;"] ++ wsX60 ++ (vx_atS RX6 308 "java/lang/IndexOutOfBoundsException" ["java/lang/RuntimeException", "java/lang/Exception"]).filter goodWord)
def wsX6_undugAt : List Cond := .code yX6_undugAt cX6_undugAt 3 (some (.object "DesertChannels$Channel")) :: ([.classLink RX6 313 "java/lang/IllegalStateException", .initialized "java/lang/IllegalStateException", .methodLink RX6 226 yX6_channelAt, .instanceMethod yX6_channelAt, .selects RX6 yX6_channelAt yX6_channelAt, .initialized RX6, .code yX6_channelAt cX6_channelAt 2 (some (.object "DesertChannels$Channel")), .classLink RX6 304 "java/lang/IndexOutOfBoundsException", .initialized "java/lang/IndexOutOfBoundsException", .fieldLink RX6 86 "DesertChannels" "channelCount" "I", .fieldLink RX6 31 "DesertChannels" "channels" "[LDesertChannels$Channel;", .methodLink RX6 309 yX0_isDug, .instanceMethod yX0_isDug, .selects RX0 yX0_isDug yX0_isDug, .initialized RX0, .code yX0_isDug cX0_isDug 1 (some .boolean), .fieldLink RX0 25 "DesertChannels$Channel" "turn" "I"] ++ wsX60 ++ wsX00 ++ (vx_atS RX6 317 "java/lang/IllegalStateException" ["java/lang/RuntimeException", "java/lang/Exception"]).filter goodWord ++ (vx_atS RX6 308 "java/lang/IndexOutOfBoundsException" ["java/lang/RuntimeException", "java/lang/Exception"]).filter goodWord)
def wsX6_well_r1 : List Cond := [Cond.classLink RX6 79 "java/lang/IllegalArgumentException", Cond.initialized "java/lang/IllegalArgumentException", Cond.classLink RX6 89 "java/lang/UnsupportedOperationException", Cond.initialized "java/lang/UnsupportedOperationException", Cond.fieldLink RX6 104 "DesertChannels$Channel" "wells" "I", Cond.methodLink RX6 94 yX6_undugAt, Cond.instanceMethod yX6_undugAt, Cond.selects RX6 yX6_undugAt yX6_undugAt, Cond.initialized RX6, Cond.code yX6_undugAt cX6_undugAt 3 (some (.object "DesertChannels$Channel")), Cond.classLink RX6 313 "java/lang/IllegalStateException", Cond.initialized "java/lang/IllegalStateException", Cond.methodLink RX6 226 yX6_channelAt, Cond.instanceMethod yX6_channelAt, Cond.selects RX6 yX6_channelAt yX6_channelAt, Cond.code yX6_channelAt cX6_channelAt 2 (some (.object "DesertChannels$Channel")), Cond.classLink RX6 304 "java/lang/IndexOutOfBoundsException", Cond.initialized "java/lang/IndexOutOfBoundsException", Cond.fieldLink RX6 86 "DesertChannels" "channelCount" "I", Cond.fieldLink RX6 31 "DesertChannels" "channels" "[LDesertChannels$Channel;", Cond.methodLink RX6 309 yX0_isDug, Cond.instanceMethod yX0_isDug, Cond.selects RX0 yX0_isDug yX0_isDug, Cond.initialized RX0]
def wsX6_well_r2 : List Cond := [Cond.code yX0_isDug cX0_isDug 1 (some .boolean), Cond.fieldLink RX0 25 "DesertChannels$Channel" "turn" "I", Cond.methodLink RX6 75 yX6_isWithin, Cond.static yX6_isWithin, Cond.code yX6_isWithin cX6_isWithin 3 (some .boolean), Cond.methodLink RX6 98 yX0_lastFloor, Cond.instanceMethod yX0_lastFloor, Cond.selects RX0 yX0_lastFloor yX0_lastFloor, Cond.code yX0_lastFloor cX0_lastFloor 1 (some .int), Cond.fieldLink RX0 29 "DesertChannels$Channel" "wells" "I", Cond.fieldLink RX0 18 "DesertChannels$Channel" "floor" "[I", Cond.methodLink RX6 109 yX0_addWell, Cond.instanceMethod yX0_addWell, Cond.selects RX0 yX0_addWell yX0_addWell, Cond.code yX0_addWell cX0_addWell 4 none, Cond.fieldLink RX0 9 "DesertChannels$Channel" "x" "[I", Cond.fieldLink RX0 15 "DesertChannels$Channel" "y" "[I"]
def wsX6_well : List Cond := .code yX6_well cX6_well 6 (some .int) :: ((wsX6_well_r1 ++ wsX6_well_r2) ++ wsX00 ++ wsX60 ++ (vx_atS RX6 83 "java/lang/IllegalArgumentException" ["java/lang/RuntimeException", "java/lang/Exception"]).filter goodWord ++ (vx_atS RX6 93 "java/lang/UnsupportedOperationException" ["java/lang/RuntimeException", "java/lang/Exception"]).filter goodWord ++ (vx_atS RX6 317 "java/lang/IllegalStateException" ["java/lang/RuntimeException", "java/lang/Exception"]).filter goodWord ++ (vx_atS RX6 308 "java/lang/IndexOutOfBoundsException" ["java/lang/RuntimeException", "java/lang/Exception"]).filter goodWord)
def wsX6_kingSteps : List Cond := .code yX6_kingSteps cX6_kingSteps 4 (some .int) :: ([.methodLink RX6 296 Lib.Math.abs.name, .static Lib.Math.abs.name, .initialized "java/lang/Math", .code Lib.Math.abs.name Lib.Math.abs.code 1 (some .int), .methodLink RX6 301 Lib.Math.max.name, .static Lib.Math.max.name, .code Lib.Math.max.name Lib.Math.max.code 2 (some .int)])
def wsX6_isClearOf : List Cond := .code yX6_isClearOf cX6_isClearOf 6 (some .boolean) :: ([.fieldLink RX6 104 "DesertChannels$Channel" "wells" "I", .fieldLink RX6 330 "DesertChannels$Channel" "x" "[I", .fieldLink RX6 333 "DesertChannels$Channel" "y" "[I", .fieldLink RX6 21 "DesertChannels" "lawNow" "[I", .fieldLink RX6 340 "DesertChannels$Channel" "floor" "[I", .methodLink RX6 336 yX6_kingSteps, .static yX6_kingSteps, .initialized RX6, .code yX6_kingSteps cX6_kingSteps 4 (some .int), .methodLink RX6 296 Lib.Math.abs.name, .static Lib.Math.abs.name, .initialized "java/lang/Math", .code Lib.Math.abs.name Lib.Math.abs.code 1 (some .int), .methodLink RX6 301 Lib.Math.max.name, .static Lib.Math.max.name, .code Lib.Math.max.name Lib.Math.max.code 2 (some .int)] ++ wsX00 ++ wsX60)
def wsX6_isAllowed_r1 : List Cond := [Cond.fieldLink RX6 104 "DesertChannels$Channel" "wells" "I", Cond.fieldLink RX6 86 "DesertChannels" "channelCount" "I", Cond.fieldLink RX6 31 "DesertChannels" "channels" "[LDesertChannels$Channel;", Cond.methodLink RX6 309 yX0_isDug, Cond.instanceMethod yX0_isDug, Cond.selects RX0 yX0_isDug yX0_isDug, Cond.initialized RX0, Cond.code yX0_isDug cX0_isDug 1 (some .boolean), Cond.fieldLink RX0 25 "DesertChannels$Channel" "turn" "I", Cond.methodLink RX6 326 yX6_isClearOf, Cond.instanceMethod yX6_isClearOf, Cond.selects RX6 yX6_isClearOf yX6_isClearOf, Cond.initialized RX6, Cond.code yX6_isClearOf cX6_isClearOf 6 (some .boolean), Cond.fieldLink RX6 330 "DesertChannels$Channel" "x" "[I", Cond.fieldLink RX6 333 "DesertChannels$Channel" "y" "[I", Cond.fieldLink RX6 21 "DesertChannels" "lawNow" "[I", Cond.fieldLink RX6 340 "DesertChannels$Channel" "floor" "[I", Cond.methodLink RX6 336 yX6_kingSteps, Cond.static yX6_kingSteps, Cond.code yX6_kingSteps cX6_kingSteps 4 (some .int), Cond.methodLink RX6 296 Lib.Math.abs.name, Cond.static Lib.Math.abs.name, Cond.initialized "java/lang/Math"]
def wsX6_isAllowed_r2 : List Cond := [Cond.code Lib.Math.abs.name Lib.Math.abs.code 1 (some .int), Cond.methodLink RX6 301 Lib.Math.max.name, Cond.static Lib.Math.max.name, Cond.code Lib.Math.max.name Lib.Math.max.code 2 (some .int)]
def wsX6_isAllowed : List Cond := .code yX6_isAllowed cX6_isAllowed 4 (some .boolean) :: ((wsX6_isAllowed_r1 ++ wsX6_isAllowed_r2) ++ wsX00 ++ wsX60)
def wsX6_may_r1 : List Cond := [Cond.methodLink RX6 94 yX6_undugAt, Cond.instanceMethod yX6_undugAt, Cond.selects RX6 yX6_undugAt yX6_undugAt, Cond.initialized RX6, Cond.code yX6_undugAt cX6_undugAt 3 (some (.object "DesertChannels$Channel")), Cond.classLink RX6 313 "java/lang/IllegalStateException", Cond.initialized "java/lang/IllegalStateException", Cond.methodLink RX6 226 yX6_channelAt, Cond.instanceMethod yX6_channelAt, Cond.selects RX6 yX6_channelAt yX6_channelAt, Cond.code yX6_channelAt cX6_channelAt 2 (some (.object "DesertChannels$Channel")), Cond.classLink RX6 304 "java/lang/IndexOutOfBoundsException", Cond.initialized "java/lang/IndexOutOfBoundsException", Cond.fieldLink RX6 86 "DesertChannels" "channelCount" "I", Cond.fieldLink RX6 31 "DesertChannels" "channels" "[LDesertChannels$Channel;", Cond.methodLink RX6 309 yX0_isDug, Cond.instanceMethod yX0_isDug, Cond.selects RX0 yX0_isDug yX0_isDug, Cond.initialized RX0, Cond.code yX0_isDug cX0_isDug 1 (some .boolean), Cond.fieldLink RX0 25 "DesertChannels$Channel" "turn" "I", Cond.methodLink RX6 113 yX6_isAllowed, Cond.instanceMethod yX6_isAllowed, Cond.selects RX6 yX6_isAllowed yX6_isAllowed]
def wsX6_may_r2 : List Cond := [Cond.code yX6_isAllowed cX6_isAllowed 4 (some .boolean), Cond.fieldLink RX6 104 "DesertChannels$Channel" "wells" "I", Cond.methodLink RX6 326 yX6_isClearOf, Cond.instanceMethod yX6_isClearOf, Cond.selects RX6 yX6_isClearOf yX6_isClearOf, Cond.code yX6_isClearOf cX6_isClearOf 6 (some .boolean), Cond.fieldLink RX6 330 "DesertChannels$Channel" "x" "[I", Cond.fieldLink RX6 333 "DesertChannels$Channel" "y" "[I", Cond.fieldLink RX6 21 "DesertChannels" "lawNow" "[I", Cond.fieldLink RX6 340 "DesertChannels$Channel" "floor" "[I", Cond.methodLink RX6 336 yX6_kingSteps, Cond.static yX6_kingSteps, Cond.code yX6_kingSteps cX6_kingSteps 4 (some .int), Cond.methodLink RX6 296 Lib.Math.abs.name, Cond.static Lib.Math.abs.name, Cond.initialized "java/lang/Math", Cond.code Lib.Math.abs.name Lib.Math.abs.code 1 (some .int), Cond.methodLink RX6 301 Lib.Math.max.name, Cond.static Lib.Math.max.name, Cond.code Lib.Math.max.name Lib.Math.max.code 2 (some .int)]
def wsX6_may : List Cond := .code yX6_may cX6_may 2 (some .boolean) :: ((wsX6_may_r1 ++ wsX6_may_r2) ++ wsX60 ++ wsX00 ++ (vx_atS RX6 317 "java/lang/IllegalStateException" ["java/lang/RuntimeException", "java/lang/Exception"]).filter goodWord ++ (vx_atS RX6 308 "java/lang/IndexOutOfBoundsException" ["java/lang/RuntimeException", "java/lang/Exception"]).filter goodWord)
def wsX6_addShare : List Cond := .code yX6_addShare cX6_addShare 5 none :: ([.fieldLink RX6 123 "DesertChannels" "shareCount" "I", .fieldLink RX6 44 "DesertChannels" "shares" "[LDesertChannels$Share;", .methodLink RX6 189 yX4_become, .instanceMethod yX4_become, .selects RX4 yX4_become yX4_become, .initialized RX4, .code yX4_become cX4_become 5 none, .fieldLink RX4 9 "DesertChannels$Share" "channel" "I", .fieldLink RX4 15 "DesertChannels$Share" "from" "I", .fieldLink RX4 18 "DesertChannels$Share" "to" "I", .fieldLink RX4 21 "DesertChannels$Share" "owner" "I", .fieldLink RX4 24 "DesertChannels$Share" "tenant" "I", .fieldLink RX4 27 "DesertChannels$Share" "letFrom" "I", .fieldLink RX4 30 "DesertChannels$Share" "letTo" "I"] ++ wsX60 ++ wsX40)
def wsX6_dig_r1 : List Cond := [Cond.classLink RX6 79 "java/lang/IllegalArgumentException", Cond.initialized "java/lang/IllegalArgumentException", Cond.fieldLink RX6 123 "DesertChannels" "shareCount" "I", Cond.fieldLink RX6 126 "DesertChannels$Channel" "turn" "I", Cond.fieldLink RX6 129 "DesertChannels" "year" "I", Cond.fieldLink RX6 132 "DesertChannels$Channel" "dugYear" "I", Cond.fieldLink RX6 135 "DesertChannels" "dugCount" "I", Cond.fieldLink RX6 138 "DesertChannels$Channel" "dugOrder" "I", Cond.methodLink RX6 94 yX6_undugAt, Cond.instanceMethod yX6_undugAt, Cond.selects RX6 yX6_undugAt yX6_undugAt, Cond.initialized RX6, Cond.code yX6_undugAt cX6_undugAt 3 (some (.object "DesertChannels$Channel")), Cond.classLink RX6 313 "java/lang/IllegalStateException", Cond.initialized "java/lang/IllegalStateException", Cond.methodLink RX6 226 yX6_channelAt, Cond.instanceMethod yX6_channelAt, Cond.selects RX6 yX6_channelAt yX6_channelAt, Cond.code yX6_channelAt cX6_channelAt 2 (some (.object "DesertChannels$Channel")), Cond.classLink RX6 304 "java/lang/IndexOutOfBoundsException", Cond.initialized "java/lang/IndexOutOfBoundsException", Cond.fieldLink RX6 86 "DesertChannels" "channelCount" "I", Cond.fieldLink RX6 31 "DesertChannels" "channels" "[LDesertChannels$Channel;", Cond.methodLink RX6 309 yX0_isDug]
def wsX6_dig_r2 : List Cond := [Cond.instanceMethod yX0_isDug, Cond.selects RX0 yX0_isDug yX0_isDug, Cond.initialized RX0, Cond.code yX0_isDug cX0_isDug 1 (some .boolean), Cond.fieldLink RX0 25 "DesertChannels$Channel" "turn" "I", Cond.methodLink RX6 117 yX6_isOwner, Cond.static yX6_isOwner, Cond.code yX6_isOwner cX6_isOwner 1 (some .boolean), Cond.methodLink RX6 75 yX6_isWithin, Cond.static yX6_isWithin, Cond.code yX6_isWithin cX6_isWithin 3 (some .boolean), Cond.methodLink RX6 113 yX6_isAllowed, Cond.instanceMethod yX6_isAllowed, Cond.selects RX6 yX6_isAllowed yX6_isAllowed, Cond.code yX6_isAllowed cX6_isAllowed 4 (some .boolean), Cond.fieldLink RX6 104 "DesertChannels$Channel" "wells" "I", Cond.methodLink RX6 326 yX6_isClearOf, Cond.instanceMethod yX6_isClearOf, Cond.selects RX6 yX6_isClearOf yX6_isClearOf, Cond.code yX6_isClearOf cX6_isClearOf 6 (some .boolean), Cond.fieldLink RX6 330 "DesertChannels$Channel" "x" "[I", Cond.fieldLink RX6 333 "DesertChannels$Channel" "y" "[I", Cond.fieldLink RX6 21 "DesertChannels" "lawNow" "[I", Cond.fieldLink RX6 340 "DesertChannels$Channel" "floor" "[I"]
def wsX6_dig_r3 : List Cond := [Cond.methodLink RX6 336 yX6_kingSteps, Cond.static yX6_kingSteps, Cond.code yX6_kingSteps cX6_kingSteps 4 (some .int), Cond.methodLink RX6 296 Lib.Math.abs.name, Cond.static Lib.Math.abs.name, Cond.initialized "java/lang/Math", Cond.code Lib.Math.abs.name Lib.Math.abs.code 1 (some .int), Cond.methodLink RX6 301 Lib.Math.max.name, Cond.static Lib.Math.max.name, Cond.code Lib.Math.max.name Lib.Math.max.code 2 (some .int), Cond.methodLink RX6 141 yX6_addShare, Cond.instanceMethod yX6_addShare, Cond.selects RX6 yX6_addShare yX6_addShare, Cond.code yX6_addShare cX6_addShare 5 none, Cond.fieldLink RX6 44 "DesertChannels" "shares" "[LDesertChannels$Share;", Cond.methodLink RX6 189 yX4_become, Cond.instanceMethod yX4_become, Cond.selects RX4 yX4_become yX4_become, Cond.initialized RX4, Cond.code yX4_become cX4_become 5 none, Cond.fieldLink RX4 9 "DesertChannels$Share" "channel" "I", Cond.fieldLink RX4 15 "DesertChannels$Share" "from" "I", Cond.fieldLink RX4 18 "DesertChannels$Share" "to" "I", Cond.fieldLink RX4 21 "DesertChannels$Share" "owner" "I"]
def wsX6_dig_r4 : List Cond := [Cond.fieldLink RX4 24 "DesertChannels$Share" "tenant" "I", Cond.fieldLink RX4 27 "DesertChannels$Share" "letFrom" "I", Cond.fieldLink RX4 30 "DesertChannels$Share" "letTo" "I"]
def wsX6_dig : List Cond := .code yX6_dig cX6_dig 5 (some .int) :: ((wsX6_dig_r1 ++ (wsX6_dig_r2 ++ (wsX6_dig_r3 ++ wsX6_dig_r4))) ++ wsX60 ++ wsX00 ++ wsX40 ++ (vx_atS RX6 83 "java/lang/IllegalArgumentException" ["java/lang/RuntimeException", "java/lang/Exception"]).filter goodWord ++ (vx_atS RX6 317 "java/lang/IllegalStateException" ["java/lang/RuntimeException", "java/lang/Exception"]).filter goodWord ++ (vx_atS RX6 308 "java/lang/IndexOutOfBoundsException" ["java/lang/RuntimeException", "java/lang/Exception"]).filter goodWord)
def wsX6_years : List Cond := .code yX6_years cX6_years 2 (some .int) :: ([.classLink RX6 79 "java/lang/IllegalArgumentException", .initialized "java/lang/IllegalArgumentException", .fieldLink RX6 129 "DesertChannels" "year" "I", .methodLink RX6 75 yX6_isWithin, .static yX6_isWithin, .initialized RX6, .code yX6_isWithin cX6_isWithin 3 (some .boolean)] ++ wsX60 ++ (vx_atS RX6 83 "java/lang/IllegalArgumentException" ["java/lang/RuntimeException", "java/lang/Exception"]).filter goodWord)
def wsX6_dugWithWell : List Cond := .code yX6_dugWithWell cX6_dugWithWell 4 (some (.object "DesertChannels$Channel")) :: ([.classLink RX6 304 "java/lang/IndexOutOfBoundsException", .initialized "java/lang/IndexOutOfBoundsException", .classLink RX6 313 "java/lang/IllegalStateException", .initialized "java/lang/IllegalStateException", .fieldLink RX6 104 "DesertChannels$Channel" "wells" "I", .methodLink RX6 226 yX6_channelAt, .instanceMethod yX6_channelAt, .selects RX6 yX6_channelAt yX6_channelAt, .initialized RX6, .code yX6_channelAt cX6_channelAt 2 (some (.object "DesertChannels$Channel")), .fieldLink RX6 86 "DesertChannels" "channelCount" "I", .fieldLink RX6 31 "DesertChannels" "channels" "[LDesertChannels$Channel;", .methodLink RX6 309 yX0_isDug, .instanceMethod yX0_isDug, .selects RX0 yX0_isDug yX0_isDug, .initialized RX0, .code yX0_isDug cX0_isDug 1 (some .boolean), .fieldLink RX0 25 "DesertChannels$Channel" "turn" "I"] ++ wsX00 ++ wsX60 ++ (vx_atS RX6 308 "java/lang/IndexOutOfBoundsException" ["java/lang/RuntimeException", "java/lang/Exception"]).filter goodWord ++ (vx_atS RX6 317 "java/lang/IllegalStateException" ["java/lang/RuntimeException", "java/lang/Exception"]).filter goodWord)
def wsX6_collapse : List Cond := .code yX6_collapse cX6_collapse 6 (some .boolean) :: ([.fieldLink RX6 151 "DesertChannels$Channel" "collapsed" "[Z", .methodLink RX6 147 yX6_dugWithWell, .instanceMethod yX6_dugWithWell, .selects RX6 yX6_dugWithWell yX6_dugWithWell, .initialized RX6, .code yX6_dugWithWell cX6_dugWithWell 4 (some (.object "DesertChannels$Channel")), .classLink RX6 304 "java/lang/IndexOutOfBoundsException", .initialized "java/lang/IndexOutOfBoundsException", .classLink RX6 313 "java/lang/IllegalStateException", .initialized "java/lang/IllegalStateException", .fieldLink RX6 104 "DesertChannels$Channel" "wells" "I", .methodLink RX6 226 yX6_channelAt, .instanceMethod yX6_channelAt, .selects RX6 yX6_channelAt yX6_channelAt, .code yX6_channelAt cX6_channelAt 2 (some (.object "DesertChannels$Channel")), .fieldLink RX6 86 "DesertChannels" "channelCount" "I", .fieldLink RX6 31 "DesertChannels" "channels" "[LDesertChannels$Channel;", .methodLink RX6 309 yX0_isDug, .instanceMethod yX0_isDug, .selects RX0 yX0_isDug yX0_isDug, .initialized RX0, .code yX0_isDug cX0_isDug 1 (some .boolean), .fieldLink RX0 25 "DesertChannels$Channel" "turn" "I"] ++ wsX00 ++ wsX60 ++ (vx_atS RX6 308 "java/lang/IndexOutOfBoundsException" ["java/lang/RuntimeException", "java/lang/Exception"]).filter goodWord ++ (vx_atS RX6 317 "java/lang/IllegalStateException" ["java/lang/RuntimeException", "java/lang/Exception"]).filter goodWord)
def wsX6_dugAt : List Cond := .code yX6_dugAt cX6_dugAt 3 (some (.object "DesertChannels$Channel")) :: ([.classLink RX6 313 "java/lang/IllegalStateException", .initialized "java/lang/IllegalStateException", .methodLink RX6 226 yX6_channelAt, .instanceMethod yX6_channelAt, .selects RX6 yX6_channelAt yX6_channelAt, .initialized RX6, .code yX6_channelAt cX6_channelAt 2 (some (.object "DesertChannels$Channel")), .classLink RX6 304 "java/lang/IndexOutOfBoundsException", .initialized "java/lang/IndexOutOfBoundsException", .fieldLink RX6 86 "DesertChannels" "channelCount" "I", .fieldLink RX6 31 "DesertChannels" "channels" "[LDesertChannels$Channel;", .methodLink RX6 309 yX0_isDug, .instanceMethod yX0_isDug, .selects RX0 yX0_isDug yX0_isDug, .initialized RX0, .code yX0_isDug cX0_isDug 1 (some .boolean), .fieldLink RX0 25 "DesertChannels$Channel" "turn" "I"] ++ wsX60 ++ wsX00 ++ (vx_atS RX6 317 "java/lang/IllegalStateException" ["java/lang/RuntimeException", "java/lang/Exception"]).filter goodWord ++ (vx_atS RX6 308 "java/lang/IndexOutOfBoundsException" ["java/lang/RuntimeException", "java/lang/Exception"]).filter goodWord)
def wsX6_drawAt : List Cond := .code yX6_drawAt cX6_drawAt 7 (some .int) :: ([.fieldLink RX6 330 "DesertChannels$Channel" "x" "[I", .fieldLink RX6 333 "DesertChannels$Channel" "y" "[I", .methodLink RX6 301 Lib.Math.max.name, .static Lib.Math.max.name, .initialized "java/lang/Math", .code Lib.Math.max.name Lib.Math.max.code 2 (some .int), .fieldLink RX6 129 "DesertChannels" "year" "I", .fieldLink RX6 132 "DesertChannels$Channel" "dugYear" "I", .methodLink RX6 162 yX0_runningWells, .instanceMethod yX0_runningWells, .selects RX0 yX0_runningWells yX0_runningWells, .initialized RX0, .code yX0_runningWells cX0_runningWells 2 (some .int), .fieldLink RX0 29 "DesertChannels$Channel" "wells" "I", .fieldLink RX0 21 "DesertChannels$Channel" "collapsed" "[Z", .methodLink RX6 336 yX6_kingSteps, .static yX6_kingSteps, .initialized RX6, .code yX6_kingSteps cX6_kingSteps 4 (some .int), .methodLink RX6 296 Lib.Math.abs.name, .static Lib.Math.abs.name, .code Lib.Math.abs.name Lib.Math.abs.code 1 (some .int)] ++ wsX00 ++ wsX60)
def wsX6_seepAt_r1 : List Cond := [Cond.fieldLink RX6 36 "DesertChannels" "head" "I", Cond.fieldLink RX6 39 "DesertChannels" "slope" "I", Cond.fieldLink RX6 330 "DesertChannels$Channel" "x" "[I", Cond.fieldLink RX6 86 "DesertChannels" "channelCount" "I", Cond.fieldLink RX6 31 "DesertChannels" "channels" "[LDesertChannels$Channel;", Cond.fieldLink RX6 138 "DesertChannels$Channel" "dugOrder" "I", Cond.fieldLink RX6 333 "DesertChannels$Channel" "y" "[I", Cond.fieldLink RX6 340 "DesertChannels$Channel" "floor" "[I", Cond.methodLink RX6 346 Lib.Math.min.name, Cond.static Lib.Math.min.name, Cond.initialized "java/lang/Math", Cond.code Lib.Math.min.name Lib.Math.min.code 2 (some .int), Cond.methodLink RX6 301 Lib.Math.max.name, Cond.static Lib.Math.max.name, Cond.code Lib.Math.max.name Lib.Math.max.code 2 (some .int), Cond.methodLink RX6 309 yX0_isDug, Cond.instanceMethod yX0_isDug, Cond.selects RX0 yX0_isDug yX0_isDug, Cond.initialized RX0, Cond.code yX0_isDug cX0_isDug 1 (some .boolean), Cond.fieldLink RX0 25 "DesertChannels$Channel" "turn" "I", Cond.methodLink RX6 343 yX6_drawAt, Cond.instanceMethod yX6_drawAt, Cond.selects RX6 yX6_drawAt yX6_drawAt]
def wsX6_seepAt_r2 : List Cond := [Cond.initialized RX6, Cond.code yX6_drawAt cX6_drawAt 7 (some .int), Cond.fieldLink RX6 129 "DesertChannels" "year" "I", Cond.fieldLink RX6 132 "DesertChannels$Channel" "dugYear" "I", Cond.methodLink RX6 162 yX0_runningWells, Cond.instanceMethod yX0_runningWells, Cond.selects RX0 yX0_runningWells yX0_runningWells, Cond.code yX0_runningWells cX0_runningWells 2 (some .int), Cond.fieldLink RX0 29 "DesertChannels$Channel" "wells" "I", Cond.fieldLink RX0 21 "DesertChannels$Channel" "collapsed" "[Z", Cond.methodLink RX6 336 yX6_kingSteps, Cond.static yX6_kingSteps, Cond.code yX6_kingSteps cX6_kingSteps 4 (some .int), Cond.methodLink RX6 296 Lib.Math.abs.name, Cond.static Lib.Math.abs.name, Cond.code Lib.Math.abs.name Lib.Math.abs.code 1 (some .int)]
def wsX6_seepAt : List Cond := .code yX6_seepAt cX6_seepAt 7 (some .int) :: ((wsX6_seepAt_r1 ++ wsX6_seepAt_r2) ++ wsX60 ++ wsX00)
def wsX6_flowOf_r1 : List Cond := [Cond.methodLink RX6 162 yX0_runningWells, Cond.instanceMethod yX0_runningWells, Cond.selects RX0 yX0_runningWells yX0_runningWells, Cond.initialized RX0, Cond.code yX0_runningWells cX0_runningWells 2 (some .int), Cond.fieldLink RX0 29 "DesertChannels$Channel" "wells" "I", Cond.fieldLink RX0 21 "DesertChannels$Channel" "collapsed" "[Z", Cond.methodLink RX6 165 yX6_seepAt, Cond.instanceMethod yX6_seepAt, Cond.selects RX6 yX6_seepAt yX6_seepAt, Cond.initialized RX6, Cond.code yX6_seepAt cX6_seepAt 7 (some .int), Cond.fieldLink RX6 36 "DesertChannels" "head" "I", Cond.fieldLink RX6 39 "DesertChannels" "slope" "I", Cond.fieldLink RX6 330 "DesertChannels$Channel" "x" "[I", Cond.fieldLink RX6 86 "DesertChannels" "channelCount" "I", Cond.fieldLink RX6 31 "DesertChannels" "channels" "[LDesertChannels$Channel;", Cond.fieldLink RX6 138 "DesertChannels$Channel" "dugOrder" "I", Cond.fieldLink RX6 333 "DesertChannels$Channel" "y" "[I", Cond.fieldLink RX6 340 "DesertChannels$Channel" "floor" "[I", Cond.methodLink RX6 346 Lib.Math.min.name, Cond.static Lib.Math.min.name, Cond.initialized "java/lang/Math", Cond.code Lib.Math.min.name Lib.Math.min.code 2 (some .int)]
def wsX6_flowOf_r2 : List Cond := [Cond.methodLink RX6 301 Lib.Math.max.name, Cond.static Lib.Math.max.name, Cond.code Lib.Math.max.name Lib.Math.max.code 2 (some .int), Cond.methodLink RX6 309 yX0_isDug, Cond.instanceMethod yX0_isDug, Cond.selects RX0 yX0_isDug yX0_isDug, Cond.code yX0_isDug cX0_isDug 1 (some .boolean), Cond.fieldLink RX0 25 "DesertChannels$Channel" "turn" "I", Cond.methodLink RX6 343 yX6_drawAt, Cond.instanceMethod yX6_drawAt, Cond.selects RX6 yX6_drawAt yX6_drawAt, Cond.code yX6_drawAt cX6_drawAt 7 (some .int), Cond.fieldLink RX6 129 "DesertChannels" "year" "I", Cond.fieldLink RX6 132 "DesertChannels$Channel" "dugYear" "I", Cond.methodLink RX6 336 yX6_kingSteps, Cond.static yX6_kingSteps, Cond.code yX6_kingSteps cX6_kingSteps 4 (some .int), Cond.methodLink RX6 296 Lib.Math.abs.name, Cond.static Lib.Math.abs.name, Cond.code Lib.Math.abs.name Lib.Math.abs.code 1 (some .int), Cond.methodLink RX6 349 yX0_leaksBelow, Cond.instanceMethod yX0_leaksBelow, Cond.selects RX0 yX0_leaksBelow yX0_leaksBelow, Cond.code yX0_leaksBelow cX0_leaksBelow 3 (some .boolean)]
def wsX6_flowOf_r3 : List Cond := [Cond.fieldLink RX0 18 "DesertChannels$Channel" "floor" "[I"]
def wsX6_flowOf : List Cond := .code yX6_flowOf cX6_flowOf 5 (some .int) :: ((wsX6_flowOf_r1 ++ (wsX6_flowOf_r2 ++ wsX6_flowOf_r3)) ++ wsX00 ++ wsX60)
def wsX6_flow_r1 : List Cond := [Cond.fieldLink RX6 135 "DesertChannels" "dugCount" "I", Cond.methodLink RX6 155 yX6_dugAt, Cond.instanceMethod yX6_dugAt, Cond.selects RX6 yX6_dugAt yX6_dugAt, Cond.initialized RX6, Cond.code yX6_dugAt cX6_dugAt 3 (some (.object "DesertChannels$Channel")), Cond.classLink RX6 313 "java/lang/IllegalStateException", Cond.initialized "java/lang/IllegalStateException", Cond.methodLink RX6 226 yX6_channelAt, Cond.instanceMethod yX6_channelAt, Cond.selects RX6 yX6_channelAt yX6_channelAt, Cond.code yX6_channelAt cX6_channelAt 2 (some (.object "DesertChannels$Channel")), Cond.classLink RX6 304 "java/lang/IndexOutOfBoundsException", Cond.initialized "java/lang/IndexOutOfBoundsException", Cond.fieldLink RX6 86 "DesertChannels" "channelCount" "I", Cond.fieldLink RX6 31 "DesertChannels" "channels" "[LDesertChannels$Channel;", Cond.methodLink RX6 309 yX0_isDug, Cond.instanceMethod yX0_isDug, Cond.selects RX0 yX0_isDug yX0_isDug, Cond.initialized RX0, Cond.code yX0_isDug cX0_isDug 1 (some .boolean), Cond.fieldLink RX0 25 "DesertChannels$Channel" "turn" "I", Cond.methodLink RX6 158 yX6_flowOf, Cond.instanceMethod yX6_flowOf]
def wsX6_flow_r2 : List Cond := [Cond.selects RX6 yX6_flowOf yX6_flowOf, Cond.code yX6_flowOf cX6_flowOf 5 (some .int), Cond.methodLink RX6 162 yX0_runningWells, Cond.instanceMethod yX0_runningWells, Cond.selects RX0 yX0_runningWells yX0_runningWells, Cond.code yX0_runningWells cX0_runningWells 2 (some .int), Cond.fieldLink RX0 29 "DesertChannels$Channel" "wells" "I", Cond.fieldLink RX0 21 "DesertChannels$Channel" "collapsed" "[Z", Cond.methodLink RX6 165 yX6_seepAt, Cond.instanceMethod yX6_seepAt, Cond.selects RX6 yX6_seepAt yX6_seepAt, Cond.code yX6_seepAt cX6_seepAt 7 (some .int), Cond.fieldLink RX6 36 "DesertChannels" "head" "I", Cond.fieldLink RX6 39 "DesertChannels" "slope" "I", Cond.fieldLink RX6 330 "DesertChannels$Channel" "x" "[I", Cond.fieldLink RX6 138 "DesertChannels$Channel" "dugOrder" "I", Cond.fieldLink RX6 333 "DesertChannels$Channel" "y" "[I", Cond.fieldLink RX6 340 "DesertChannels$Channel" "floor" "[I", Cond.methodLink RX6 346 Lib.Math.min.name, Cond.static Lib.Math.min.name, Cond.initialized "java/lang/Math", Cond.code Lib.Math.min.name Lib.Math.min.code 2 (some .int), Cond.methodLink RX6 301 Lib.Math.max.name, Cond.static Lib.Math.max.name]
def wsX6_flow_r3 : List Cond := [Cond.code Lib.Math.max.name Lib.Math.max.code 2 (some .int), Cond.methodLink RX6 343 yX6_drawAt, Cond.instanceMethod yX6_drawAt, Cond.selects RX6 yX6_drawAt yX6_drawAt, Cond.code yX6_drawAt cX6_drawAt 7 (some .int), Cond.fieldLink RX6 129 "DesertChannels" "year" "I", Cond.fieldLink RX6 132 "DesertChannels$Channel" "dugYear" "I", Cond.methodLink RX6 336 yX6_kingSteps, Cond.static yX6_kingSteps, Cond.code yX6_kingSteps cX6_kingSteps 4 (some .int), Cond.methodLink RX6 296 Lib.Math.abs.name, Cond.static Lib.Math.abs.name, Cond.code Lib.Math.abs.name Lib.Math.abs.code 1 (some .int), Cond.methodLink RX6 349 yX0_leaksBelow, Cond.instanceMethod yX0_leaksBelow, Cond.selects RX0 yX0_leaksBelow yX0_leaksBelow, Cond.code yX0_leaksBelow cX0_leaksBelow 3 (some .boolean), Cond.fieldLink RX0 18 "DesertChannels$Channel" "floor" "[I"]
def wsX6_flow : List Cond := .code yX6_flow cX6_flow 2 (some .int) :: ((wsX6_flow_r1 ++ (wsX6_flow_r2 ++ wsX6_flow_r3)) ++ wsX60 ++ wsX00 ++ (vx_atS RX6 317 "java/lang/IllegalStateException" ["java/lang/RuntimeException", "java/lang/Exception"]).filter goodWord ++ (vx_atS RX6 308 "java/lang/IndexOutOfBoundsException" ["java/lang/RuntimeException", "java/lang/Exception"]).filter goodWord)
def wsX6_harm_r1 : List Cond := [Cond.fieldLink RX6 138 "DesertChannels$Channel" "dugOrder" "I", Cond.fieldLink RX6 135 "DesertChannels" "dugCount" "I", Cond.methodLink RX6 155 yX6_dugAt, Cond.instanceMethod yX6_dugAt, Cond.selects RX6 yX6_dugAt yX6_dugAt, Cond.initialized RX6, Cond.code yX6_dugAt cX6_dugAt 3 (some (.object "DesertChannels$Channel")), Cond.classLink RX6 313 "java/lang/IllegalStateException", Cond.initialized "java/lang/IllegalStateException", Cond.methodLink RX6 226 yX6_channelAt, Cond.instanceMethod yX6_channelAt, Cond.selects RX6 yX6_channelAt yX6_channelAt, Cond.code yX6_channelAt cX6_channelAt 2 (some (.object "DesertChannels$Channel")), Cond.classLink RX6 304 "java/lang/IndexOutOfBoundsException", Cond.initialized "java/lang/IndexOutOfBoundsException", Cond.fieldLink RX6 86 "DesertChannels" "channelCount" "I", Cond.fieldLink RX6 31 "DesertChannels" "channels" "[LDesertChannels$Channel;", Cond.methodLink RX6 309 yX0_isDug, Cond.instanceMethod yX0_isDug, Cond.selects RX0 yX0_isDug yX0_isDug, Cond.initialized RX0, Cond.code yX0_isDug cX0_isDug 1 (some .boolean), Cond.fieldLink RX0 25 "DesertChannels$Channel" "turn" "I", Cond.methodLink RX6 158 yX6_flowOf]
def wsX6_harm_r2 : List Cond := [Cond.instanceMethod yX6_flowOf, Cond.selects RX6 yX6_flowOf yX6_flowOf, Cond.code yX6_flowOf cX6_flowOf 5 (some .int), Cond.methodLink RX6 162 yX0_runningWells, Cond.instanceMethod yX0_runningWells, Cond.selects RX0 yX0_runningWells yX0_runningWells, Cond.code yX0_runningWells cX0_runningWells 2 (some .int), Cond.fieldLink RX0 29 "DesertChannels$Channel" "wells" "I", Cond.fieldLink RX0 21 "DesertChannels$Channel" "collapsed" "[Z", Cond.methodLink RX6 165 yX6_seepAt, Cond.instanceMethod yX6_seepAt, Cond.selects RX6 yX6_seepAt yX6_seepAt, Cond.code yX6_seepAt cX6_seepAt 7 (some .int), Cond.fieldLink RX6 36 "DesertChannels" "head" "I", Cond.fieldLink RX6 39 "DesertChannels" "slope" "I", Cond.fieldLink RX6 330 "DesertChannels$Channel" "x" "[I", Cond.fieldLink RX6 333 "DesertChannels$Channel" "y" "[I", Cond.fieldLink RX6 340 "DesertChannels$Channel" "floor" "[I", Cond.methodLink RX6 346 Lib.Math.min.name, Cond.static Lib.Math.min.name, Cond.initialized "java/lang/Math", Cond.code Lib.Math.min.name Lib.Math.min.code 2 (some .int), Cond.methodLink RX6 301 Lib.Math.max.name, Cond.static Lib.Math.max.name]
def wsX6_harm_r3 : List Cond := [Cond.code Lib.Math.max.name Lib.Math.max.code 2 (some .int), Cond.methodLink RX6 343 yX6_drawAt, Cond.instanceMethod yX6_drawAt, Cond.selects RX6 yX6_drawAt yX6_drawAt, Cond.code yX6_drawAt cX6_drawAt 7 (some .int), Cond.fieldLink RX6 129 "DesertChannels" "year" "I", Cond.fieldLink RX6 132 "DesertChannels$Channel" "dugYear" "I", Cond.methodLink RX6 336 yX6_kingSteps, Cond.static yX6_kingSteps, Cond.code yX6_kingSteps cX6_kingSteps 4 (some .int), Cond.methodLink RX6 296 Lib.Math.abs.name, Cond.static Lib.Math.abs.name, Cond.code Lib.Math.abs.name Lib.Math.abs.code 1 (some .int), Cond.methodLink RX6 349 yX0_leaksBelow, Cond.instanceMethod yX0_leaksBelow, Cond.selects RX0 yX0_leaksBelow yX0_leaksBelow, Cond.code yX0_leaksBelow cX0_leaksBelow 3 (some .boolean), Cond.fieldLink RX0 18 "DesertChannels$Channel" "floor" "[I"]
def wsX6_harm : List Cond := .code yX6_harm cX6_harm 3 (some .int) :: ((wsX6_harm_r1 ++ (wsX6_harm_r2 ++ wsX6_harm_r3)) ++ wsX00 ++ wsX60 ++ (vx_atS RX6 317 "java/lang/IllegalStateException" ["java/lang/RuntimeException", "java/lang/Exception"]).filter goodWord ++ (vx_atS RX6 308 "java/lang/IndexOutOfBoundsException" ["java/lang/RuntimeException", "java/lang/Exception"]).filter goodWord)
def wsX6_seep_r1 : List Cond := [Cond.fieldLink RX6 135 "DesertChannels" "dugCount" "I", Cond.methodLink RX6 147 yX6_dugWithWell, Cond.instanceMethod yX6_dugWithWell, Cond.selects RX6 yX6_dugWithWell yX6_dugWithWell, Cond.initialized RX6, Cond.code yX6_dugWithWell cX6_dugWithWell 4 (some (.object "DesertChannels$Channel")), Cond.classLink RX6 304 "java/lang/IndexOutOfBoundsException", Cond.initialized "java/lang/IndexOutOfBoundsException", Cond.classLink RX6 313 "java/lang/IllegalStateException", Cond.initialized "java/lang/IllegalStateException", Cond.fieldLink RX6 104 "DesertChannels$Channel" "wells" "I", Cond.methodLink RX6 226 yX6_channelAt, Cond.instanceMethod yX6_channelAt, Cond.selects RX6 yX6_channelAt yX6_channelAt, Cond.code yX6_channelAt cX6_channelAt 2 (some (.object "DesertChannels$Channel")), Cond.fieldLink RX6 86 "DesertChannels" "channelCount" "I", Cond.fieldLink RX6 31 "DesertChannels" "channels" "[LDesertChannels$Channel;", Cond.methodLink RX6 309 yX0_isDug, Cond.instanceMethod yX0_isDug, Cond.selects RX0 yX0_isDug yX0_isDug, Cond.initialized RX0, Cond.code yX0_isDug cX0_isDug 1 (some .boolean), Cond.fieldLink RX0 25 "DesertChannels$Channel" "turn" "I", Cond.methodLink RX6 162 yX0_runningWells]
def wsX6_seep_r2 : List Cond := [Cond.instanceMethod yX0_runningWells, Cond.selects RX0 yX0_runningWells yX0_runningWells, Cond.code yX0_runningWells cX0_runningWells 2 (some .int), Cond.fieldLink RX0 29 "DesertChannels$Channel" "wells" "I", Cond.fieldLink RX0 21 "DesertChannels$Channel" "collapsed" "[Z", Cond.methodLink RX6 165 yX6_seepAt, Cond.instanceMethod yX6_seepAt, Cond.selects RX6 yX6_seepAt yX6_seepAt, Cond.code yX6_seepAt cX6_seepAt 7 (some .int), Cond.fieldLink RX6 36 "DesertChannels" "head" "I", Cond.fieldLink RX6 39 "DesertChannels" "slope" "I", Cond.fieldLink RX6 330 "DesertChannels$Channel" "x" "[I", Cond.fieldLink RX6 138 "DesertChannels$Channel" "dugOrder" "I", Cond.fieldLink RX6 333 "DesertChannels$Channel" "y" "[I", Cond.fieldLink RX6 340 "DesertChannels$Channel" "floor" "[I", Cond.methodLink RX6 346 Lib.Math.min.name, Cond.static Lib.Math.min.name, Cond.initialized "java/lang/Math", Cond.code Lib.Math.min.name Lib.Math.min.code 2 (some .int), Cond.methodLink RX6 301 Lib.Math.max.name, Cond.static Lib.Math.max.name, Cond.code Lib.Math.max.name Lib.Math.max.code 2 (some .int), Cond.methodLink RX6 343 yX6_drawAt, Cond.instanceMethod yX6_drawAt]
def wsX6_seep_r3 : List Cond := [Cond.selects RX6 yX6_drawAt yX6_drawAt, Cond.code yX6_drawAt cX6_drawAt 7 (some .int), Cond.fieldLink RX6 129 "DesertChannels" "year" "I", Cond.fieldLink RX6 132 "DesertChannels$Channel" "dugYear" "I", Cond.methodLink RX6 336 yX6_kingSteps, Cond.static yX6_kingSteps, Cond.code yX6_kingSteps cX6_kingSteps 4 (some .int), Cond.methodLink RX6 296 Lib.Math.abs.name, Cond.static Lib.Math.abs.name, Cond.code Lib.Math.abs.name Lib.Math.abs.code 1 (some .int)]
def wsX6_seep : List Cond := .code yX6_seep cX6_seep 4 (some .int) :: ((wsX6_seep_r1 ++ (wsX6_seep_r2 ++ wsX6_seep_r3)) ++ wsX60 ++ wsX00 ++ (vx_atS RX6 308 "java/lang/IndexOutOfBoundsException" ["java/lang/RuntimeException", "java/lang/Exception"]).filter goodWord ++ (vx_atS RX6 317 "java/lang/IllegalStateException" ["java/lang/RuntimeException", "java/lang/Exception"]).filter goodWord)
def wsX6_shareAt : List Cond := .code yX6_shareAt cX6_shareAt 2 (some (.object "DesertChannels$Share")) :: ([.classLink RX6 304 "java/lang/IndexOutOfBoundsException", .initialized "java/lang/IndexOutOfBoundsException", .fieldLink RX6 123 "DesertChannels" "shareCount" "I", .fieldLink RX6 44 "DesertChannels" "shares" "[LDesertChannels$Share;"] ++ wsX60 ++ (vx_atS RX6 308 "java/lang/IndexOutOfBoundsException" ["java/lang/RuntimeException", "java/lang/Exception"]).filter goodWord)
def wsX6_unletAt : List Cond := .code yX6_unletAt cX6_unletAt 3 (some (.object "DesertChannels$Share")) :: ([.classLink RX6 313 "java/lang/IllegalStateException", .initialized "java/lang/IllegalStateException", .fieldLink RX6 208 "DesertChannels" "now" "I", .methodLink RX6 235 yX6_shareAt, .instanceMethod yX6_shareAt, .selects RX6 yX6_shareAt yX6_shareAt, .initialized RX6, .code yX6_shareAt cX6_shareAt 2 (some (.object "DesertChannels$Share")), .classLink RX6 304 "java/lang/IndexOutOfBoundsException", .initialized "java/lang/IndexOutOfBoundsException", .fieldLink RX6 123 "DesertChannels" "shareCount" "I", .fieldLink RX6 44 "DesertChannels" "shares" "[LDesertChannels$Share;", .methodLink RX6 238 yX4_isLetFrom, .instanceMethod yX4_isLetFrom, .selects RX4 yX4_isLetFrom yX4_isLetFrom, .initialized RX4, .code yX4_isLetFrom cX4_isLetFrom 2 (some .boolean), .fieldLink RX4 30 "DesertChannels$Share" "letTo" "I"] ++ wsX60 ++ wsX40 ++ (vx_atS RX6 317 "java/lang/IllegalStateException" ["java/lang/RuntimeException", "java/lang/Exception"]).filter goodWord ++ (vx_atS RX6 308 "java/lang/IndexOutOfBoundsException" ["java/lang/RuntimeException", "java/lang/Exception"]).filter goodWord)
def wsX6_sell_r1 : List Cond := [Cond.classLink RX6 79 "java/lang/IllegalArgumentException", Cond.initialized "java/lang/IllegalArgumentException", Cond.classLink RX6 89 "java/lang/UnsupportedOperationException", Cond.initialized "java/lang/UnsupportedOperationException", Cond.fieldLink RX6 173 "DesertChannels$Share" "from" "I", Cond.fieldLink RX6 176 "DesertChannels$Share" "to" "I", Cond.fieldLink RX6 123 "DesertChannels" "shareCount" "I", Cond.fieldLink RX6 183 "DesertChannels$Share" "channel" "I", Cond.fieldLink RX6 186 "DesertChannels$Share" "owner" "I", Cond.methodLink RX6 169 yX6_unletAt, Cond.instanceMethod yX6_unletAt, Cond.selects RX6 yX6_unletAt yX6_unletAt, Cond.initialized RX6, Cond.code yX6_unletAt cX6_unletAt 3 (some (.object "DesertChannels$Share")), Cond.classLink RX6 313 "java/lang/IllegalStateException", Cond.initialized "java/lang/IllegalStateException", Cond.fieldLink RX6 208 "DesertChannels" "now" "I", Cond.methodLink RX6 235 yX6_shareAt, Cond.instanceMethod yX6_shareAt, Cond.selects RX6 yX6_shareAt yX6_shareAt, Cond.code yX6_shareAt cX6_shareAt 2 (some (.object "DesertChannels$Share")), Cond.classLink RX6 304 "java/lang/IndexOutOfBoundsException", Cond.initialized "java/lang/IndexOutOfBoundsException", Cond.fieldLink RX6 44 "DesertChannels" "shares" "[LDesertChannels$Share;"]
def wsX6_sell_r2 : List Cond := [Cond.methodLink RX6 238 yX4_isLetFrom, Cond.instanceMethod yX4_isLetFrom, Cond.selects RX4 yX4_isLetFrom yX4_isLetFrom, Cond.initialized RX4, Cond.code yX4_isLetFrom cX4_isLetFrom 2 (some .boolean), Cond.fieldLink RX4 30 "DesertChannels$Share" "letTo" "I", Cond.methodLink RX6 117 yX6_isOwner, Cond.static yX6_isOwner, Cond.code yX6_isOwner cX6_isOwner 1 (some .boolean), Cond.methodLink RX6 75 yX6_isWithin, Cond.static yX6_isWithin, Cond.code yX6_isWithin cX6_isWithin 3 (some .boolean), Cond.methodLink RX6 141 yX6_addShare, Cond.instanceMethod yX6_addShare, Cond.selects RX6 yX6_addShare yX6_addShare, Cond.code yX6_addShare cX6_addShare 5 none, Cond.methodLink RX6 189 yX4_become, Cond.instanceMethod yX4_become, Cond.selects RX4 yX4_become yX4_become, Cond.code yX4_become cX4_become 5 none, Cond.fieldLink RX4 9 "DesertChannels$Share" "channel" "I", Cond.fieldLink RX4 15 "DesertChannels$Share" "from" "I", Cond.fieldLink RX4 18 "DesertChannels$Share" "to" "I", Cond.fieldLink RX4 21 "DesertChannels$Share" "owner" "I"]
def wsX6_sell_r3 : List Cond := [Cond.fieldLink RX4 24 "DesertChannels$Share" "tenant" "I", Cond.fieldLink RX4 27 "DesertChannels$Share" "letFrom" "I"]
def wsX6_sell : List Cond := .code yX6_sell cX6_sell 8 none :: ((wsX6_sell_r1 ++ (wsX6_sell_r2 ++ wsX6_sell_r3)) ++ wsX40 ++ wsX60 ++ (vx_atS RX6 83 "java/lang/IllegalArgumentException" ["java/lang/RuntimeException", "java/lang/Exception"]).filter goodWord ++ (vx_atS RX6 93 "java/lang/UnsupportedOperationException" ["java/lang/RuntimeException", "java/lang/Exception"]).filter goodWord ++ (vx_atS RX6 317 "java/lang/IllegalStateException" ["java/lang/RuntimeException", "java/lang/Exception"]).filter goodWord ++ (vx_atS RX6 308 "java/lang/IndexOutOfBoundsException" ["java/lang/RuntimeException", "java/lang/Exception"]).filter goodWord)
def wsX6_leaveTo : List Cond := .code yX6_leaveTo cX6_leaveTo 8 none :: ([.fieldLink RX6 183 "DesertChannels$Share" "channel" "I", .fieldLink RX6 173 "DesertChannels$Share" "from" "I", .fieldLink RX6 52 "DesertChannels" "heirRow" "LDesertChannels$Heirs;", .fieldLink RX6 352 "DesertChannels$Heirs" "length" "[I", .fieldLink RX6 354 "DesertChannels$Heirs" "owner" "[I", .methodLink RX6 141 yX6_addShare, .instanceMethod yX6_addShare, .selects RX6 yX6_addShare yX6_addShare, .initialized RX6, .code yX6_addShare cX6_addShare 5 none, .fieldLink RX6 123 "DesertChannels" "shareCount" "I", .fieldLink RX6 44 "DesertChannels" "shares" "[LDesertChannels$Share;", .methodLink RX6 189 yX4_become, .instanceMethod yX4_become, .selects RX4 yX4_become yX4_become, .initialized RX4, .code yX4_become cX4_become 5 none, .fieldLink RX4 9 "DesertChannels$Share" "channel" "I", .fieldLink RX4 15 "DesertChannels$Share" "from" "I", .fieldLink RX4 18 "DesertChannels$Share" "to" "I", .fieldLink RX4 21 "DesertChannels$Share" "owner" "I", .fieldLink RX4 24 "DesertChannels$Share" "tenant" "I", .fieldLink RX4 27 "DesertChannels$Share" "letFrom" "I", .fieldLink RX4 30 "DesertChannels$Share" "letTo" "I"] ++ wsX40 ++ wsX60 ++ wsX20)
def wsX6_heirs_r1 : List Cond := [Cond.classLink RX6 79 "java/lang/IllegalArgumentException", Cond.initialized "java/lang/IllegalArgumentException", Cond.classLink RX6 89 "java/lang/UnsupportedOperationException", Cond.initialized "java/lang/UnsupportedOperationException", Cond.fieldLink RX6 52 "DesertChannels" "heirRow" "LDesertChannels$Heirs;", Cond.fieldLink RX6 176 "DesertChannels$Share" "to" "I", Cond.fieldLink RX6 173 "DesertChannels$Share" "from" "I", Cond.fieldLink RX6 123 "DesertChannels" "shareCount" "I", Cond.methodLink RX6 169 yX6_unletAt, Cond.instanceMethod yX6_unletAt, Cond.selects RX6 yX6_unletAt yX6_unletAt, Cond.initialized RX6, Cond.code yX6_unletAt cX6_unletAt 3 (some (.object "DesertChannels$Share")), Cond.classLink RX6 313 "java/lang/IllegalStateException", Cond.initialized "java/lang/IllegalStateException", Cond.fieldLink RX6 208 "DesertChannels" "now" "I", Cond.methodLink RX6 235 yX6_shareAt, Cond.instanceMethod yX6_shareAt, Cond.selects RX6 yX6_shareAt yX6_shareAt, Cond.code yX6_shareAt cX6_shareAt 2 (some (.object "DesertChannels$Share")), Cond.classLink RX6 304 "java/lang/IndexOutOfBoundsException", Cond.initialized "java/lang/IndexOutOfBoundsException", Cond.fieldLink RX6 44 "DesertChannels" "shares" "[LDesertChannels$Share;", Cond.methodLink RX6 238 yX4_isLetFrom]
def wsX6_heirs_r2 : List Cond := [Cond.instanceMethod yX4_isLetFrom, Cond.selects RX4 yX4_isLetFrom yX4_isLetFrom, Cond.initialized RX4, Cond.code yX4_isLetFrom cX4_isLetFrom 2 (some .boolean), Cond.fieldLink RX4 30 "DesertChannels$Share" "letTo" "I", Cond.methodLink RX6 192 yX2_name, Cond.instanceMethod yX2_name, Cond.selects RX2 yX2_name yX2_name, Cond.initialized RX2, Cond.code yX2_name cX2_name 4 none, Cond.fieldLink RX2 9 "DesertChannels$Heirs" "owner" "[I", Cond.fieldLink RX2 18 "DesertChannels$Heirs" "part" "[I", Cond.static yX6_isWithin, Cond.code yX6_isWithin cX6_isWithin 3 (some .boolean), Cond.methodLink RX6 75 yX6_isWithin, Cond.methodLink RX6 195 yX2_firstStand, Cond.instanceMethod yX2_firstStand, Cond.selects RX2 yX2_firstStand yX2_firstStand, Cond.code yX2_firstStand cX2_firstStand 3 (some .boolean), Cond.static yX6_isOwner, Cond.code yX6_isOwner cX6_isOwner 1 (some .boolean), Cond.methodLink RX6 200 yX2_partLength, Cond.instanceMethod yX2_partLength, Cond.selects RX2 yX2_partLength yX2_partLength]
def wsX6_heirs_r3 : List Cond := [Cond.code yX2_partLength cX2_partLength 7 (some .int), Cond.fieldLink RX2 15 "DesertChannels$Heirs" "length" "[I", Cond.static yX6_partOf, Cond.code yX6_partOf cX6_partOf 3 (some .int), Cond.methodLink RX6 204 yX6_leaveTo, Cond.instanceMethod yX6_leaveTo, Cond.selects RX6 yX6_leaveTo yX6_leaveTo, Cond.code yX6_leaveTo cX6_leaveTo 8 none, Cond.fieldLink RX6 183 "DesertChannels$Share" "channel" "I", Cond.fieldLink RX6 352 "DesertChannels$Heirs" "length" "[I", Cond.fieldLink RX6 354 "DesertChannels$Heirs" "owner" "[I", Cond.methodLink RX6 141 yX6_addShare, Cond.instanceMethod yX6_addShare, Cond.selects RX6 yX6_addShare yX6_addShare, Cond.code yX6_addShare cX6_addShare 5 none, Cond.methodLink RX6 189 yX4_become, Cond.instanceMethod yX4_become, Cond.selects RX4 yX4_become yX4_become, Cond.code yX4_become cX4_become 5 none, Cond.fieldLink RX4 9 "DesertChannels$Share" "channel" "I", Cond.fieldLink RX4 15 "DesertChannels$Share" "from" "I", Cond.fieldLink RX4 18 "DesertChannels$Share" "to" "I", Cond.fieldLink RX4 21 "DesertChannels$Share" "owner" "I", Cond.fieldLink RX4 24 "DesertChannels$Share" "tenant" "I"]
def wsX6_heirs_r4 : List Cond := [Cond.fieldLink RX4 27 "DesertChannels$Share" "letFrom" "I"]
def wsX6_heirs : List Cond := .code yX6_heirs cX6_heirs 13 (some .int) :: ((wsX6_heirs_r1 ++ (wsX6_heirs_r2 ++ (wsX6_heirs_r3 ++ wsX6_heirs_r4))) ++ wsX60 ++ wsX40 ++ wsX20 ++ (vx_atS RX6 83 "java/lang/IllegalArgumentException" ["java/lang/RuntimeException", "java/lang/Exception"]).filter goodWord ++ (vx_atS RX6 93 "java/lang/UnsupportedOperationException" ["java/lang/RuntimeException", "java/lang/Exception"]).filter goodWord ++ (vx_atS RX6 317 "java/lang/IllegalStateException" ["java/lang/RuntimeException", "java/lang/Exception"]).filter goodWord ++ (vx_atS RX6 308 "java/lang/IndexOutOfBoundsException" ["java/lang/RuntimeException", "java/lang/Exception"]).filter goodWord)
def wsX6_let_r1 : List Cond := [Cond.classLink RX6 79 "java/lang/IllegalArgumentException", Cond.initialized "java/lang/IllegalArgumentException", Cond.fieldLink RX6 186 "DesertChannels$Share" "owner" "I", Cond.fieldLink RX6 208 "DesertChannels" "now" "I", Cond.constant RX6 211 (100000000), Cond.fieldLink RX6 214 "DesertChannels$Share" "tenant" "I", Cond.fieldLink RX6 217 "DesertChannels$Share" "letFrom" "I", Cond.fieldLink RX6 220 "DesertChannels$Share" "letTo" "I", Cond.methodLink RX6 169 yX6_unletAt, Cond.instanceMethod yX6_unletAt, Cond.selects RX6 yX6_unletAt yX6_unletAt, Cond.initialized RX6, Cond.code yX6_unletAt cX6_unletAt 3 (some (.object "DesertChannels$Share")), Cond.classLink RX6 313 "java/lang/IllegalStateException", Cond.initialized "java/lang/IllegalStateException", Cond.methodLink RX6 235 yX6_shareAt, Cond.instanceMethod yX6_shareAt, Cond.selects RX6 yX6_shareAt yX6_shareAt, Cond.code yX6_shareAt cX6_shareAt 2 (some (.object "DesertChannels$Share")), Cond.classLink RX6 304 "java/lang/IndexOutOfBoundsException", Cond.initialized "java/lang/IndexOutOfBoundsException", Cond.fieldLink RX6 123 "DesertChannels" "shareCount" "I", Cond.fieldLink RX6 44 "DesertChannels" "shares" "[LDesertChannels$Share;", Cond.methodLink RX6 238 yX4_isLetFrom]
def wsX6_let_r2 : List Cond := [Cond.instanceMethod yX4_isLetFrom, Cond.selects RX4 yX4_isLetFrom yX4_isLetFrom, Cond.initialized RX4, Cond.code yX4_isLetFrom cX4_isLetFrom 2 (some .boolean), Cond.fieldLink RX4 30 "DesertChannels$Share" "letTo" "I", Cond.methodLink RX6 117 yX6_isOwner, Cond.static yX6_isOwner, Cond.code yX6_isOwner cX6_isOwner 1 (some .boolean), Cond.methodLink RX6 75 yX6_isWithin, Cond.static yX6_isWithin, Cond.code yX6_isWithin cX6_isWithin 3 (some .boolean)]
def wsX6_let : List Cond := .code yX6_let cX6_let 6 none :: ((wsX6_let_r1 ++ wsX6_let_r2) ++ wsX40 ++ wsX60 ++ (vx_atS RX6 83 "java/lang/IllegalArgumentException" ["java/lang/RuntimeException", "java/lang/Exception"]).filter goodWord ++ (vx_atS RX6 317 "java/lang/IllegalStateException" ["java/lang/RuntimeException", "java/lang/Exception"]).filter goodWord ++ (vx_atS RX6 308 "java/lang/IndexOutOfBoundsException" ["java/lang/RuntimeException", "java/lang/Exception"]).filter goodWord)
def wsX6_minutes : List Cond := .code yX6_minutes cX6_minutes 2 (some .int) :: ([.classLink RX6 79 "java/lang/IllegalArgumentException", .initialized "java/lang/IllegalArgumentException", .constant RX6 223 (100000), .fieldLink RX6 208 "DesertChannels" "now" "I", .methodLink RX6 75 yX6_isWithin, .static yX6_isWithin, .initialized RX6, .code yX6_isWithin cX6_isWithin 3 (some .boolean)] ++ wsX60 ++ (vx_atS RX6 83 "java/lang/IllegalArgumentException" ["java/lang/RuntimeException", "java/lang/Exception"]).filter goodWord)
def wsX6_holder_r1 : List Cond := [Cond.classLink RX6 79 "java/lang/IllegalArgumentException", Cond.initialized "java/lang/IllegalArgumentException", Cond.fieldLink RX6 126 "DesertChannels$Channel" "turn" "I", Cond.fieldLink RX6 123 "DesertChannels" "shareCount" "I", Cond.fieldLink RX6 44 "DesertChannels" "shares" "[LDesertChannels$Share;", Cond.fieldLink RX6 183 "DesertChannels$Share" "channel" "I", Cond.fieldLink RX6 173 "DesertChannels$Share" "from" "I", Cond.fieldLink RX6 176 "DesertChannels$Share" "to" "I", Cond.methodLink RX6 226 yX6_channelAt, Cond.instanceMethod yX6_channelAt, Cond.selects RX6 yX6_channelAt yX6_channelAt, Cond.initialized RX6, Cond.code yX6_channelAt cX6_channelAt 2 (some (.object "DesertChannels$Channel")), Cond.classLink RX6 304 "java/lang/IndexOutOfBoundsException", Cond.initialized "java/lang/IndexOutOfBoundsException", Cond.fieldLink RX6 86 "DesertChannels" "channelCount" "I", Cond.fieldLink RX6 31 "DesertChannels" "channels" "[LDesertChannels$Channel;", Cond.methodLink RX6 231 yX4_heldBy, Cond.instanceMethod yX4_heldBy, Cond.selects RX4 yX4_heldBy yX4_heldBy, Cond.initialized RX4, Cond.code yX4_heldBy cX4_heldBy 2 (some .int), Cond.fieldLink RX4 27 "DesertChannels$Share" "letFrom" "I", Cond.fieldLink RX4 30 "DesertChannels$Share" "letTo" "I"]
def wsX6_holder_r2 : List Cond := [Cond.fieldLink RX4 24 "DesertChannels$Share" "tenant" "I", Cond.fieldLink RX4 21 "DesertChannels$Share" "owner" "I"]
def wsX6_holder : List Cond := .code yX6_holder cX6_holder 7 (some .int) :: ((wsX6_holder_r1 ++ wsX6_holder_r2) ++ wsX00 ++ wsX60 ++ wsX40 ++ (vx_atS RX6 83 "java/lang/IllegalArgumentException" ["java/lang/RuntimeException", "java/lang/Exception"]).filter goodWord ++ (vx_atS RX6 308 "java/lang/IndexOutOfBoundsException" ["java/lang/RuntimeException", "java/lang/Exception"]).filter goodWord)
def wsX6_share : List Cond := .code yX6_share cX6_share 4 (some .int) :: ([.classLink RX6 241 "java/util/NoSuchElementException", .initialized "java/util/NoSuchElementException", .fieldLink RX6 183 "DesertChannels$Share" "channel" "I", .fieldLink RX6 173 "DesertChannels$Share" "from" "I", .fieldLink RX6 176 "DesertChannels$Share" "to" "I", .fieldLink RX6 186 "DesertChannels$Share" "owner" "I", .fieldLink RX6 208 "DesertChannels" "now" "I", .methodLink RX6 235 yX6_shareAt, .instanceMethod yX6_shareAt, .selects RX6 yX6_shareAt yX6_shareAt, .initialized RX6, .code yX6_shareAt cX6_shareAt 2 (some (.object "DesertChannels$Share")), .classLink RX6 304 "java/lang/IndexOutOfBoundsException", .initialized "java/lang/IndexOutOfBoundsException", .fieldLink RX6 123 "DesertChannels" "shareCount" "I", .fieldLink RX6 44 "DesertChannels" "shares" "[LDesertChannels$Share;", .methodLink RX6 238 yX4_isLetFrom, .instanceMethod yX4_isLetFrom, .selects RX4 yX4_isLetFrom yX4_isLetFrom, .initialized RX4, .code yX4_isLetFrom cX4_isLetFrom 2 (some .boolean), .fieldLink RX4 30 "DesertChannels$Share" "letTo" "I"] ++ wsX40 ++ wsX60 ++ (vx_atS RX6 245 "java/util/NoSuchElementException" ["java/lang/RuntimeException", "java/lang/Exception"]).filter goodWord ++ (vx_atS RX6 308 "java/lang/IndexOutOfBoundsException" ["java/lang/RuntimeException", "java/lang/Exception"]).filter goodWord)
def wsX6_law_r1 : List Cond := [Cond.classLink RX6 79 "java/lang/IllegalArgumentException", Cond.initialized "java/lang/IllegalArgumentException", Cond.fieldLink RX6 10 "DesertChannels" "reader" "LDesertChannels$LawReader;", Cond.fieldLink RX6 21 "DesertChannels" "lawNow" "[I", Cond.fieldLink RX6 20 "DesertChannels" "tape" "LDesertChannels$Tape;", Cond.fieldLink RX6 66 "DesertChannels$Tape" "length" "I", Cond.fieldLink RX6 250 "DesertChannels$LawReader" "begin" "I", Cond.fieldLink RX6 25 "DesertChannels" "wrongByte" "I", Cond.fieldLink RX6 255 "DesertChannels$LawReader" "draft" "[I", Cond.methodLink RX6 258 arraycopyName, Cond.native arraycopyName, Cond.static arraycopyName, Cond.initialized "java/lang/System", Cond.methodLink RX6 246 yX3_readTerms, Cond.instanceMethod yX3_readTerms, Cond.selects RX3 yX3_readTerms yX3_readTerms, Cond.initialized RX3, Cond.code yX3_readTerms cX3_readTerms 3 (some .int), Cond.fieldLink RX3 18 "DesertChannels$LawReader" "draft" "[I", Cond.methodLink RX3 22 arraycopyName, Cond.fieldLink RX3 28 "DesertChannels$LawReader" "behind" "I", Cond.fieldLink RX3 39 "DesertChannels$LawReader" "begin" "I", Cond.fieldLink RX3 12 "DesertChannels$LawReader" "tape" "LDesertChannels$Tape;", Cond.fieldLink RX3 42 "DesertChannels$Tape" "length" "I"]
def wsX6_law_r2 : List Cond := [Cond.fieldLink RX3 45 "DesertChannels$Tape" "bytes" "[I", Cond.methodLink RX3 32 yX3_isTerm, Cond.instanceMethod yX3_isTerm, Cond.selects RX3 yX3_isTerm yX3_isTerm, Cond.code yX3_isTerm cX3_isTerm 1 (some .boolean), Cond.methodLink RX3 36 yX3_takeThing, Cond.instanceMethod yX3_takeThing, Cond.selects RX3 yX3_takeThing yX3_takeThing, Cond.code yX3_takeThing cX3_takeThing 1 none, Cond.methodLink RX3 84 yX3_isLetter, Cond.static yX3_isLetter, Cond.code yX3_isLetter cX3_isLetter 1 (some .boolean), Cond.static yX6_isWithin, Cond.initialized RX6, Cond.code yX6_isWithin cX6_isWithin 3 (some .boolean), Cond.methodLink RX3 71 yX3_isDigit, Cond.static yX3_isDigit, Cond.code yX3_isDigit cX3_isDigit 1 (some .boolean), Cond.methodLink RX3 50 yX3_isWord, Cond.instanceMethod yX3_isWord, Cond.selects RX3 yX3_isWord yX3_isWord, Cond.code yX3_isWord cX3_isWord 3 (some .boolean), Cond.methodLink RX3 75 yJ0_length_8abf5, Cond.instanceMethod yJ0_length_8abf5]
def wsX6_law_r3 : List Cond := [Cond.selects RJ0 yJ0_length_8abf5 yJ0_length_8abf5, Cond.initialized RJ0, Cond.code yJ0_length_8abf5 cJ0_length_8abf5 1 (some .int), Cond.fieldLink RJ0 9 "java/lang/String" "value" "[B", Cond.methodLink RJ0 335 yJ0_coder_7d493, Cond.instanceMethod yJ0_coder_7d493, Cond.selects RJ0 yJ0_coder_7d493 yJ0_coder_7d493, Cond.code yJ0_coder_7d493 cJ0_coder_7d493 1 (some .byte), Cond.fieldLink RJ0 38 "java/lang/String" "COMPACT_STRINGS" "Z", Cond.fieldLink RJ0 15 "java/lang/String" "coder" "B", Cond.methodLink RX3 80 yJ0_charAt_5068e, Cond.instanceMethod yJ0_charAt_5068e, Cond.selects RJ0 yJ0_charAt_5068e yJ0_charAt_5068e, Cond.code yJ0_charAt_5068e cJ0_charAt_5068e 2 (some .char), Cond.methodLink RJ0 492 yJ0_isLatin1_aae02, Cond.instanceMethod yJ0_isLatin1_aae02, Cond.selects RJ0 yJ0_isLatin1_aae02 yJ0_isLatin1_aae02, Cond.code yJ0_isLatin1_aae02 cJ0_isLatin1_aae02 1 (some .boolean), Cond.methodLink RJ0 495 yJ1_charAt_3b067, Cond.static yJ1_charAt_3b067, Cond.initialized RJ1, Cond.code yJ1_charAt_3b067 cJ1_charAt_3b067 2 (some .char), Cond.methodLink RJ1 9 yJ0_checkIndex_df160, Cond.static yJ0_checkIndex_df160]
def wsX6_law_r4 : List Cond := [Cond.code yJ0_checkIndex_df160 cJ0_checkIndex_df160 2 none, Cond.fieldLink RJ0 1053 "jdk/internal/util/Preconditions" "SIOOBE_FORMATTER" "Ljava/util/function/BiFunction;", Cond.methodLink RJ0 1059 yJ3_checkIndex_8e157, Cond.static yJ3_checkIndex_8e157, Cond.initialized RJ3, Cond.code yJ3_checkIndex_8e157 cJ3_checkIndex_8e157 3 (some .int), Cond.methodLink RJ0 498 yJ2_charAt_3b067, Cond.static yJ2_charAt_3b067, Cond.initialized RJ2, Cond.code yJ2_charAt_3b067 cJ2_charAt_3b067 2 (some .char), Cond.methodLink RJ2 67 yJ2_checkIndex_2214a, Cond.static yJ2_checkIndex_2214a, Cond.code yJ2_checkIndex_2214a cJ2_checkIndex_2214a 2 none, Cond.methodLink RJ2 48 yJ2_length_9d52b, Cond.static yJ2_length_9d52b, Cond.code yJ2_length_9d52b cJ2_length_9d52b 1 (some .int), Cond.methodLink RJ2 414 yJ0_checkIndex_df160, Cond.methodLink RJ2 71 yJ2_getChar_3b067, Cond.static yJ2_getChar_3b067, Cond.code yJ2_getChar_3b067 cJ2_getChar_3b067 2 (some .char), Cond.fieldLink RJ2 44 "java/lang/StringUTF16" "$assertionsDisabled" "Z", Cond.fieldLink RJ2 59 "java/lang/StringUTF16" "HI_BYTE_SHIFT" "I", Cond.fieldLink RJ2 63 "java/lang/StringUTF16" "LO_BYTE_SHIFT" "I", Cond.methodLink RX3 54 yX3_isNumber]
def wsX6_law_r5 : List Cond := [Cond.instanceMethod yX3_isNumber, Cond.selects RX3 yX3_isNumber yX3_isNumber, Cond.code yX3_isNumber cX3_isNumber 5 (some .boolean), Cond.methodLink RX3 64 yX3_isPayment, Cond.instanceMethod yX3_isPayment, Cond.selects RX3 yX3_isPayment yX3_isPayment, Cond.code yX3_isPayment cX3_isPayment 2 (some .boolean)]
def wsX6_law : List Cond := .code yX6_law cX6_law 2 (some .int) :: ((wsX6_law_r1 ++ (wsX6_law_r2 ++ (wsX6_law_r3 ++ (wsX6_law_r4 ++ wsX6_law_r5)))) ++ wsX60 ++ wsX50 ++ wsX30 ++ (vx_atS RX6 83 "java/lang/IllegalArgumentException" ["java/lang/RuntimeException", "java/lang/Exception"]).filter goodWord)
def wsX6_fault : List Cond := .code yX6_fault cX6_fault 1 (some .int) :: ([.fieldLink RX6 25 "DesertChannels" "wrongByte" "I"] ++ wsX60)
def wsX6_says : List Cond := .code yX6_says cX6_says 2 (some .int) :: ([.classLink RX6 241 "java/util/NoSuchElementException", .initialized "java/util/NoSuchElementException", .fieldLink RX6 21 "DesertChannels" "lawNow" "[I"] ++ wsX60 ++ (vx_atS RX6 245 "java/util/NoSuchElementException" ["java/lang/RuntimeException", "java/lang/Exception"]).filter goodWord)
def wsX6_weighOwners : List Cond := .code yX6_weighOwners cX6_weighOwners 5 none :: ([.fieldLink RX6 56 "DesertChannels" "weights" "[I", .fieldLink RX6 21 "DesertChannels" "lawNow" "[I", .fieldLink RX6 123 "DesertChannels" "shareCount" "I", .fieldLink RX6 44 "DesertChannels" "shares" "[LDesertChannels$Share;", .fieldLink RX6 183 "DesertChannels$Share" "channel" "I", .fieldLink RX6 186 "DesertChannels$Share" "owner" "I", .fieldLink RX6 176 "DesertChannels$Share" "to" "I", .fieldLink RX6 173 "DesertChannels$Share" "from" "I"] ++ wsX60 ++ wsX40)
def wsX6_paidBy : List Cond := .code yX6_paidBy cX6_paidBy 7 (some .int) :: ([.fieldLink RX6 56 "DesertChannels" "weights" "[I", .methodLink RX6 272 yX6_partOf, .static yX6_partOf, .initialized RX6, .code yX6_partOf cX6_partOf 3 (some .int)] ++ wsX60)
def wsX6_pays_r1 : List Cond := [Cond.classLink RX6 79 "java/lang/IllegalArgumentException", Cond.initialized "java/lang/IllegalArgumentException", Cond.constant RX6 266 (1000000), Cond.fieldLink RX6 21 "DesertChannels" "lawNow" "[I", Cond.methodLink RX6 155 yX6_dugAt, Cond.instanceMethod yX6_dugAt, Cond.selects RX6 yX6_dugAt yX6_dugAt, Cond.initialized RX6, Cond.code yX6_dugAt cX6_dugAt 3 (some (.object "DesertChannels$Channel")), Cond.classLink RX6 313 "java/lang/IllegalStateException", Cond.initialized "java/lang/IllegalStateException", Cond.methodLink RX6 226 yX6_channelAt, Cond.instanceMethod yX6_channelAt, Cond.selects RX6 yX6_channelAt yX6_channelAt, Cond.code yX6_channelAt cX6_channelAt 2 (some (.object "DesertChannels$Channel")), Cond.classLink RX6 304 "java/lang/IndexOutOfBoundsException", Cond.initialized "java/lang/IndexOutOfBoundsException", Cond.fieldLink RX6 86 "DesertChannels" "channelCount" "I", Cond.fieldLink RX6 31 "DesertChannels" "channels" "[LDesertChannels$Channel;", Cond.methodLink RX6 309 yX0_isDug, Cond.instanceMethod yX0_isDug, Cond.selects RX0 yX0_isDug yX0_isDug, Cond.initialized RX0, Cond.code yX0_isDug cX0_isDug 1 (some .boolean)]
def wsX6_pays_r2 : List Cond := [Cond.fieldLink RX0 25 "DesertChannels$Channel" "turn" "I", Cond.methodLink RX6 117 yX6_isOwner, Cond.static yX6_isOwner, Cond.code yX6_isOwner cX6_isOwner 1 (some .boolean), Cond.methodLink RX6 75 yX6_isWithin, Cond.static yX6_isWithin, Cond.code yX6_isWithin cX6_isWithin 3 (some .boolean), Cond.methodLink RX6 269 yX6_weighOwners, Cond.instanceMethod yX6_weighOwners, Cond.selects RX6 yX6_weighOwners yX6_weighOwners, Cond.code yX6_weighOwners cX6_weighOwners 5 none, Cond.fieldLink RX6 56 "DesertChannels" "weights" "[I", Cond.fieldLink RX6 123 "DesertChannels" "shareCount" "I", Cond.fieldLink RX6 44 "DesertChannels" "shares" "[LDesertChannels$Share;", Cond.fieldLink RX6 183 "DesertChannels$Share" "channel" "I", Cond.fieldLink RX6 186 "DesertChannels$Share" "owner" "I", Cond.fieldLink RX6 176 "DesertChannels$Share" "to" "I", Cond.fieldLink RX6 173 "DesertChannels$Share" "from" "I", Cond.methodLink RX6 272 yX6_partOf, Cond.static yX6_partOf, Cond.code yX6_partOf cX6_partOf 3 (some .int), Cond.methodLink RX6 276 yX6_paidBy, Cond.instanceMethod yX6_paidBy, Cond.selects RX6 yX6_paidBy yX6_paidBy]
def wsX6_pays_r3 : List Cond := [Cond.code yX6_paidBy cX6_paidBy 7 (some .int)]
def wsX6_pays : List Cond := .code yX6_pays cX6_pays 4 (some .int) :: ((wsX6_pays_r1 ++ (wsX6_pays_r2 ++ wsX6_pays_r3)) ++ wsX60 ++ wsX00 ++ wsX40 ++ (vx_atS RX6 83 "java/lang/IllegalArgumentException" ["java/lang/RuntimeException", "java/lang/Exception"]).filter goodWord ++ (vx_atS RX6 317 "java/lang/IllegalStateException" ["java/lang/RuntimeException", "java/lang/Exception"]).filter goodWord ++ (vx_atS RX6 308 "java/lang/IndexOutOfBoundsException" ["java/lang/RuntimeException", "java/lang/Exception"]).filter goodWord)
def wsX6_field : List Cond := .code yX6_field cX6_field 4 (some .int) :: ([.classLink RX6 79 "java/lang/IllegalArgumentException", .initialized "java/lang/IllegalArgumentException", .fieldLink RX6 62 "DesertChannels" "fields" "LDesertChannels$Fields;", .fieldLink RX6 281 "DesertChannels$Fields" "many" "I", .methodLink RX6 75 yX6_isWithin, .static yX6_isWithin, .initialized RX6, .code yX6_isWithin cX6_isWithin 3 (some .boolean), .methodLink RX6 284 yX1_addField, .instanceMethod yX1_addField, .selects RX1 yX1_addField yX1_addField, .initialized RX1, .code yX1_addField cX1_addField 4 none, .fieldLink RX1 24 "DesertChannels$Fields" "many" "I", .fieldLink RX1 9 "DesertChannels$Fields" "minutes" "[I", .fieldLink RX1 15 "DesertChannels$Fields" "due" "[I", .fieldLink RX1 18 "DesertChannels$Fields" "loss" "[I"] ++ wsX60 ++ wsX10 ++ (vx_atS RX6 83 "java/lang/IllegalArgumentException" ["java/lang/RuntimeException", "java/lang/Exception"]).filter goodWord)
def wsX6_least : List Cond := .code yX6_least cX6_least 2 (some .int) :: ([.fieldLink RX6 62 "DesertChannels" "fields" "LDesertChannels$Fields;", .fieldLink RX6 281 "DesertChannels$Fields" "many" "I", .methodLink RX6 287 yX1_leastLoss, .instanceMethod yX1_leastLoss, .selects RX1 yX1_leastLoss yX1_leastLoss, .initialized RX1, .code yX1_leastLoss cX1_leastLoss 6 (some .int), .fieldLink RX1 24 "DesertChannels$Fields" "many" "I", .fieldLink RX1 21 "DesertChannels$Fields" "best" "[I", .constant RX1 32 (1000000000), .fieldLink RX1 18 "DesertChannels$Fields" "loss" "[I", .fieldLink RX1 15 "DesertChannels$Fields" "due" "[I", .methodLink RX1 33 Lib.Math.max.name, .static Lib.Math.max.name, .initialized "java/lang/Math", .code Lib.Math.max.name Lib.Math.max.code 2 (some .int), .methodLink RX1 39 Lib.Math.min.name, .static Lib.Math.min.name, .code Lib.Math.min.name Lib.Math.min.code 2 (some .int), .methodLink RX1 28 yX1_minutesOf, .instanceMethod yX1_minutesOf, .selects RX1 yX1_minutesOf yX1_minutesOf, .code yX1_minutesOf cX1_minutesOf 4 (some .int), .fieldLink RX1 9 "DesertChannels$Fields" "minutes" "[I"] ++ wsX60 ++ wsX10)
def wsX6_letShares : List Cond := .code yX6_letShares cX6_letShares 3 (some .int) :: ([.fieldLink RX6 123 "DesertChannels" "shareCount" "I", .fieldLink RX6 44 "DesertChannels" "shares" "[LDesertChannels$Share;", .fieldLink RX6 208 "DesertChannels" "now" "I", .methodLink RX6 238 yX4_isLetFrom, .instanceMethod yX4_isLetFrom, .selects RX4 yX4_isLetFrom yX4_isLetFrom, .initialized RX4, .code yX4_isLetFrom cX4_isLetFrom 2 (some .boolean), .fieldLink RX4 30 "DesertChannels$Share" "letTo" "I"] ++ wsX60 ++ wsX40)
def wsX6_flowOfAll_r1 : List Cond := [Cond.fieldLink RX6 86 "DesertChannels" "channelCount" "I", Cond.fieldLink RX6 31 "DesertChannels" "channels" "[LDesertChannels$Channel;", Cond.fieldLink RX6 135 "DesertChannels" "dugCount" "I", Cond.methodLink RX6 309 yX0_isDug, Cond.instanceMethod yX0_isDug, Cond.selects RX0 yX0_isDug yX0_isDug, Cond.initialized RX0, Cond.code yX0_isDug cX0_isDug 1 (some .boolean), Cond.fieldLink RX0 25 "DesertChannels$Channel" "turn" "I", Cond.methodLink RX6 158 yX6_flowOf, Cond.instanceMethod yX6_flowOf, Cond.selects RX6 yX6_flowOf yX6_flowOf, Cond.initialized RX6, Cond.code yX6_flowOf cX6_flowOf 5 (some .int), Cond.methodLink RX6 162 yX0_runningWells, Cond.instanceMethod yX0_runningWells, Cond.selects RX0 yX0_runningWells yX0_runningWells, Cond.code yX0_runningWells cX0_runningWells 2 (some .int), Cond.fieldLink RX0 29 "DesertChannels$Channel" "wells" "I", Cond.fieldLink RX0 21 "DesertChannels$Channel" "collapsed" "[Z", Cond.methodLink RX6 165 yX6_seepAt, Cond.instanceMethod yX6_seepAt, Cond.selects RX6 yX6_seepAt yX6_seepAt, Cond.code yX6_seepAt cX6_seepAt 7 (some .int)]
def wsX6_flowOfAll_r2 : List Cond := [Cond.fieldLink RX6 36 "DesertChannels" "head" "I", Cond.fieldLink RX6 39 "DesertChannels" "slope" "I", Cond.fieldLink RX6 330 "DesertChannels$Channel" "x" "[I", Cond.fieldLink RX6 138 "DesertChannels$Channel" "dugOrder" "I", Cond.fieldLink RX6 333 "DesertChannels$Channel" "y" "[I", Cond.fieldLink RX6 340 "DesertChannels$Channel" "floor" "[I", Cond.methodLink RX6 346 Lib.Math.min.name, Cond.static Lib.Math.min.name, Cond.initialized "java/lang/Math", Cond.code Lib.Math.min.name Lib.Math.min.code 2 (some .int), Cond.methodLink RX6 301 Lib.Math.max.name, Cond.static Lib.Math.max.name, Cond.code Lib.Math.max.name Lib.Math.max.code 2 (some .int), Cond.methodLink RX6 343 yX6_drawAt, Cond.instanceMethod yX6_drawAt, Cond.selects RX6 yX6_drawAt yX6_drawAt, Cond.code yX6_drawAt cX6_drawAt 7 (some .int), Cond.fieldLink RX6 129 "DesertChannels" "year" "I", Cond.fieldLink RX6 132 "DesertChannels$Channel" "dugYear" "I", Cond.methodLink RX6 336 yX6_kingSteps, Cond.static yX6_kingSteps, Cond.code yX6_kingSteps cX6_kingSteps 4 (some .int), Cond.methodLink RX6 296 Lib.Math.abs.name, Cond.static Lib.Math.abs.name]
def wsX6_flowOfAll_r3 : List Cond := [Cond.code Lib.Math.abs.name Lib.Math.abs.code 1 (some .int), Cond.methodLink RX6 349 yX0_leaksBelow, Cond.instanceMethod yX0_leaksBelow, Cond.selects RX0 yX0_leaksBelow yX0_leaksBelow, Cond.code yX0_leaksBelow cX0_leaksBelow 3 (some .boolean), Cond.fieldLink RX0 18 "DesertChannels$Channel" "floor" "[I"]
def wsX6_flowOfAll : List Cond := .code yX6_flowOfAll cX6_flowOfAll 3 (some .int) :: ((wsX6_flowOfAll_r1 ++ (wsX6_flowOfAll_r2 ++ wsX6_flowOfAll_r3)) ++ wsX60 ++ wsX00)
def wsX6_count_r1 : List Cond := [Cond.fieldLink RX6 86 "DesertChannels" "channelCount" "I", Cond.fieldLink RX6 135 "DesertChannels" "dugCount" "I", Cond.fieldLink RX6 129 "DesertChannels" "year" "I", Cond.fieldLink RX6 208 "DesertChannels" "now" "I", Cond.fieldLink RX6 123 "DesertChannels" "shareCount" "I", Cond.fieldLink RX6 62 "DesertChannels" "fields" "LDesertChannels$Fields;", Cond.fieldLink RX6 281 "DesertChannels$Fields" "many" "I", Cond.methodLink RX6 290 yX6_letShares, Cond.instanceMethod yX6_letShares, Cond.selects RX6 yX6_letShares yX6_letShares, Cond.initialized RX6, Cond.code yX6_letShares cX6_letShares 3 (some .int), Cond.fieldLink RX6 44 "DesertChannels" "shares" "[LDesertChannels$Share;", Cond.methodLink RX6 238 yX4_isLetFrom, Cond.instanceMethod yX4_isLetFrom, Cond.selects RX4 yX4_isLetFrom yX4_isLetFrom, Cond.initialized RX4, Cond.code yX4_isLetFrom cX4_isLetFrom 2 (some .boolean), Cond.fieldLink RX4 30 "DesertChannels$Share" "letTo" "I", Cond.methodLink RX6 293 yX6_flowOfAll, Cond.instanceMethod yX6_flowOfAll, Cond.selects RX6 yX6_flowOfAll yX6_flowOfAll, Cond.code yX6_flowOfAll cX6_flowOfAll 3 (some .int), Cond.fieldLink RX6 31 "DesertChannels" "channels" "[LDesertChannels$Channel;"]
def wsX6_count_r2 : List Cond := [Cond.methodLink RX6 309 yX0_isDug, Cond.instanceMethod yX0_isDug, Cond.selects RX0 yX0_isDug yX0_isDug, Cond.initialized RX0, Cond.code yX0_isDug cX0_isDug 1 (some .boolean), Cond.fieldLink RX0 25 "DesertChannels$Channel" "turn" "I", Cond.methodLink RX6 158 yX6_flowOf, Cond.instanceMethod yX6_flowOf, Cond.selects RX6 yX6_flowOf yX6_flowOf, Cond.code yX6_flowOf cX6_flowOf 5 (some .int), Cond.methodLink RX6 162 yX0_runningWells, Cond.instanceMethod yX0_runningWells, Cond.selects RX0 yX0_runningWells yX0_runningWells, Cond.code yX0_runningWells cX0_runningWells 2 (some .int), Cond.fieldLink RX0 29 "DesertChannels$Channel" "wells" "I", Cond.fieldLink RX0 21 "DesertChannels$Channel" "collapsed" "[Z", Cond.methodLink RX6 165 yX6_seepAt, Cond.instanceMethod yX6_seepAt, Cond.selects RX6 yX6_seepAt yX6_seepAt, Cond.code yX6_seepAt cX6_seepAt 7 (some .int), Cond.fieldLink RX6 36 "DesertChannels" "head" "I", Cond.fieldLink RX6 39 "DesertChannels" "slope" "I", Cond.fieldLink RX6 330 "DesertChannels$Channel" "x" "[I", Cond.fieldLink RX6 138 "DesertChannels$Channel" "dugOrder" "I"]
def wsX6_count_r3 : List Cond := [Cond.fieldLink RX6 333 "DesertChannels$Channel" "y" "[I", Cond.fieldLink RX6 340 "DesertChannels$Channel" "floor" "[I", Cond.methodLink RX6 346 Lib.Math.min.name, Cond.static Lib.Math.min.name, Cond.initialized "java/lang/Math", Cond.code Lib.Math.min.name Lib.Math.min.code 2 (some .int), Cond.methodLink RX6 301 Lib.Math.max.name, Cond.static Lib.Math.max.name, Cond.code Lib.Math.max.name Lib.Math.max.code 2 (some .int), Cond.methodLink RX6 343 yX6_drawAt, Cond.instanceMethod yX6_drawAt, Cond.selects RX6 yX6_drawAt yX6_drawAt, Cond.code yX6_drawAt cX6_drawAt 7 (some .int), Cond.fieldLink RX6 132 "DesertChannels$Channel" "dugYear" "I", Cond.methodLink RX6 336 yX6_kingSteps, Cond.static yX6_kingSteps, Cond.code yX6_kingSteps cX6_kingSteps 4 (some .int), Cond.methodLink RX6 296 Lib.Math.abs.name, Cond.static Lib.Math.abs.name, Cond.code Lib.Math.abs.name Lib.Math.abs.code 1 (some .int), Cond.methodLink RX6 349 yX0_leaksBelow, Cond.instanceMethod yX0_leaksBelow, Cond.selects RX0 yX0_leaksBelow yX0_leaksBelow, Cond.code yX0_leaksBelow cX0_leaksBelow 3 (some .boolean)]
def wsX6_count_r4 : List Cond := [Cond.fieldLink RX0 18 "DesertChannels$Channel" "floor" "[I"]
def wsX6_count : List Cond := .code yX6_count cX6_count 2 (some .int) :: ((wsX6_count_r1 ++ (wsX6_count_r2 ++ (wsX6_count_r3 ++ wsX6_count_r4))) ++ wsX60 ++ wsX10 ++ wsX40 ++ wsX00)
def wsX7_init_r1 : List Cond := [Cond.methodLink RX7 1 objectInit, Cond.instanceMethod objectInit, Cond.code objectInit ⟨#[0xb1]⟩ 1 none, Cond.fieldLink RX7 7 "DesertChannelsModel" "head" "I", Cond.fieldLink RX7 13 "DesertChannelsModel" "slope" "I", Cond.arrayClass .int, Cond.fieldLink RX7 16 "DesertChannelsModel" "wells" "[I", Cond.arrayClass .boolean, Cond.fieldLink RX7 20 "DesertChannelsModel" "isDug" "[Z", Cond.fieldLink RX7 24 "DesertChannelsModel" "dugIn" "[I", Cond.fieldLink RX7 27 "DesertChannelsModel" "order" "[I", Cond.fieldLink RX7 30 "DesertChannelsModel" "turn" "[I", Cond.fieldLink RX7 33 "DesertChannelsModel" "wx" "[I", Cond.fieldLink RX7 36 "DesertChannelsModel" "wy" "[I", Cond.fieldLink RX7 39 "DesertChannelsModel" "floor" "[I", Cond.fieldLink RX7 42 "DesertChannelsModel" "isDown" "[Z", Cond.fieldLink RX7 45 "DesertChannelsModel" "share" "[I", Cond.fieldLink RX7 48 "DesertChannelsModel" "who" "[I", Cond.fieldLink RX7 51 "DesertChannelsModel" "part" "[I", Cond.fieldLink RX7 54 "DesertChannelsModel" "length" "[I", Cond.fieldLink RX7 57 "DesertChannelsModel" "says" "[I", Cond.fieldLink RX7 60 "DesertChannelsModel" "draft" "[I", Cond.arrayClass .byte, Cond.fieldLink RX7 63 "DesertChannelsModel" "tape" "[B"]
def wsX7_init_r2 : List Cond := [Cond.fieldLink RX7 67 "DesertChannelsModel" "faultAt" "I", Cond.fieldLink RX7 70 "DesertChannelsModel" "five" "[I", Cond.fieldLink RX7 73 "DesertChannelsModel" "minutesOf" "[I", Cond.fieldLink RX7 76 "DesertChannelsModel" "need" "[I", Cond.fieldLink RX7 79 "DesertChannelsModel" "due" "[I", Cond.fieldLink RX7 82 "DesertChannelsModel" "loss" "[I", Cond.fieldLink RX7 85 "DesertChannelsModel" "lost" "[I"]
def wsX7_init : List Cond := .code yX7_init cX7_init 1 none :: ((wsX7_init_r1 ++ wsX7_init_r2) ++ wsX70)
def wsX7_thrown : List Cond := .code yX7_thrown cX7_thrown 1 (some .int) :: ([.fieldLink RX7 88 "DesertChannelsModel" "thrown" "I"] ++ wsX70)
def wsX7_throwsIf : List Cond := .code yX7_throwsIf cX7_throwsIf 3 (some .boolean) :: ([.fieldLink RX7 88 "DesertChannelsModel" "thrown" "I"] ++ wsX70)
def wsX7_in : List Cond := .code yX7_in cX7_in 3 (some .boolean) :: ([])
def wsX7_noChannel : List Cond := .code yX7_noChannel cX7_noChannel 2 (some .boolean) :: ([.fieldLink RX7 91 "DesertChannelsModel" "channels" "I", .methodLink RX7 94 yX7_in, .static yX7_in, .initialized RX7, .code yX7_in cX7_in 3 (some .boolean)] ++ wsX70)
def wsX7_noWell : List Cond := .code yX7_noWell cX7_noWell 3 (some .boolean) :: ([.fieldLink RX7 16 "DesertChannelsModel" "wells" "[I", .methodLink RX7 98 yX7_noChannel, .instanceMethod yX7_noChannel, .selects RX7 yX7_noChannel yX7_noChannel, .initialized RX7, .code yX7_noChannel cX7_noChannel 2 (some .boolean), .fieldLink RX7 91 "DesertChannelsModel" "channels" "I", .methodLink RX7 94 yX7_in, .static yX7_in, .code yX7_in cX7_in 3 (some .boolean)] ++ wsX70)
def wsX7_noShare : List Cond := .code yX7_noShare cX7_noShare 2 (some .boolean) :: ([.fieldLink RX7 102 "DesertChannelsModel" "shares" "I", .methodLink RX7 94 yX7_in, .static yX7_in, .initialized RX7, .code yX7_in cX7_in 3 (some .boolean)] ++ wsX70)
def wsX7_ground : List Cond := .code yX7_ground cX7_ground 3 none :: ([.fieldLink RX7 88 "DesertChannelsModel" "thrown" "I", .fieldLink RX7 7 "DesertChannelsModel" "head" "I", .fieldLink RX7 13 "DesertChannelsModel" "slope" "I", .methodLink RX7 94 yX7_in, .static yX7_in, .initialized RX7, .code yX7_in cX7_in 3 (some .boolean), .methodLink RX7 105 yX7_throwsIf, .instanceMethod yX7_throwsIf, .selects RX7 yX7_throwsIf yX7_throwsIf, .code yX7_throwsIf cX7_throwsIf 3 (some .boolean)] ++ wsX70)
def wsX7_channel : List Cond := .code yX7_channel cX7_channel 1 (some .int) :: ([.fieldLink RX7 88 "DesertChannelsModel" "thrown" "I", .fieldLink RX7 91 "DesertChannelsModel" "channels" "I", .methodLink RX7 105 yX7_throwsIf, .instanceMethod yX7_throwsIf, .selects RX7 yX7_throwsIf yX7_throwsIf, .initialized RX7, .code yX7_throwsIf cX7_throwsIf 3 (some .boolean)] ++ wsX70)
def wsX7_well : List Cond := .code yX7_well cX7_well 7 (some .int) :: ([.fieldLink RX7 88 "DesertChannelsModel" "thrown" "I", .fieldLink RX7 20 "DesertChannelsModel" "isDug" "[Z", .fieldLink RX7 16 "DesertChannelsModel" "wells" "[I", .fieldLink RX7 39 "DesertChannelsModel" "floor" "[I", .fieldLink RX7 33 "DesertChannelsModel" "wx" "[I", .fieldLink RX7 36 "DesertChannelsModel" "wy" "[I", .methodLink RX7 98 yX7_noChannel, .instanceMethod yX7_noChannel, .selects RX7 yX7_noChannel yX7_noChannel, .initialized RX7, .code yX7_noChannel cX7_noChannel 2 (some .boolean), .fieldLink RX7 91 "DesertChannelsModel" "channels" "I", .methodLink RX7 94 yX7_in, .static yX7_in, .code yX7_in cX7_in 3 (some .boolean), .methodLink RX7 105 yX7_throwsIf, .instanceMethod yX7_throwsIf, .selects RX7 yX7_throwsIf yX7_throwsIf, .code yX7_throwsIf cX7_throwsIf 3 (some .boolean)] ++ wsX70)
def wsX7_steps : List Cond := .code yX7_steps cX7_steps 4 (some .int) :: ([.methodLink RX7 109 Lib.Math.abs.name, .static Lib.Math.abs.name, .initialized "java/lang/Math", .code Lib.Math.abs.name Lib.Math.abs.code 1 (some .int), .methodLink RX7 115 Lib.Math.max.name, .static Lib.Math.max.name, .code Lib.Math.max.name Lib.Math.max.code 2 (some .int)])
def wsX7_mayBe : List Cond := .code yX7_mayBe cX7_mayBe 5 (some .boolean) :: ([.fieldLink RX7 16 "DesertChannelsModel" "wells" "[I", .fieldLink RX7 91 "DesertChannelsModel" "channels" "I", .fieldLink RX7 20 "DesertChannelsModel" "isDug" "[Z", .fieldLink RX7 33 "DesertChannelsModel" "wx" "[I", .fieldLink RX7 36 "DesertChannelsModel" "wy" "[I", .fieldLink RX7 57 "DesertChannelsModel" "says" "[I", .fieldLink RX7 39 "DesertChannelsModel" "floor" "[I", .methodLink RX7 119 yX7_steps, .static yX7_steps, .initialized RX7, .code yX7_steps cX7_steps 4 (some .int), .methodLink RX7 109 Lib.Math.abs.name, .static Lib.Math.abs.name, .initialized "java/lang/Math", .code Lib.Math.abs.name Lib.Math.abs.code 1 (some .int), .methodLink RX7 115 Lib.Math.max.name, .static Lib.Math.max.name, .code Lib.Math.max.name Lib.Math.max.code 2 (some .int)] ++ wsX70)
def wsX7_may_r1 : List Cond := [Cond.fieldLink RX7 88 "DesertChannelsModel" "thrown" "I", Cond.fieldLink RX7 20 "DesertChannelsModel" "isDug" "[Z", Cond.methodLink RX7 98 yX7_noChannel, Cond.instanceMethod yX7_noChannel, Cond.selects RX7 yX7_noChannel yX7_noChannel, Cond.initialized RX7, Cond.code yX7_noChannel cX7_noChannel 2 (some .boolean), Cond.fieldLink RX7 91 "DesertChannelsModel" "channels" "I", Cond.methodLink RX7 94 yX7_in, Cond.static yX7_in, Cond.code yX7_in cX7_in 3 (some .boolean), Cond.methodLink RX7 105 yX7_throwsIf, Cond.instanceMethod yX7_throwsIf, Cond.selects RX7 yX7_throwsIf yX7_throwsIf, Cond.code yX7_throwsIf cX7_throwsIf 3 (some .boolean), Cond.methodLink RX7 123 yX7_mayBe, Cond.instanceMethod yX7_mayBe, Cond.selects RX7 yX7_mayBe yX7_mayBe, Cond.code yX7_mayBe cX7_mayBe 5 (some .boolean), Cond.fieldLink RX7 16 "DesertChannelsModel" "wells" "[I", Cond.fieldLink RX7 33 "DesertChannelsModel" "wx" "[I", Cond.fieldLink RX7 36 "DesertChannelsModel" "wy" "[I", Cond.fieldLink RX7 57 "DesertChannelsModel" "says" "[I", Cond.fieldLink RX7 39 "DesertChannelsModel" "floor" "[I"]
def wsX7_may_r2 : List Cond := [Cond.methodLink RX7 119 yX7_steps, Cond.static yX7_steps, Cond.code yX7_steps cX7_steps 4 (some .int), Cond.methodLink RX7 109 Lib.Math.abs.name, Cond.static Lib.Math.abs.name, Cond.initialized "java/lang/Math", Cond.code Lib.Math.abs.name Lib.Math.abs.code 1 (some .int), Cond.methodLink RX7 115 Lib.Math.max.name, Cond.static Lib.Math.max.name, Cond.code Lib.Math.max.name Lib.Math.max.code 2 (some .int)]
def wsX7_may : List Cond := .code yX7_may cX7_may 2 (some .boolean) :: ((wsX7_may_r1 ++ wsX7_may_r2) ++ wsX70)
def wsX7_sets : List Cond := .code yX7_sets cX7_sets 6 none :: ([.fieldLink RX7 45 "DesertChannelsModel" "share" "[I"] ++ wsX70)
def wsX7_adds : List Cond := .code yX7_adds cX7_adds 5 none :: ([.fieldLink RX7 45 "DesertChannelsModel" "share" "[I", .fieldLink RX7 102 "DesertChannelsModel" "shares" "I", .methodLink RX7 156 yX7_sets, .instanceMethod yX7_sets, .selects RX7 yX7_sets yX7_sets, .initialized RX7, .code yX7_sets cX7_sets 6 none] ++ wsX70)
def wsX7_dig_r1 : List Cond := [Cond.fieldLink RX7 88 "DesertChannelsModel" "thrown" "I", Cond.fieldLink RX7 20 "DesertChannelsModel" "isDug" "[Z", Cond.fieldLink RX7 102 "DesertChannelsModel" "shares" "I", Cond.fieldLink RX7 24 "DesertChannelsModel" "dugIn" "[I", Cond.fieldLink RX7 126 "DesertChannelsModel" "year" "I", Cond.fieldLink RX7 27 "DesertChannelsModel" "order" "[I", Cond.fieldLink RX7 129 "DesertChannelsModel" "dug" "I", Cond.fieldLink RX7 30 "DesertChannelsModel" "turn" "[I", Cond.methodLink RX7 98 yX7_noChannel, Cond.instanceMethod yX7_noChannel, Cond.selects RX7 yX7_noChannel yX7_noChannel, Cond.initialized RX7, Cond.code yX7_noChannel cX7_noChannel 2 (some .boolean), Cond.fieldLink RX7 91 "DesertChannelsModel" "channels" "I", Cond.methodLink RX7 94 yX7_in, Cond.static yX7_in, Cond.code yX7_in cX7_in 3 (some .boolean), Cond.methodLink RX7 105 yX7_throwsIf, Cond.instanceMethod yX7_throwsIf, Cond.selects RX7 yX7_throwsIf yX7_throwsIf, Cond.code yX7_throwsIf cX7_throwsIf 3 (some .boolean), Cond.methodLink RX7 123 yX7_mayBe, Cond.instanceMethod yX7_mayBe, Cond.selects RX7 yX7_mayBe yX7_mayBe]
def wsX7_dig_r2 : List Cond := [Cond.code yX7_mayBe cX7_mayBe 5 (some .boolean), Cond.fieldLink RX7 16 "DesertChannelsModel" "wells" "[I", Cond.fieldLink RX7 33 "DesertChannelsModel" "wx" "[I", Cond.fieldLink RX7 36 "DesertChannelsModel" "wy" "[I", Cond.fieldLink RX7 57 "DesertChannelsModel" "says" "[I", Cond.fieldLink RX7 39 "DesertChannelsModel" "floor" "[I", Cond.methodLink RX7 119 yX7_steps, Cond.static yX7_steps, Cond.code yX7_steps cX7_steps 4 (some .int), Cond.methodLink RX7 109 Lib.Math.abs.name, Cond.static Lib.Math.abs.name, Cond.initialized "java/lang/Math", Cond.code Lib.Math.abs.name Lib.Math.abs.code 1 (some .int), Cond.methodLink RX7 115 Lib.Math.max.name, Cond.static Lib.Math.max.name, Cond.code Lib.Math.max.name Lib.Math.max.code 2 (some .int), Cond.methodLink RX7 132 yX7_adds, Cond.instanceMethod yX7_adds, Cond.selects RX7 yX7_adds yX7_adds, Cond.code yX7_adds cX7_adds 5 none, Cond.fieldLink RX7 45 "DesertChannelsModel" "share" "[I", Cond.methodLink RX7 156 yX7_sets, Cond.instanceMethod yX7_sets, Cond.selects RX7 yX7_sets yX7_sets]
def wsX7_dig_r3 : List Cond := [Cond.code yX7_sets cX7_sets 6 none]
def wsX7_dig : List Cond := .code yX7_dig cX7_dig 4 (some .int) :: ((wsX7_dig_r1 ++ (wsX7_dig_r2 ++ wsX7_dig_r3)) ++ wsX70)
def wsX7_years : List Cond := .code yX7_years cX7_years 2 (some .int) :: ([.fieldLink RX7 88 "DesertChannelsModel" "thrown" "I", .fieldLink RX7 126 "DesertChannelsModel" "year" "I", .methodLink RX7 94 yX7_in, .static yX7_in, .initialized RX7, .code yX7_in cX7_in 3 (some .boolean), .methodLink RX7 105 yX7_throwsIf, .instanceMethod yX7_throwsIf, .selects RX7 yX7_throwsIf yX7_throwsIf, .code yX7_throwsIf cX7_throwsIf 3 (some .boolean)] ++ wsX70)
def wsX7_collapse : List Cond := .code yX7_collapse cX7_collapse 5 (some .boolean) :: ([.fieldLink RX7 88 "DesertChannelsModel" "thrown" "I", .fieldLink RX7 20 "DesertChannelsModel" "isDug" "[Z", .fieldLink RX7 42 "DesertChannelsModel" "isDown" "[Z", .methodLink RX7 136 yX7_noWell, .instanceMethod yX7_noWell, .selects RX7 yX7_noWell yX7_noWell, .initialized RX7, .code yX7_noWell cX7_noWell 3 (some .boolean), .fieldLink RX7 16 "DesertChannelsModel" "wells" "[I", .methodLink RX7 98 yX7_noChannel, .instanceMethod yX7_noChannel, .selects RX7 yX7_noChannel yX7_noChannel, .code yX7_noChannel cX7_noChannel 2 (some .boolean), .fieldLink RX7 91 "DesertChannelsModel" "channels" "I", .methodLink RX7 94 yX7_in, .static yX7_in, .code yX7_in cX7_in 3 (some .boolean), .methodLink RX7 105 yX7_throwsIf, .instanceMethod yX7_throwsIf, .selects RX7 yX7_throwsIf yX7_throwsIf, .code yX7_throwsIf cX7_throwsIf 3 (some .boolean)] ++ wsX70)
def wsX7_runs : List Cond := .code yX7_runs cX7_runs 3 (some .int) :: ([.fieldLink RX7 16 "DesertChannelsModel" "wells" "[I", .fieldLink RX7 42 "DesertChannelsModel" "isDown" "[Z"] ++ wsX70)
def wsX7_draw : List Cond := .code yX7_draw cX7_draw 6 (some .int) :: ([.fieldLink RX7 33 "DesertChannelsModel" "wx" "[I", .fieldLink RX7 36 "DesertChannelsModel" "wy" "[I", .methodLink RX7 115 Lib.Math.max.name, .static Lib.Math.max.name, .initialized "java/lang/Math", .code Lib.Math.max.name Lib.Math.max.code 2 (some .int), .fieldLink RX7 126 "DesertChannelsModel" "year" "I", .fieldLink RX7 24 "DesertChannelsModel" "dugIn" "[I", .methodLink RX7 140 yX7_runs, .instanceMethod yX7_runs, .selects RX7 yX7_runs yX7_runs, .initialized RX7, .code yX7_runs cX7_runs 3 (some .int), .fieldLink RX7 16 "DesertChannelsModel" "wells" "[I", .fieldLink RX7 42 "DesertChannelsModel" "isDown" "[Z", .methodLink RX7 119 yX7_steps, .static yX7_steps, .code yX7_steps cX7_steps 4 (some .int), .methodLink RX7 109 Lib.Math.abs.name, .static Lib.Math.abs.name, .code Lib.Math.abs.name Lib.Math.abs.code 1 (some .int)] ++ wsX70)
def wsX7_seeps_r1 : List Cond := [Cond.fieldLink RX7 7 "DesertChannelsModel" "head" "I", Cond.fieldLink RX7 13 "DesertChannelsModel" "slope" "I", Cond.fieldLink RX7 33 "DesertChannelsModel" "wx" "[I", Cond.fieldLink RX7 91 "DesertChannelsModel" "channels" "I", Cond.fieldLink RX7 20 "DesertChannelsModel" "isDug" "[Z", Cond.fieldLink RX7 27 "DesertChannelsModel" "order" "[I", Cond.fieldLink RX7 36 "DesertChannelsModel" "wy" "[I", Cond.fieldLink RX7 39 "DesertChannelsModel" "floor" "[I", Cond.methodLink RX7 147 Lib.Math.min.name, Cond.static Lib.Math.min.name, Cond.initialized "java/lang/Math", Cond.code Lib.Math.min.name Lib.Math.min.code 2 (some .int), Cond.methodLink RX7 143 yX7_draw, Cond.instanceMethod yX7_draw, Cond.selects RX7 yX7_draw yX7_draw, Cond.initialized RX7, Cond.code yX7_draw cX7_draw 6 (some .int), Cond.methodLink RX7 115 Lib.Math.max.name, Cond.static Lib.Math.max.name, Cond.code Lib.Math.max.name Lib.Math.max.code 2 (some .int), Cond.fieldLink RX7 126 "DesertChannelsModel" "year" "I", Cond.fieldLink RX7 24 "DesertChannelsModel" "dugIn" "[I", Cond.methodLink RX7 140 yX7_runs, Cond.instanceMethod yX7_runs]
def wsX7_seeps_r2 : List Cond := [Cond.selects RX7 yX7_runs yX7_runs, Cond.code yX7_runs cX7_runs 3 (some .int), Cond.fieldLink RX7 16 "DesertChannelsModel" "wells" "[I", Cond.fieldLink RX7 42 "DesertChannelsModel" "isDown" "[Z", Cond.methodLink RX7 119 yX7_steps, Cond.static yX7_steps, Cond.code yX7_steps cX7_steps 4 (some .int), Cond.methodLink RX7 109 Lib.Math.abs.name, Cond.static Lib.Math.abs.name, Cond.code Lib.Math.abs.name Lib.Math.abs.code 1 (some .int)]
def wsX7_seeps : List Cond := .code yX7_seeps cX7_seeps 7 (some .int) :: ((wsX7_seeps_r1 ++ wsX7_seeps_r2) ++ wsX70)
def wsX7_flows_r1 : List Cond := [Cond.fieldLink RX7 39 "DesertChannelsModel" "floor" "[I", Cond.methodLink RX7 140 yX7_runs, Cond.instanceMethod yX7_runs, Cond.selects RX7 yX7_runs yX7_runs, Cond.initialized RX7, Cond.code yX7_runs cX7_runs 3 (some .int), Cond.fieldLink RX7 16 "DesertChannelsModel" "wells" "[I", Cond.fieldLink RX7 42 "DesertChannelsModel" "isDown" "[Z", Cond.methodLink RX7 150 yX7_seeps, Cond.instanceMethod yX7_seeps, Cond.selects RX7 yX7_seeps yX7_seeps, Cond.code yX7_seeps cX7_seeps 7 (some .int), Cond.fieldLink RX7 7 "DesertChannelsModel" "head" "I", Cond.fieldLink RX7 13 "DesertChannelsModel" "slope" "I", Cond.fieldLink RX7 33 "DesertChannelsModel" "wx" "[I", Cond.fieldLink RX7 91 "DesertChannelsModel" "channels" "I", Cond.fieldLink RX7 20 "DesertChannelsModel" "isDug" "[Z", Cond.fieldLink RX7 27 "DesertChannelsModel" "order" "[I", Cond.fieldLink RX7 36 "DesertChannelsModel" "wy" "[I", Cond.methodLink RX7 147 Lib.Math.min.name, Cond.static Lib.Math.min.name, Cond.initialized "java/lang/Math", Cond.code Lib.Math.min.name Lib.Math.min.code 2 (some .int), Cond.methodLink RX7 143 yX7_draw]
def wsX7_flows_r2 : List Cond := [Cond.instanceMethod yX7_draw, Cond.selects RX7 yX7_draw yX7_draw, Cond.code yX7_draw cX7_draw 6 (some .int), Cond.methodLink RX7 115 Lib.Math.max.name, Cond.static Lib.Math.max.name, Cond.code Lib.Math.max.name Lib.Math.max.code 2 (some .int), Cond.fieldLink RX7 126 "DesertChannelsModel" "year" "I", Cond.fieldLink RX7 24 "DesertChannelsModel" "dugIn" "[I", Cond.methodLink RX7 119 yX7_steps, Cond.static yX7_steps, Cond.code yX7_steps cX7_steps 4 (some .int), Cond.methodLink RX7 109 Lib.Math.abs.name, Cond.static Lib.Math.abs.name, Cond.code Lib.Math.abs.name Lib.Math.abs.code 1 (some .int)]
def wsX7_flows : List Cond := .code yX7_flows cX7_flows 6 (some .int) :: ((wsX7_flows_r1 ++ wsX7_flows_r2) ++ wsX70)
def wsX7_flow_r1 : List Cond := [Cond.fieldLink RX7 88 "DesertChannelsModel" "thrown" "I", Cond.fieldLink RX7 20 "DesertChannelsModel" "isDug" "[Z", Cond.methodLink RX7 98 yX7_noChannel, Cond.instanceMethod yX7_noChannel, Cond.selects RX7 yX7_noChannel yX7_noChannel, Cond.initialized RX7, Cond.code yX7_noChannel cX7_noChannel 2 (some .boolean), Cond.fieldLink RX7 91 "DesertChannelsModel" "channels" "I", Cond.methodLink RX7 94 yX7_in, Cond.static yX7_in, Cond.code yX7_in cX7_in 3 (some .boolean), Cond.methodLink RX7 105 yX7_throwsIf, Cond.instanceMethod yX7_throwsIf, Cond.selects RX7 yX7_throwsIf yX7_throwsIf, Cond.code yX7_throwsIf cX7_throwsIf 3 (some .boolean), Cond.methodLink RX7 153 yX7_flows, Cond.instanceMethod yX7_flows, Cond.selects RX7 yX7_flows yX7_flows, Cond.code yX7_flows cX7_flows 6 (some .int), Cond.fieldLink RX7 39 "DesertChannelsModel" "floor" "[I", Cond.methodLink RX7 140 yX7_runs, Cond.instanceMethod yX7_runs, Cond.selects RX7 yX7_runs yX7_runs, Cond.code yX7_runs cX7_runs 3 (some .int)]
def wsX7_flow_r2 : List Cond := [Cond.fieldLink RX7 16 "DesertChannelsModel" "wells" "[I", Cond.fieldLink RX7 42 "DesertChannelsModel" "isDown" "[Z", Cond.methodLink RX7 150 yX7_seeps, Cond.instanceMethod yX7_seeps, Cond.selects RX7 yX7_seeps yX7_seeps, Cond.code yX7_seeps cX7_seeps 7 (some .int), Cond.fieldLink RX7 7 "DesertChannelsModel" "head" "I", Cond.fieldLink RX7 13 "DesertChannelsModel" "slope" "I", Cond.fieldLink RX7 33 "DesertChannelsModel" "wx" "[I", Cond.fieldLink RX7 27 "DesertChannelsModel" "order" "[I", Cond.fieldLink RX7 36 "DesertChannelsModel" "wy" "[I", Cond.methodLink RX7 147 Lib.Math.min.name, Cond.static Lib.Math.min.name, Cond.initialized "java/lang/Math", Cond.code Lib.Math.min.name Lib.Math.min.code 2 (some .int), Cond.methodLink RX7 143 yX7_draw, Cond.instanceMethod yX7_draw, Cond.selects RX7 yX7_draw yX7_draw, Cond.code yX7_draw cX7_draw 6 (some .int), Cond.methodLink RX7 115 Lib.Math.max.name, Cond.static Lib.Math.max.name, Cond.code Lib.Math.max.name Lib.Math.max.code 2 (some .int), Cond.fieldLink RX7 126 "DesertChannelsModel" "year" "I", Cond.fieldLink RX7 24 "DesertChannelsModel" "dugIn" "[I"]
def wsX7_flow_r3 : List Cond := [Cond.methodLink RX7 119 yX7_steps, Cond.static yX7_steps, Cond.code yX7_steps cX7_steps 4 (some .int), Cond.methodLink RX7 109 Lib.Math.abs.name, Cond.static Lib.Math.abs.name, Cond.code Lib.Math.abs.name Lib.Math.abs.code 1 (some .int)]
def wsX7_flow : List Cond := .code yX7_flow cX7_flow 2 (some .int) :: ((wsX7_flow_r1 ++ (wsX7_flow_r2 ++ wsX7_flow_r3)) ++ wsX70)
def wsX7_harm_r1 : List Cond := [Cond.fieldLink RX7 88 "DesertChannelsModel" "thrown" "I", Cond.fieldLink RX7 20 "DesertChannelsModel" "isDug" "[Z", Cond.fieldLink RX7 27 "DesertChannelsModel" "order" "[I", Cond.methodLink RX7 98 yX7_noChannel, Cond.instanceMethod yX7_noChannel, Cond.selects RX7 yX7_noChannel yX7_noChannel, Cond.initialized RX7, Cond.code yX7_noChannel cX7_noChannel 2 (some .boolean), Cond.fieldLink RX7 91 "DesertChannelsModel" "channels" "I", Cond.methodLink RX7 94 yX7_in, Cond.static yX7_in, Cond.code yX7_in cX7_in 3 (some .boolean), Cond.methodLink RX7 105 yX7_throwsIf, Cond.instanceMethod yX7_throwsIf, Cond.selects RX7 yX7_throwsIf yX7_throwsIf, Cond.code yX7_throwsIf cX7_throwsIf 3 (some .boolean), Cond.methodLink RX7 153 yX7_flows, Cond.instanceMethod yX7_flows, Cond.selects RX7 yX7_flows yX7_flows, Cond.code yX7_flows cX7_flows 6 (some .int), Cond.fieldLink RX7 39 "DesertChannelsModel" "floor" "[I", Cond.methodLink RX7 140 yX7_runs, Cond.instanceMethod yX7_runs, Cond.selects RX7 yX7_runs yX7_runs]
def wsX7_harm_r2 : List Cond := [Cond.code yX7_runs cX7_runs 3 (some .int), Cond.fieldLink RX7 16 "DesertChannelsModel" "wells" "[I", Cond.fieldLink RX7 42 "DesertChannelsModel" "isDown" "[Z", Cond.methodLink RX7 150 yX7_seeps, Cond.instanceMethod yX7_seeps, Cond.selects RX7 yX7_seeps yX7_seeps, Cond.code yX7_seeps cX7_seeps 7 (some .int), Cond.fieldLink RX7 7 "DesertChannelsModel" "head" "I", Cond.fieldLink RX7 13 "DesertChannelsModel" "slope" "I", Cond.fieldLink RX7 33 "DesertChannelsModel" "wx" "[I", Cond.fieldLink RX7 36 "DesertChannelsModel" "wy" "[I", Cond.methodLink RX7 147 Lib.Math.min.name, Cond.static Lib.Math.min.name, Cond.initialized "java/lang/Math", Cond.code Lib.Math.min.name Lib.Math.min.code 2 (some .int), Cond.methodLink RX7 143 yX7_draw, Cond.instanceMethod yX7_draw, Cond.selects RX7 yX7_draw yX7_draw, Cond.code yX7_draw cX7_draw 6 (some .int), Cond.methodLink RX7 115 Lib.Math.max.name, Cond.static Lib.Math.max.name, Cond.code Lib.Math.max.name Lib.Math.max.code 2 (some .int), Cond.fieldLink RX7 126 "DesertChannelsModel" "year" "I", Cond.fieldLink RX7 24 "DesertChannelsModel" "dugIn" "[I"]
def wsX7_harm_r3 : List Cond := [Cond.methodLink RX7 119 yX7_steps, Cond.static yX7_steps, Cond.code yX7_steps cX7_steps 4 (some .int), Cond.methodLink RX7 109 Lib.Math.abs.name, Cond.static Lib.Math.abs.name, Cond.code Lib.Math.abs.name Lib.Math.abs.code 1 (some .int)]
def wsX7_harm : List Cond := .code yX7_harm cX7_harm 2 (some .int) :: ((wsX7_harm_r1 ++ (wsX7_harm_r2 ++ wsX7_harm_r3)) ++ wsX70)
def wsX7_seep_r1 : List Cond := [Cond.fieldLink RX7 88 "DesertChannelsModel" "thrown" "I", Cond.fieldLink RX7 20 "DesertChannelsModel" "isDug" "[Z", Cond.methodLink RX7 136 yX7_noWell, Cond.instanceMethod yX7_noWell, Cond.selects RX7 yX7_noWell yX7_noWell, Cond.initialized RX7, Cond.code yX7_noWell cX7_noWell 3 (some .boolean), Cond.fieldLink RX7 16 "DesertChannelsModel" "wells" "[I", Cond.methodLink RX7 98 yX7_noChannel, Cond.instanceMethod yX7_noChannel, Cond.selects RX7 yX7_noChannel yX7_noChannel, Cond.code yX7_noChannel cX7_noChannel 2 (some .boolean), Cond.fieldLink RX7 91 "DesertChannelsModel" "channels" "I", Cond.methodLink RX7 94 yX7_in, Cond.static yX7_in, Cond.code yX7_in cX7_in 3 (some .boolean), Cond.methodLink RX7 105 yX7_throwsIf, Cond.instanceMethod yX7_throwsIf, Cond.selects RX7 yX7_throwsIf yX7_throwsIf, Cond.code yX7_throwsIf cX7_throwsIf 3 (some .boolean), Cond.methodLink RX7 140 yX7_runs, Cond.instanceMethod yX7_runs, Cond.selects RX7 yX7_runs yX7_runs, Cond.code yX7_runs cX7_runs 3 (some .int)]
def wsX7_seep_r2 : List Cond := [Cond.fieldLink RX7 42 "DesertChannelsModel" "isDown" "[Z", Cond.methodLink RX7 150 yX7_seeps, Cond.instanceMethod yX7_seeps, Cond.selects RX7 yX7_seeps yX7_seeps, Cond.code yX7_seeps cX7_seeps 7 (some .int), Cond.fieldLink RX7 7 "DesertChannelsModel" "head" "I", Cond.fieldLink RX7 13 "DesertChannelsModel" "slope" "I", Cond.fieldLink RX7 33 "DesertChannelsModel" "wx" "[I", Cond.fieldLink RX7 27 "DesertChannelsModel" "order" "[I", Cond.fieldLink RX7 36 "DesertChannelsModel" "wy" "[I", Cond.fieldLink RX7 39 "DesertChannelsModel" "floor" "[I", Cond.methodLink RX7 147 Lib.Math.min.name, Cond.static Lib.Math.min.name, Cond.initialized "java/lang/Math", Cond.code Lib.Math.min.name Lib.Math.min.code 2 (some .int), Cond.methodLink RX7 143 yX7_draw, Cond.instanceMethod yX7_draw, Cond.selects RX7 yX7_draw yX7_draw, Cond.code yX7_draw cX7_draw 6 (some .int), Cond.methodLink RX7 115 Lib.Math.max.name, Cond.static Lib.Math.max.name, Cond.code Lib.Math.max.name Lib.Math.max.code 2 (some .int), Cond.fieldLink RX7 126 "DesertChannelsModel" "year" "I", Cond.fieldLink RX7 24 "DesertChannelsModel" "dugIn" "[I"]
def wsX7_seep_r3 : List Cond := [Cond.methodLink RX7 119 yX7_steps, Cond.static yX7_steps, Cond.code yX7_steps cX7_steps 4 (some .int), Cond.methodLink RX7 109 Lib.Math.abs.name, Cond.static Lib.Math.abs.name, Cond.code Lib.Math.abs.name Lib.Math.abs.code 1 (some .int)]
def wsX7_seep : List Cond := .code yX7_seep cX7_seep 3 (some .int) :: ((wsX7_seep_r1 ++ (wsX7_seep_r2 ++ wsX7_seep_r3)) ++ wsX70)
def wsX7_isLet : List Cond := .code yX7_isLet cX7_isLet 2 (some .boolean) :: ([.fieldLink RX7 45 "DesertChannelsModel" "share" "[I", .fieldLink RX7 159 "DesertChannelsModel" "now" "I"] ++ wsX70)
def wsX7_noOwner : List Cond := .code yX7_noOwner cX7_noOwner 1 (some .boolean) :: ([.methodLink RX7 94 yX7_in, .static yX7_in, .initialized RX7, .code yX7_in cX7_in 3 (some .boolean)])
def wsX7_sell_r1 : List Cond := [Cond.fieldLink RX7 88 "DesertChannelsModel" "thrown" "I", Cond.fieldLink RX7 45 "DesertChannelsModel" "share" "[I", Cond.fieldLink RX7 102 "DesertChannelsModel" "shares" "I", Cond.methodLink RX7 162 yX7_noShare, Cond.instanceMethod yX7_noShare, Cond.selects RX7 yX7_noShare yX7_noShare, Cond.initialized RX7, Cond.code yX7_noShare cX7_noShare 2 (some .boolean), Cond.methodLink RX7 94 yX7_in, Cond.static yX7_in, Cond.code yX7_in cX7_in 3 (some .boolean), Cond.methodLink RX7 105 yX7_throwsIf, Cond.instanceMethod yX7_throwsIf, Cond.selects RX7 yX7_throwsIf yX7_throwsIf, Cond.code yX7_throwsIf cX7_throwsIf 3 (some .boolean), Cond.methodLink RX7 165 yX7_isLet, Cond.instanceMethod yX7_isLet, Cond.selects RX7 yX7_isLet yX7_isLet, Cond.code yX7_isLet cX7_isLet 2 (some .boolean), Cond.fieldLink RX7 159 "DesertChannelsModel" "now" "I", Cond.methodLink RX7 168 yX7_noOwner, Cond.static yX7_noOwner, Cond.code yX7_noOwner cX7_noOwner 1 (some .boolean), Cond.methodLink RX7 156 yX7_sets]
def wsX7_sell_r2 : List Cond := [Cond.instanceMethod yX7_sets, Cond.selects RX7 yX7_sets yX7_sets, Cond.code yX7_sets cX7_sets 6 none, Cond.methodLink RX7 132 yX7_adds, Cond.instanceMethod yX7_adds, Cond.selects RX7 yX7_adds yX7_adds, Cond.code yX7_adds cX7_adds 5 none]
def wsX7_sell : List Cond := .code yX7_sell cX7_sell 11 none :: ((wsX7_sell_r1 ++ wsX7_sell_r2) ++ wsX70)
def wsX7_heirs_r1 : List Cond := [Cond.fieldLink RX7 88 "DesertChannelsModel" "thrown" "I", Cond.fieldLink RX7 48 "DesertChannelsModel" "who" "[I", Cond.fieldLink RX7 51 "DesertChannelsModel" "part" "[I", Cond.fieldLink RX7 45 "DesertChannelsModel" "share" "[I", Cond.fieldLink RX7 54 "DesertChannelsModel" "length" "[I", Cond.fieldLink RX7 102 "DesertChannelsModel" "shares" "I", Cond.methodLink RX7 162 yX7_noShare, Cond.instanceMethod yX7_noShare, Cond.selects RX7 yX7_noShare yX7_noShare, Cond.initialized RX7, Cond.code yX7_noShare cX7_noShare 2 (some .boolean), Cond.methodLink RX7 94 yX7_in, Cond.static yX7_in, Cond.code yX7_in cX7_in 3 (some .boolean), Cond.methodLink RX7 105 yX7_throwsIf, Cond.instanceMethod yX7_throwsIf, Cond.selects RX7 yX7_throwsIf yX7_throwsIf, Cond.code yX7_throwsIf cX7_throwsIf 3 (some .boolean), Cond.methodLink RX7 165 yX7_isLet, Cond.instanceMethod yX7_isLet, Cond.selects RX7 yX7_isLet yX7_isLet, Cond.code yX7_isLet cX7_isLet 2 (some .boolean), Cond.fieldLink RX7 159 "DesertChannelsModel" "now" "I", Cond.methodLink RX7 168 yX7_noOwner]
def wsX7_heirs_r2 : List Cond := [Cond.static yX7_noOwner, Cond.code yX7_noOwner cX7_noOwner 1 (some .boolean), Cond.methodLink RX7 156 yX7_sets, Cond.instanceMethod yX7_sets, Cond.selects RX7 yX7_sets yX7_sets, Cond.code yX7_sets cX7_sets 6 none, Cond.methodLink RX7 132 yX7_adds, Cond.instanceMethod yX7_adds, Cond.selects RX7 yX7_adds yX7_adds, Cond.code yX7_adds cX7_adds 5 none]
def wsX7_heirs : List Cond := .code yX7_heirs cX7_heirs 20 (some .int) :: ((wsX7_heirs_r1 ++ wsX7_heirs_r2) ++ wsX70)
def wsX7_let : List Cond := .code yX7_let cX7_let 6 none :: ([.fieldLink RX7 88 "DesertChannelsModel" "thrown" "I", .fieldLink RX7 45 "DesertChannelsModel" "share" "[I", .fieldLink RX7 159 "DesertChannelsModel" "now" "I", .constant RX7 171 (100000000), .methodLink RX7 162 yX7_noShare, .instanceMethod yX7_noShare, .selects RX7 yX7_noShare yX7_noShare, .initialized RX7, .code yX7_noShare cX7_noShare 2 (some .boolean), .fieldLink RX7 102 "DesertChannelsModel" "shares" "I", .methodLink RX7 94 yX7_in, .static yX7_in, .code yX7_in cX7_in 3 (some .boolean), .methodLink RX7 105 yX7_throwsIf, .instanceMethod yX7_throwsIf, .selects RX7 yX7_throwsIf yX7_throwsIf, .code yX7_throwsIf cX7_throwsIf 3 (some .boolean), .methodLink RX7 165 yX7_isLet, .instanceMethod yX7_isLet, .selects RX7 yX7_isLet yX7_isLet, .code yX7_isLet cX7_isLet 2 (some .boolean), .methodLink RX7 168 yX7_noOwner, .static yX7_noOwner, .code yX7_noOwner cX7_noOwner 1 (some .boolean)] ++ wsX70)
def wsX7_minutes : List Cond := .code yX7_minutes cX7_minutes 2 (some .int) :: ([.fieldLink RX7 88 "DesertChannelsModel" "thrown" "I", .constant RX7 172 (100000), .fieldLink RX7 159 "DesertChannelsModel" "now" "I", .methodLink RX7 94 yX7_in, .static yX7_in, .initialized RX7, .code yX7_in cX7_in 3 (some .boolean), .methodLink RX7 105 yX7_throwsIf, .instanceMethod yX7_throwsIf, .selects RX7 yX7_throwsIf yX7_throwsIf, .code yX7_throwsIf cX7_throwsIf 3 (some .boolean)] ++ wsX70)
def wsX7_holder : List Cond := .code yX7_holder cX7_holder 6 (some .int) :: ([.fieldLink RX7 88 "DesertChannelsModel" "thrown" "I", .fieldLink RX7 20 "DesertChannelsModel" "isDug" "[Z", .fieldLink RX7 30 "DesertChannelsModel" "turn" "[I", .fieldLink RX7 102 "DesertChannelsModel" "shares" "I", .fieldLink RX7 45 "DesertChannelsModel" "share" "[I", .methodLink RX7 98 yX7_noChannel, .instanceMethod yX7_noChannel, .selects RX7 yX7_noChannel yX7_noChannel, .initialized RX7, .code yX7_noChannel cX7_noChannel 2 (some .boolean), .fieldLink RX7 91 "DesertChannelsModel" "channels" "I", .methodLink RX7 94 yX7_in, .static yX7_in, .code yX7_in cX7_in 3 (some .boolean), .methodLink RX7 105 yX7_throwsIf, .instanceMethod yX7_throwsIf, .selects RX7 yX7_throwsIf yX7_throwsIf, .code yX7_throwsIf cX7_throwsIf 3 (some .boolean)] ++ wsX70)
def wsX7_share : List Cond := .code yX7_share cX7_share 3 (some .int) :: ([.fieldLink RX7 88 "DesertChannelsModel" "thrown" "I", .fieldLink RX7 45 "DesertChannelsModel" "share" "[I", .methodLink RX7 162 yX7_noShare, .instanceMethod yX7_noShare, .selects RX7 yX7_noShare yX7_noShare, .initialized RX7, .code yX7_noShare cX7_noShare 2 (some .boolean), .fieldLink RX7 102 "DesertChannelsModel" "shares" "I", .methodLink RX7 94 yX7_in, .static yX7_in, .code yX7_in cX7_in 3 (some .boolean), .methodLink RX7 105 yX7_throwsIf, .instanceMethod yX7_throwsIf, .selects RX7 yX7_throwsIf yX7_throwsIf, .code yX7_throwsIf cX7_throwsIf 3 (some .boolean), .methodLink RX7 165 yX7_isLet, .instanceMethod yX7_isLet, .selects RX7 yX7_isLet yX7_isLet, .code yX7_isLet cX7_isLet 2 (some .boolean), .fieldLink RX7 159 "DesertChannelsModel" "now" "I"] ++ wsX70)
def wsX7_feed : List Cond := .code yX7_feed cX7_feed 7 (some .int) :: ([.fieldLink RX7 88 "DesertChannelsModel" "thrown" "I", .fieldLink RX7 173 "DesertChannelsModel" "taped" "I", .fieldLink RX7 70 "DesertChannelsModel" "five" "[I", .fieldLink RX7 63 "DesertChannelsModel" "tape" "[B"] ++ wsX70)
def wsX7_end : List Cond := .code yX7_end cX7_end 2 (some .boolean) :: ([.fieldLink RX7 88 "DesertChannelsModel" "thrown" "I", .fieldLink RX7 173 "DesertChannelsModel" "taped" "I"] ++ wsX70)
def wsX7_isAt : List Cond := .code yX7_isAt cX7_isAt 3 (some .boolean) :: ([.fieldLink RX7 176 "DesertChannelsModel" "point" "I", .fieldLink RX7 179 "DesertChannelsModel" "end" "I", .fieldLink RX7 63 "DesertChannelsModel" "tape" "[B"] ++ wsX70)
def wsX7_blanks : List Cond := .code yX7_blanks cX7_blanks 1 none :: ([.fieldLink RX7 176 "DesertChannelsModel" "point" "I", .fieldLink RX7 185 "DesertChannelsModel" "begin" "I", .methodLink RX7 182 yX7_isAt, .instanceMethod yX7_isAt, .selects RX7 yX7_isAt yX7_isAt, .initialized RX7, .code yX7_isAt cX7_isAt 3 (some .boolean), .fieldLink RX7 179 "DesertChannelsModel" "end" "I", .fieldLink RX7 63 "DesertChannelsModel" "tape" "[B"] ++ wsX70)
def wsX7_isWord_r1 : List Cond := [Cond.fieldLink RX7 176 "DesertChannelsModel" "point" "I", Cond.fieldLink RX7 185 "DesertChannelsModel" "begin" "I", Cond.fieldLink RX7 63 "DesertChannelsModel" "tape" "[B", Cond.methodLink RX7 188 yJ0_length_8abf5, Cond.instanceMethod yJ0_length_8abf5, Cond.selects RJ0 yJ0_length_8abf5 yJ0_length_8abf5, Cond.initialized RJ0, Cond.code yJ0_length_8abf5 cJ0_length_8abf5 1 (some .int), Cond.fieldLink RJ0 9 "java/lang/String" "value" "[B", Cond.methodLink RJ0 335 yJ0_coder_7d493, Cond.instanceMethod yJ0_coder_7d493, Cond.selects RJ0 yJ0_coder_7d493 yJ0_coder_7d493, Cond.code yJ0_coder_7d493 cJ0_coder_7d493 1 (some .byte), Cond.fieldLink RJ0 38 "java/lang/String" "COMPACT_STRINGS" "Z", Cond.fieldLink RJ0 15 "java/lang/String" "coder" "B", Cond.methodLink RX7 193 yJ0_charAt_5068e, Cond.instanceMethod yJ0_charAt_5068e, Cond.selects RJ0 yJ0_charAt_5068e yJ0_charAt_5068e, Cond.code yJ0_charAt_5068e cJ0_charAt_5068e 2 (some .char), Cond.methodLink RJ0 492 yJ0_isLatin1_aae02, Cond.instanceMethod yJ0_isLatin1_aae02, Cond.selects RJ0 yJ0_isLatin1_aae02 yJ0_isLatin1_aae02, Cond.code yJ0_isLatin1_aae02 cJ0_isLatin1_aae02 1 (some .boolean), Cond.methodLink RJ0 495 yJ1_charAt_3b067]
def wsX7_isWord_r2 : List Cond := [Cond.static yJ1_charAt_3b067, Cond.initialized RJ1, Cond.code yJ1_charAt_3b067 cJ1_charAt_3b067 2 (some .char), Cond.methodLink RJ1 9 yJ0_checkIndex_df160, Cond.static yJ0_checkIndex_df160, Cond.code yJ0_checkIndex_df160 cJ0_checkIndex_df160 2 none, Cond.fieldLink RJ0 1053 "jdk/internal/util/Preconditions" "SIOOBE_FORMATTER" "Ljava/util/function/BiFunction;", Cond.methodLink RJ0 1059 yJ3_checkIndex_8e157, Cond.static yJ3_checkIndex_8e157, Cond.initialized RJ3, Cond.code yJ3_checkIndex_8e157 cJ3_checkIndex_8e157 3 (some .int), Cond.methodLink RJ0 498 yJ2_charAt_3b067, Cond.static yJ2_charAt_3b067, Cond.initialized RJ2, Cond.code yJ2_charAt_3b067 cJ2_charAt_3b067 2 (some .char), Cond.methodLink RJ2 67 yJ2_checkIndex_2214a, Cond.static yJ2_checkIndex_2214a, Cond.code yJ2_checkIndex_2214a cJ2_checkIndex_2214a 2 none, Cond.methodLink RJ2 48 yJ2_length_9d52b, Cond.static yJ2_length_9d52b, Cond.code yJ2_length_9d52b cJ2_length_9d52b 1 (some .int), Cond.methodLink RJ2 414 yJ0_checkIndex_df160, Cond.methodLink RJ2 71 yJ2_getChar_3b067, Cond.static yJ2_getChar_3b067]
def wsX7_isWord_r3 : List Cond := [Cond.code yJ2_getChar_3b067 cJ2_getChar_3b067 2 (some .char), Cond.fieldLink RJ2 44 "java/lang/StringUTF16" "$assertionsDisabled" "Z", Cond.fieldLink RJ2 59 "java/lang/StringUTF16" "HI_BYTE_SHIFT" "I", Cond.fieldLink RJ2 63 "java/lang/StringUTF16" "LO_BYTE_SHIFT" "I"]
def wsX7_isWord : List Cond := .code yX7_isWord cX7_isWord 4 (some .boolean) :: ((wsX7_isWord_r1 ++ (wsX7_isWord_r2 ++ wsX7_isWord_r3)) ++ wsX70)
def wsX7_word : List Cond := .code yX7_word cX7_word 1 none :: ([.fieldLink RX7 176 "DesertChannelsModel" "point" "I", .methodLink RX7 197 yX7_blanks, .instanceMethod yX7_blanks, .selects RX7 yX7_blanks yX7_blanks, .initialized RX7, .code yX7_blanks cX7_blanks 1 none, .fieldLink RX7 185 "DesertChannelsModel" "begin" "I", .methodLink RX7 182 yX7_isAt, .instanceMethod yX7_isAt, .selects RX7 yX7_isAt yX7_isAt, .code yX7_isAt cX7_isAt 3 (some .boolean), .fieldLink RX7 179 "DesertChannelsModel" "end" "I", .fieldLink RX7 63 "DesertChannelsModel" "tape" "[B"] ++ wsX70)
def wsX7_number : List Cond := .code yX7_number cX7_number 4 (some .boolean) :: ([.fieldLink RX7 176 "DesertChannelsModel" "point" "I", .fieldLink RX7 185 "DesertChannelsModel" "begin" "I", .fieldLink RX7 63 "DesertChannelsModel" "tape" "[B", .fieldLink RX7 60 "DesertChannelsModel" "draft" "[I", .methodLink RX7 197 yX7_blanks, .instanceMethod yX7_blanks, .selects RX7 yX7_blanks yX7_blanks, .initialized RX7, .code yX7_blanks cX7_blanks 1 none, .methodLink RX7 182 yX7_isAt, .instanceMethod yX7_isAt, .selects RX7 yX7_isAt yX7_isAt, .code yX7_isAt cX7_isAt 3 (some .boolean), .fieldLink RX7 179 "DesertChannelsModel" "end" "I"] ++ wsX70)
def wsX7_readTerm_r1 : List Cond := [Cond.fieldLink RX7 60 "DesertChannelsModel" "draft" "[I", Cond.methodLink RX7 200 yX7_word, Cond.instanceMethod yX7_word, Cond.selects RX7 yX7_word yX7_word, Cond.initialized RX7, Cond.code yX7_word cX7_word 1 none, Cond.fieldLink RX7 176 "DesertChannelsModel" "point" "I", Cond.methodLink RX7 197 yX7_blanks, Cond.instanceMethod yX7_blanks, Cond.selects RX7 yX7_blanks yX7_blanks, Cond.code yX7_blanks cX7_blanks 1 none, Cond.fieldLink RX7 185 "DesertChannelsModel" "begin" "I", Cond.methodLink RX7 182 yX7_isAt, Cond.instanceMethod yX7_isAt, Cond.selects RX7 yX7_isAt yX7_isAt, Cond.code yX7_isAt cX7_isAt 3 (some .boolean), Cond.fieldLink RX7 179 "DesertChannelsModel" "end" "I", Cond.fieldLink RX7 63 "DesertChannelsModel" "tape" "[B", Cond.methodLink RX7 205 yX7_isWord, Cond.instanceMethod yX7_isWord, Cond.selects RX7 yX7_isWord yX7_isWord, Cond.code yX7_isWord cX7_isWord 4 (some .boolean), Cond.methodLink RX7 188 yJ0_length_8abf5, Cond.instanceMethod yJ0_length_8abf5]
def wsX7_readTerm_r2 : List Cond := [Cond.selects RJ0 yJ0_length_8abf5 yJ0_length_8abf5, Cond.initialized RJ0, Cond.code yJ0_length_8abf5 cJ0_length_8abf5 1 (some .int), Cond.fieldLink RJ0 9 "java/lang/String" "value" "[B", Cond.methodLink RJ0 335 yJ0_coder_7d493, Cond.instanceMethod yJ0_coder_7d493, Cond.selects RJ0 yJ0_coder_7d493 yJ0_coder_7d493, Cond.code yJ0_coder_7d493 cJ0_coder_7d493 1 (some .byte), Cond.fieldLink RJ0 38 "java/lang/String" "COMPACT_STRINGS" "Z", Cond.fieldLink RJ0 15 "java/lang/String" "coder" "B", Cond.methodLink RX7 193 yJ0_charAt_5068e, Cond.instanceMethod yJ0_charAt_5068e, Cond.selects RJ0 yJ0_charAt_5068e yJ0_charAt_5068e, Cond.code yJ0_charAt_5068e cJ0_charAt_5068e 2 (some .char), Cond.methodLink RJ0 492 yJ0_isLatin1_aae02, Cond.instanceMethod yJ0_isLatin1_aae02, Cond.selects RJ0 yJ0_isLatin1_aae02 yJ0_isLatin1_aae02, Cond.code yJ0_isLatin1_aae02 cJ0_isLatin1_aae02 1 (some .boolean), Cond.methodLink RJ0 495 yJ1_charAt_3b067, Cond.static yJ1_charAt_3b067, Cond.initialized RJ1, Cond.code yJ1_charAt_3b067 cJ1_charAt_3b067 2 (some .char), Cond.methodLink RJ1 9 yJ0_checkIndex_df160, Cond.static yJ0_checkIndex_df160]
def wsX7_readTerm_r3 : List Cond := [Cond.code yJ0_checkIndex_df160 cJ0_checkIndex_df160 2 none, Cond.fieldLink RJ0 1053 "jdk/internal/util/Preconditions" "SIOOBE_FORMATTER" "Ljava/util/function/BiFunction;", Cond.methodLink RJ0 1059 yJ3_checkIndex_8e157, Cond.static yJ3_checkIndex_8e157, Cond.initialized RJ3, Cond.code yJ3_checkIndex_8e157 cJ3_checkIndex_8e157 3 (some .int), Cond.methodLink RJ0 498 yJ2_charAt_3b067, Cond.static yJ2_charAt_3b067, Cond.initialized RJ2, Cond.code yJ2_charAt_3b067 cJ2_charAt_3b067 2 (some .char), Cond.methodLink RJ2 67 yJ2_checkIndex_2214a, Cond.static yJ2_checkIndex_2214a, Cond.code yJ2_checkIndex_2214a cJ2_checkIndex_2214a 2 none, Cond.methodLink RJ2 48 yJ2_length_9d52b, Cond.static yJ2_length_9d52b, Cond.code yJ2_length_9d52b cJ2_length_9d52b 1 (some .int), Cond.methodLink RJ2 414 yJ0_checkIndex_df160, Cond.methodLink RJ2 71 yJ2_getChar_3b067, Cond.static yJ2_getChar_3b067, Cond.code yJ2_getChar_3b067 cJ2_getChar_3b067 2 (some .char), Cond.fieldLink RJ2 44 "java/lang/StringUTF16" "$assertionsDisabled" "Z", Cond.fieldLink RJ2 59 "java/lang/StringUTF16" "HI_BYTE_SHIFT" "I", Cond.fieldLink RJ2 63 "java/lang/StringUTF16" "LO_BYTE_SHIFT" "I", Cond.methodLink RX7 209 yX7_number]
def wsX7_readTerm_r4 : List Cond := [Cond.instanceMethod yX7_number, Cond.selects RX7 yX7_number yX7_number, Cond.code yX7_number cX7_number 4 (some .boolean)]
def wsX7_readTerm : List Cond := .code yX7_readTerm cX7_readTerm 1 (some .boolean) :: ((wsX7_readTerm_r1 ++ (wsX7_readTerm_r2 ++ (wsX7_readTerm_r3 ++ wsX7_readTerm_r4))) ++ wsX70)
def wsX7_law_r1 : List Cond := [Cond.fieldLink RX7 88 "DesertChannelsModel" "thrown" "I", Cond.fieldLink RX7 173 "DesertChannelsModel" "taped" "I", Cond.fieldLink RX7 179 "DesertChannelsModel" "end" "I", Cond.fieldLink RX7 176 "DesertChannelsModel" "point" "I", Cond.fieldLink RX7 60 "DesertChannelsModel" "draft" "[I", Cond.fieldLink RX7 57 "DesertChannelsModel" "says" "[I", Cond.fieldLink RX7 185 "DesertChannelsModel" "begin" "I", Cond.fieldLink RX7 67 "DesertChannelsModel" "faultAt" "I", Cond.methodLink RX7 222 yX7_readTerm, Cond.instanceMethod yX7_readTerm, Cond.selects RX7 yX7_readTerm yX7_readTerm, Cond.initialized RX7, Cond.code yX7_readTerm cX7_readTerm 1 (some .boolean), Cond.methodLink RX7 200 yX7_word, Cond.instanceMethod yX7_word, Cond.selects RX7 yX7_word yX7_word, Cond.code yX7_word cX7_word 1 none, Cond.methodLink RX7 197 yX7_blanks, Cond.instanceMethod yX7_blanks, Cond.selects RX7 yX7_blanks yX7_blanks, Cond.code yX7_blanks cX7_blanks 1 none, Cond.methodLink RX7 182 yX7_isAt, Cond.instanceMethod yX7_isAt, Cond.selects RX7 yX7_isAt yX7_isAt]
def wsX7_law_r2 : List Cond := [Cond.code yX7_isAt cX7_isAt 3 (some .boolean), Cond.fieldLink RX7 63 "DesertChannelsModel" "tape" "[B", Cond.methodLink RX7 205 yX7_isWord, Cond.instanceMethod yX7_isWord, Cond.selects RX7 yX7_isWord yX7_isWord, Cond.code yX7_isWord cX7_isWord 4 (some .boolean), Cond.methodLink RX7 188 yJ0_length_8abf5, Cond.instanceMethod yJ0_length_8abf5, Cond.selects RJ0 yJ0_length_8abf5 yJ0_length_8abf5, Cond.initialized RJ0, Cond.code yJ0_length_8abf5 cJ0_length_8abf5 1 (some .int), Cond.fieldLink RJ0 9 "java/lang/String" "value" "[B", Cond.methodLink RJ0 335 yJ0_coder_7d493, Cond.instanceMethod yJ0_coder_7d493, Cond.selects RJ0 yJ0_coder_7d493 yJ0_coder_7d493, Cond.code yJ0_coder_7d493 cJ0_coder_7d493 1 (some .byte), Cond.fieldLink RJ0 38 "java/lang/String" "COMPACT_STRINGS" "Z", Cond.fieldLink RJ0 15 "java/lang/String" "coder" "B", Cond.methodLink RX7 193 yJ0_charAt_5068e, Cond.instanceMethod yJ0_charAt_5068e, Cond.selects RJ0 yJ0_charAt_5068e yJ0_charAt_5068e, Cond.code yJ0_charAt_5068e cJ0_charAt_5068e 2 (some .char), Cond.methodLink RJ0 492 yJ0_isLatin1_aae02, Cond.instanceMethod yJ0_isLatin1_aae02]
def wsX7_law_r3 : List Cond := [Cond.selects RJ0 yJ0_isLatin1_aae02 yJ0_isLatin1_aae02, Cond.code yJ0_isLatin1_aae02 cJ0_isLatin1_aae02 1 (some .boolean), Cond.methodLink RJ0 495 yJ1_charAt_3b067, Cond.static yJ1_charAt_3b067, Cond.initialized RJ1, Cond.code yJ1_charAt_3b067 cJ1_charAt_3b067 2 (some .char), Cond.methodLink RJ1 9 yJ0_checkIndex_df160, Cond.static yJ0_checkIndex_df160, Cond.code yJ0_checkIndex_df160 cJ0_checkIndex_df160 2 none, Cond.fieldLink RJ0 1053 "jdk/internal/util/Preconditions" "SIOOBE_FORMATTER" "Ljava/util/function/BiFunction;", Cond.methodLink RJ0 1059 yJ3_checkIndex_8e157, Cond.static yJ3_checkIndex_8e157, Cond.initialized RJ3, Cond.code yJ3_checkIndex_8e157 cJ3_checkIndex_8e157 3 (some .int), Cond.methodLink RJ0 498 yJ2_charAt_3b067, Cond.static yJ2_charAt_3b067, Cond.initialized RJ2, Cond.code yJ2_charAt_3b067 cJ2_charAt_3b067 2 (some .char), Cond.methodLink RJ2 67 yJ2_checkIndex_2214a, Cond.static yJ2_checkIndex_2214a, Cond.code yJ2_checkIndex_2214a cJ2_checkIndex_2214a 2 none, Cond.methodLink RJ2 48 yJ2_length_9d52b, Cond.static yJ2_length_9d52b, Cond.code yJ2_length_9d52b cJ2_length_9d52b 1 (some .int)]
def wsX7_law_r4 : List Cond := [Cond.methodLink RJ2 414 yJ0_checkIndex_df160, Cond.methodLink RJ2 71 yJ2_getChar_3b067, Cond.static yJ2_getChar_3b067, Cond.code yJ2_getChar_3b067 cJ2_getChar_3b067 2 (some .char), Cond.fieldLink RJ2 44 "java/lang/StringUTF16" "$assertionsDisabled" "Z", Cond.fieldLink RJ2 59 "java/lang/StringUTF16" "HI_BYTE_SHIFT" "I", Cond.fieldLink RJ2 63 "java/lang/StringUTF16" "LO_BYTE_SHIFT" "I", Cond.methodLink RX7 209 yX7_number, Cond.instanceMethod yX7_number, Cond.selects RX7 yX7_number yX7_number, Cond.code yX7_number cX7_number 4 (some .boolean), Cond.methodLink RX7 105 yX7_throwsIf, Cond.instanceMethod yX7_throwsIf, Cond.selects RX7 yX7_throwsIf yX7_throwsIf, Cond.code yX7_throwsIf cX7_throwsIf 3 (some .boolean)]
def wsX7_law : List Cond := .code yX7_law cX7_law 4 (some .int) :: ((wsX7_law_r1 ++ (wsX7_law_r2 ++ (wsX7_law_r3 ++ wsX7_law_r4))) ++ wsX70)
def wsX7_fault : List Cond := .code yX7_fault cX7_fault 1 (some .int) :: ([.fieldLink RX7 88 "DesertChannelsModel" "thrown" "I", .fieldLink RX7 67 "DesertChannelsModel" "faultAt" "I"] ++ wsX70)
def wsX7_says : List Cond := .code yX7_says cX7_says 2 (some .int) :: ([.fieldLink RX7 88 "DesertChannelsModel" "thrown" "I", .fieldLink RX7 57 "DesertChannelsModel" "says" "[I", .methodLink RX7 94 yX7_in, .static yX7_in, .initialized RX7, .code yX7_in cX7_in 3 (some .boolean), .methodLink RX7 105 yX7_throwsIf, .instanceMethod yX7_throwsIf, .selects RX7 yX7_throwsIf yX7_throwsIf, .code yX7_throwsIf cX7_throwsIf 3 (some .boolean)] ++ wsX70)
def wsX7_portion : List Cond := .code yX7_portion cX7_portion 6 (some .long) :: ([.fieldLink RX7 57 "DesertChannelsModel" "says" "[I", .fieldLink RX7 73 "DesertChannelsModel" "minutesOf" "[I", .fieldLink RX7 30 "DesertChannelsModel" "turn" "[I"] ++ wsX70)
def wsX7_pays_r1 : List Cond := [Cond.fieldLink RX7 88 "DesertChannelsModel" "thrown" "I", Cond.fieldLink RX7 20 "DesertChannelsModel" "isDug" "[Z", Cond.constant RX7 226 (1000000), Cond.fieldLink RX7 73 "DesertChannelsModel" "minutesOf" "[I", Cond.fieldLink RX7 102 "DesertChannelsModel" "shares" "I", Cond.fieldLink RX7 45 "DesertChannelsModel" "share" "[I", Cond.fieldLink RX7 57 "DesertChannelsModel" "says" "[I", Cond.constantLong RX7 227 (100), Cond.methodLink RX7 98 yX7_noChannel, Cond.instanceMethod yX7_noChannel, Cond.selects RX7 yX7_noChannel yX7_noChannel, Cond.initialized RX7, Cond.code yX7_noChannel cX7_noChannel 2 (some .boolean), Cond.fieldLink RX7 91 "DesertChannelsModel" "channels" "I", Cond.methodLink RX7 94 yX7_in, Cond.static yX7_in, Cond.code yX7_in cX7_in 3 (some .boolean), Cond.methodLink RX7 105 yX7_throwsIf, Cond.instanceMethod yX7_throwsIf, Cond.selects RX7 yX7_throwsIf yX7_throwsIf, Cond.code yX7_throwsIf cX7_throwsIf 3 (some .boolean), Cond.methodLink RX7 168 yX7_noOwner, Cond.static yX7_noOwner, Cond.code yX7_noOwner cX7_noOwner 1 (some .boolean)]
def wsX7_pays_r2 : List Cond := [Cond.methodLink RX7 229 yX7_portion, Cond.instanceMethod yX7_portion, Cond.selects RX7 yX7_portion yX7_portion, Cond.code yX7_portion cX7_portion 6 (some .long), Cond.fieldLink RX7 30 "DesertChannelsModel" "turn" "[I"]
def wsX7_pays : List Cond := .code yX7_pays cX7_pays 11 (some .int) :: ((wsX7_pays_r1 ++ wsX7_pays_r2) ++ wsX70)
def wsX7_field : List Cond := .code yX7_field cX7_field 4 (some .int) :: ([.fieldLink RX7 88 "DesertChannelsModel" "thrown" "I", .fieldLink RX7 233 "DesertChannelsModel" "fields" "I", .fieldLink RX7 76 "DesertChannelsModel" "need" "[I", .fieldLink RX7 79 "DesertChannelsModel" "due" "[I", .fieldLink RX7 82 "DesertChannelsModel" "loss" "[I", .methodLink RX7 94 yX7_in, .static yX7_in, .initialized RX7, .code yX7_in cX7_in 3 (some .boolean), .methodLink RX7 105 yX7_throwsIf, .instanceMethod yX7_throwsIf, .selects RX7 yX7_throwsIf yX7_throwsIf, .code yX7_throwsIf cX7_throwsIf 3 (some .boolean)] ++ wsX70)
def wsX7_least : List Cond := .code yX7_least cX7_least 5 (some .int) :: ([.fieldLink RX7 88 "DesertChannelsModel" "thrown" "I", .fieldLink RX7 85 "DesertChannelsModel" "lost" "[I", .fieldLink RX7 233 "DesertChannelsModel" "fields" "I", .fieldLink RX7 76 "DesertChannelsModel" "need" "[I", .constant RX7 238 (2147483647), .fieldLink RX7 82 "DesertChannelsModel" "loss" "[I", .fieldLink RX7 79 "DesertChannelsModel" "due" "[I", .methodLink RX7 115 Lib.Math.max.name, .static Lib.Math.max.name, .initialized "java/lang/Math", .code Lib.Math.max.name Lib.Math.max.code 2 (some .int), .methodLink RX7 147 Lib.Math.min.name, .static Lib.Math.min.name, .code Lib.Math.min.name Lib.Math.min.code 2 (some .int)] ++ wsX70)
def wsX7_count_r1 : List Cond := [Cond.fieldLink RX7 88 "DesertChannelsModel" "thrown" "I", Cond.fieldLink RX7 91 "DesertChannelsModel" "channels" "I", Cond.fieldLink RX7 129 "DesertChannelsModel" "dug" "I", Cond.fieldLink RX7 126 "DesertChannelsModel" "year" "I", Cond.fieldLink RX7 159 "DesertChannelsModel" "now" "I", Cond.fieldLink RX7 102 "DesertChannelsModel" "shares" "I", Cond.fieldLink RX7 233 "DesertChannelsModel" "fields" "I", Cond.fieldLink RX7 20 "DesertChannelsModel" "isDug" "[Z", Cond.methodLink RX7 165 yX7_isLet, Cond.instanceMethod yX7_isLet, Cond.selects RX7 yX7_isLet yX7_isLet, Cond.initialized RX7, Cond.code yX7_isLet cX7_isLet 2 (some .boolean), Cond.fieldLink RX7 45 "DesertChannelsModel" "share" "[I", Cond.methodLink RX7 153 yX7_flows, Cond.instanceMethod yX7_flows, Cond.selects RX7 yX7_flows yX7_flows, Cond.code yX7_flows cX7_flows 6 (some .int), Cond.fieldLink RX7 39 "DesertChannelsModel" "floor" "[I", Cond.methodLink RX7 140 yX7_runs, Cond.instanceMethod yX7_runs, Cond.selects RX7 yX7_runs yX7_runs, Cond.code yX7_runs cX7_runs 3 (some .int), Cond.fieldLink RX7 16 "DesertChannelsModel" "wells" "[I"]
def wsX7_count_r2 : List Cond := [Cond.fieldLink RX7 42 "DesertChannelsModel" "isDown" "[Z", Cond.methodLink RX7 150 yX7_seeps, Cond.instanceMethod yX7_seeps, Cond.selects RX7 yX7_seeps yX7_seeps, Cond.code yX7_seeps cX7_seeps 7 (some .int), Cond.fieldLink RX7 7 "DesertChannelsModel" "head" "I", Cond.fieldLink RX7 13 "DesertChannelsModel" "slope" "I", Cond.fieldLink RX7 33 "DesertChannelsModel" "wx" "[I", Cond.fieldLink RX7 27 "DesertChannelsModel" "order" "[I", Cond.fieldLink RX7 36 "DesertChannelsModel" "wy" "[I", Cond.methodLink RX7 147 Lib.Math.min.name, Cond.static Lib.Math.min.name, Cond.initialized "java/lang/Math", Cond.code Lib.Math.min.name Lib.Math.min.code 2 (some .int), Cond.methodLink RX7 143 yX7_draw, Cond.instanceMethod yX7_draw, Cond.selects RX7 yX7_draw yX7_draw, Cond.code yX7_draw cX7_draw 6 (some .int), Cond.methodLink RX7 115 Lib.Math.max.name, Cond.static Lib.Math.max.name, Cond.code Lib.Math.max.name Lib.Math.max.code 2 (some .int), Cond.fieldLink RX7 24 "DesertChannelsModel" "dugIn" "[I", Cond.methodLink RX7 119 yX7_steps, Cond.static yX7_steps]
def wsX7_count_r3 : List Cond := [Cond.code yX7_steps cX7_steps 4 (some .int), Cond.methodLink RX7 109 Lib.Math.abs.name, Cond.static Lib.Math.abs.name, Cond.code Lib.Math.abs.name Lib.Math.abs.code 1 (some .int)]
def wsX7_count : List Cond := .code yX7_count cX7_count 4 (some .int) :: ((wsX7_count_r1 ++ (wsX7_count_r2 ++ wsX7_count_r3)) ++ wsX70)
def wsJ9_abs_0f7a4 : List Cond := .code yJ9_abs_0f7a4 cJ9_abs_0f7a4 1 (some .int) :: ([])
def wsJ9_max_7cf53 : List Cond := .code yJ9_max_7cf53 cJ9_max_7cf53 2 (some .int) :: ([])
def wsJ9_min_7cf53 : List Cond := .code yJ9_min_7cf53 cJ9_min_7cf53 2 (some .int) :: ([])
def wsL_ground : List Cond := .codeWith yL_ground cL_ground 4 (some .int) [(0, 6, 9, 13)] :: ([.classLink RL 13 "java/lang/IllegalArgumentException", .methodLink RL 7 yX6_ground, .instanceMethod yX6_ground, .selects RX6 yX6_ground yX6_ground, .initialized RX6, .code yX6_ground cX6_ground 3 none, .classLink RX6 79 "java/lang/IllegalArgumentException", .initialized "java/lang/IllegalArgumentException", .fieldLink RX6 36 "DesertChannels" "head" "I", .fieldLink RX6 39 "DesertChannels" "slope" "I", .methodLink RX6 75 yX6_isWithin, .static yX6_isWithin, .code yX6_isWithin cX6_isWithin 3 (some .boolean)] ++ wsX60 ++ (vx_atS RX6 83 "java/lang/IllegalArgumentException" ["java/lang/RuntimeException", "java/lang/Exception"]).filter goodWord)
def wsL_channel : List Cond := .codeWith yL_channel cL_channel 3 (some .int) [(0, 8, 11, 19)] :: ([.classLink RL 19 "java/lang/UnsupportedOperationException", .methodLink RL 15 yX6_channel, .instanceMethod yX6_channel, .selects RX6 yX6_channel yX6_channel, .initialized RX6, .code yX6_channel cX6_channel 1 (some .int), .classLink RX6 89 "java/lang/UnsupportedOperationException", .initialized "java/lang/UnsupportedOperationException", .fieldLink RX6 86 "DesertChannels" "channelCount" "I"] ++ wsX60 ++ (vx_atS RX6 93 "java/lang/UnsupportedOperationException" ["java/lang/RuntimeException", "java/lang/Exception"]).filter goodWord)
def wsL_well_r1 : List Cond := [Cond.classLink RL 25 "java/lang/IndexOutOfBoundsException", Cond.classLink RL 27 "java/lang/IllegalStateException", Cond.classLink RL 13 "java/lang/IllegalArgumentException", Cond.classLink RL 19 "java/lang/UnsupportedOperationException", Cond.methodLink RL 21 yX6_well, Cond.instanceMethod yX6_well, Cond.selects RX6 yX6_well yX6_well, Cond.initialized RX6, Cond.code yX6_well cX6_well 6 (some .int), Cond.classLink RX6 79 "java/lang/IllegalArgumentException", Cond.initialized "java/lang/IllegalArgumentException", Cond.classLink RX6 89 "java/lang/UnsupportedOperationException", Cond.initialized "java/lang/UnsupportedOperationException", Cond.fieldLink RX6 104 "DesertChannels$Channel" "wells" "I", Cond.methodLink RX6 94 yX6_undugAt, Cond.instanceMethod yX6_undugAt, Cond.selects RX6 yX6_undugAt yX6_undugAt, Cond.code yX6_undugAt cX6_undugAt 3 (some (.object "DesertChannels$Channel")), Cond.classLink RX6 313 "java/lang/IllegalStateException", Cond.initialized "java/lang/IllegalStateException", Cond.methodLink RX6 226 yX6_channelAt, Cond.instanceMethod yX6_channelAt, Cond.selects RX6 yX6_channelAt yX6_channelAt, Cond.code yX6_channelAt cX6_channelAt 2 (some (.object "DesertChannels$Channel"))]
def wsL_well_r2 : List Cond := [Cond.classLink RX6 304 "java/lang/IndexOutOfBoundsException", Cond.initialized "java/lang/IndexOutOfBoundsException", Cond.fieldLink RX6 86 "DesertChannels" "channelCount" "I", Cond.fieldLink RX6 31 "DesertChannels" "channels" "[LDesertChannels$Channel;", Cond.methodLink RX6 309 yX0_isDug, Cond.instanceMethod yX0_isDug, Cond.selects RX0 yX0_isDug yX0_isDug, Cond.initialized RX0, Cond.code yX0_isDug cX0_isDug 1 (some .boolean), Cond.fieldLink RX0 25 "DesertChannels$Channel" "turn" "I", Cond.methodLink RX6 75 yX6_isWithin, Cond.static yX6_isWithin, Cond.code yX6_isWithin cX6_isWithin 3 (some .boolean), Cond.methodLink RX6 98 yX0_lastFloor, Cond.instanceMethod yX0_lastFloor, Cond.selects RX0 yX0_lastFloor yX0_lastFloor, Cond.code yX0_lastFloor cX0_lastFloor 1 (some .int), Cond.fieldLink RX0 29 "DesertChannels$Channel" "wells" "I", Cond.fieldLink RX0 18 "DesertChannels$Channel" "floor" "[I", Cond.methodLink RX6 109 yX0_addWell, Cond.instanceMethod yX0_addWell, Cond.selects RX0 yX0_addWell yX0_addWell, Cond.code yX0_addWell cX0_addWell 4 none, Cond.fieldLink RX0 9 "DesertChannels$Channel" "x" "[I"]
def wsL_well_r3 : List Cond := [Cond.fieldLink RX0 15 "DesertChannels$Channel" "y" "[I"]
def wsL_well : List Cond := .codeWith yL_well cL_well 7 (some .int) [(0, 14, 17, 25), (0, 14, 21, 27), (0, 14, 25, 13), (0, 14, 29, 19)] :: ((wsL_well_r1 ++ (wsL_well_r2 ++ wsL_well_r3)) ++ wsX00 ++ wsX60 ++ (vx_atS RX6 83 "java/lang/IllegalArgumentException" ["java/lang/RuntimeException", "java/lang/Exception"]).filter goodWord ++ (vx_atS RX6 93 "java/lang/UnsupportedOperationException" ["java/lang/RuntimeException", "java/lang/Exception"]).filter goodWord ++ (vx_atS RX6 317 "java/lang/IllegalStateException" ["java/lang/RuntimeException", "java/lang/Exception"]).filter goodWord ++ (vx_atS RX6 308 "java/lang/IndexOutOfBoundsException" ["java/lang/RuntimeException", "java/lang/Exception"]).filter goodWord)
def wsL_may_r1 : List Cond := [Cond.classLink RL 25 "java/lang/IndexOutOfBoundsException", Cond.classLink RL 27 "java/lang/IllegalStateException", Cond.methodLink RL 29 yX6_may, Cond.instanceMethod yX6_may, Cond.selects RX6 yX6_may yX6_may, Cond.initialized RX6, Cond.code yX6_may cX6_may 2 (some .boolean), Cond.methodLink RX6 94 yX6_undugAt, Cond.instanceMethod yX6_undugAt, Cond.selects RX6 yX6_undugAt yX6_undugAt, Cond.code yX6_undugAt cX6_undugAt 3 (some (.object "DesertChannels$Channel")), Cond.classLink RX6 313 "java/lang/IllegalStateException", Cond.initialized "java/lang/IllegalStateException", Cond.methodLink RX6 226 yX6_channelAt, Cond.instanceMethod yX6_channelAt, Cond.selects RX6 yX6_channelAt yX6_channelAt, Cond.code yX6_channelAt cX6_channelAt 2 (some (.object "DesertChannels$Channel")), Cond.classLink RX6 304 "java/lang/IndexOutOfBoundsException", Cond.initialized "java/lang/IndexOutOfBoundsException", Cond.fieldLink RX6 86 "DesertChannels" "channelCount" "I", Cond.fieldLink RX6 31 "DesertChannels" "channels" "[LDesertChannels$Channel;", Cond.methodLink RX6 309 yX0_isDug, Cond.instanceMethod yX0_isDug, Cond.selects RX0 yX0_isDug yX0_isDug]
def wsL_may_r2 : List Cond := [Cond.initialized RX0, Cond.code yX0_isDug cX0_isDug 1 (some .boolean), Cond.fieldLink RX0 25 "DesertChannels$Channel" "turn" "I", Cond.methodLink RX6 113 yX6_isAllowed, Cond.instanceMethod yX6_isAllowed, Cond.selects RX6 yX6_isAllowed yX6_isAllowed, Cond.code yX6_isAllowed cX6_isAllowed 4 (some .boolean), Cond.fieldLink RX6 104 "DesertChannels$Channel" "wells" "I", Cond.methodLink RX6 326 yX6_isClearOf, Cond.instanceMethod yX6_isClearOf, Cond.selects RX6 yX6_isClearOf yX6_isClearOf, Cond.code yX6_isClearOf cX6_isClearOf 6 (some .boolean), Cond.fieldLink RX6 330 "DesertChannels$Channel" "x" "[I", Cond.fieldLink RX6 333 "DesertChannels$Channel" "y" "[I", Cond.fieldLink RX6 21 "DesertChannels" "lawNow" "[I", Cond.fieldLink RX6 340 "DesertChannels$Channel" "floor" "[I", Cond.methodLink RX6 336 yX6_kingSteps, Cond.static yX6_kingSteps, Cond.code yX6_kingSteps cX6_kingSteps 4 (some .int), Cond.methodLink RX6 296 Lib.Math.abs.name, Cond.static Lib.Math.abs.name, Cond.initialized "java/lang/Math", Cond.code Lib.Math.abs.name Lib.Math.abs.code 1 (some .int), Cond.methodLink RX6 301 Lib.Math.max.name]
def wsL_may_r3 : List Cond := [Cond.static Lib.Math.max.name, Cond.code Lib.Math.max.name Lib.Math.max.code 2 (some .int)]
def wsL_may : List Cond := .codeWith yL_may cL_may 4 (some .int) [(0, 16, 19, 25), (0, 16, 22, 27)] :: ((wsL_may_r1 ++ (wsL_may_r2 ++ wsL_may_r3)) ++ wsX60 ++ wsX00 ++ (vx_atS RX6 317 "java/lang/IllegalStateException" ["java/lang/RuntimeException", "java/lang/Exception"]).filter goodWord ++ (vx_atS RX6 308 "java/lang/IndexOutOfBoundsException" ["java/lang/RuntimeException", "java/lang/Exception"]).filter goodWord)
def wsL_dig_r1 : List Cond := [Cond.classLink RL 25 "java/lang/IndexOutOfBoundsException", Cond.classLink RL 27 "java/lang/IllegalStateException", Cond.classLink RL 13 "java/lang/IllegalArgumentException", Cond.methodLink RL 33 yX6_dig, Cond.instanceMethod yX6_dig, Cond.selects RX6 yX6_dig yX6_dig, Cond.initialized RX6, Cond.code yX6_dig cX6_dig 5 (some .int), Cond.classLink RX6 79 "java/lang/IllegalArgumentException", Cond.initialized "java/lang/IllegalArgumentException", Cond.fieldLink RX6 123 "DesertChannels" "shareCount" "I", Cond.fieldLink RX6 126 "DesertChannels$Channel" "turn" "I", Cond.fieldLink RX6 129 "DesertChannels" "year" "I", Cond.fieldLink RX6 132 "DesertChannels$Channel" "dugYear" "I", Cond.fieldLink RX6 135 "DesertChannels" "dugCount" "I", Cond.fieldLink RX6 138 "DesertChannels$Channel" "dugOrder" "I", Cond.methodLink RX6 94 yX6_undugAt, Cond.instanceMethod yX6_undugAt, Cond.selects RX6 yX6_undugAt yX6_undugAt, Cond.code yX6_undugAt cX6_undugAt 3 (some (.object "DesertChannels$Channel")), Cond.classLink RX6 313 "java/lang/IllegalStateException", Cond.initialized "java/lang/IllegalStateException", Cond.methodLink RX6 226 yX6_channelAt, Cond.instanceMethod yX6_channelAt]
def wsL_dig_r2 : List Cond := [Cond.selects RX6 yX6_channelAt yX6_channelAt, Cond.code yX6_channelAt cX6_channelAt 2 (some (.object "DesertChannels$Channel")), Cond.classLink RX6 304 "java/lang/IndexOutOfBoundsException", Cond.initialized "java/lang/IndexOutOfBoundsException", Cond.fieldLink RX6 86 "DesertChannels" "channelCount" "I", Cond.fieldLink RX6 31 "DesertChannels" "channels" "[LDesertChannels$Channel;", Cond.methodLink RX6 309 yX0_isDug, Cond.instanceMethod yX0_isDug, Cond.selects RX0 yX0_isDug yX0_isDug, Cond.initialized RX0, Cond.code yX0_isDug cX0_isDug 1 (some .boolean), Cond.fieldLink RX0 25 "DesertChannels$Channel" "turn" "I", Cond.methodLink RX6 117 yX6_isOwner, Cond.static yX6_isOwner, Cond.code yX6_isOwner cX6_isOwner 1 (some .boolean), Cond.methodLink RX6 75 yX6_isWithin, Cond.static yX6_isWithin, Cond.code yX6_isWithin cX6_isWithin 3 (some .boolean), Cond.methodLink RX6 113 yX6_isAllowed, Cond.instanceMethod yX6_isAllowed, Cond.selects RX6 yX6_isAllowed yX6_isAllowed, Cond.code yX6_isAllowed cX6_isAllowed 4 (some .boolean), Cond.fieldLink RX6 104 "DesertChannels$Channel" "wells" "I", Cond.methodLink RX6 326 yX6_isClearOf]
def wsL_dig_r3 : List Cond := [Cond.instanceMethod yX6_isClearOf, Cond.selects RX6 yX6_isClearOf yX6_isClearOf, Cond.code yX6_isClearOf cX6_isClearOf 6 (some .boolean), Cond.fieldLink RX6 330 "DesertChannels$Channel" "x" "[I", Cond.fieldLink RX6 333 "DesertChannels$Channel" "y" "[I", Cond.fieldLink RX6 21 "DesertChannels" "lawNow" "[I", Cond.fieldLink RX6 340 "DesertChannels$Channel" "floor" "[I", Cond.methodLink RX6 336 yX6_kingSteps, Cond.static yX6_kingSteps, Cond.code yX6_kingSteps cX6_kingSteps 4 (some .int), Cond.methodLink RX6 296 Lib.Math.abs.name, Cond.static Lib.Math.abs.name, Cond.initialized "java/lang/Math", Cond.code Lib.Math.abs.name Lib.Math.abs.code 1 (some .int), Cond.methodLink RX6 301 Lib.Math.max.name, Cond.static Lib.Math.max.name, Cond.code Lib.Math.max.name Lib.Math.max.code 2 (some .int), Cond.methodLink RX6 141 yX6_addShare, Cond.instanceMethod yX6_addShare, Cond.selects RX6 yX6_addShare yX6_addShare, Cond.code yX6_addShare cX6_addShare 5 none, Cond.fieldLink RX6 44 "DesertChannels" "shares" "[LDesertChannels$Share;", Cond.methodLink RX6 189 yX4_become, Cond.instanceMethod yX4_become]
def wsL_dig_r4 : List Cond := [Cond.selects RX4 yX4_become yX4_become, Cond.initialized RX4, Cond.code yX4_become cX4_become 5 none, Cond.fieldLink RX4 9 "DesertChannels$Share" "channel" "I", Cond.fieldLink RX4 15 "DesertChannels$Share" "from" "I", Cond.fieldLink RX4 18 "DesertChannels$Share" "to" "I", Cond.fieldLink RX4 21 "DesertChannels$Share" "owner" "I", Cond.fieldLink RX4 24 "DesertChannels$Share" "tenant" "I", Cond.fieldLink RX4 27 "DesertChannels$Share" "letFrom" "I", Cond.fieldLink RX4 30 "DesertChannels$Share" "letTo" "I"]
def wsL_dig : List Cond := .codeWith yL_dig cL_dig 6 (some .int) [(0, 12, 15, 25), (0, 12, 19, 27), (0, 12, 23, 13)] :: ((wsL_dig_r1 ++ (wsL_dig_r2 ++ (wsL_dig_r3 ++ wsL_dig_r4))) ++ wsX60 ++ wsX00 ++ wsX40 ++ (vx_atS RX6 83 "java/lang/IllegalArgumentException" ["java/lang/RuntimeException", "java/lang/Exception"]).filter goodWord ++ (vx_atS RX6 317 "java/lang/IllegalStateException" ["java/lang/RuntimeException", "java/lang/Exception"]).filter goodWord ++ (vx_atS RX6 308 "java/lang/IndexOutOfBoundsException" ["java/lang/RuntimeException", "java/lang/Exception"]).filter goodWord)
def wsL_years : List Cond := .codeWith yL_years cL_years 4 (some .int) [(0, 9, 12, 13)] :: ([.classLink RL 13 "java/lang/IllegalArgumentException", .methodLink RL 37 yX6_years, .instanceMethod yX6_years, .selects RX6 yX6_years yX6_years, .initialized RX6, .code yX6_years cX6_years 2 (some .int), .classLink RX6 79 "java/lang/IllegalArgumentException", .initialized "java/lang/IllegalArgumentException", .fieldLink RX6 129 "DesertChannels" "year" "I", .methodLink RX6 75 yX6_isWithin, .static yX6_isWithin, .code yX6_isWithin cX6_isWithin 3 (some .boolean)] ++ wsX60 ++ (vx_atS RX6 83 "java/lang/IllegalArgumentException" ["java/lang/RuntimeException", "java/lang/Exception"]).filter goodWord)
def wsL_collapse_r1 : List Cond := [Cond.classLink RL 25 "java/lang/IndexOutOfBoundsException", Cond.classLink RL 27 "java/lang/IllegalStateException", Cond.methodLink RL 41 yX6_collapse, Cond.instanceMethod yX6_collapse, Cond.selects RX6 yX6_collapse yX6_collapse, Cond.initialized RX6, Cond.code yX6_collapse cX6_collapse 6 (some .boolean), Cond.fieldLink RX6 151 "DesertChannels$Channel" "collapsed" "[Z", Cond.methodLink RX6 147 yX6_dugWithWell, Cond.instanceMethod yX6_dugWithWell, Cond.selects RX6 yX6_dugWithWell yX6_dugWithWell, Cond.code yX6_dugWithWell cX6_dugWithWell 4 (some (.object "DesertChannels$Channel")), Cond.classLink RX6 304 "java/lang/IndexOutOfBoundsException", Cond.initialized "java/lang/IndexOutOfBoundsException", Cond.classLink RX6 313 "java/lang/IllegalStateException", Cond.initialized "java/lang/IllegalStateException", Cond.fieldLink RX6 104 "DesertChannels$Channel" "wells" "I", Cond.methodLink RX6 226 yX6_channelAt, Cond.instanceMethod yX6_channelAt, Cond.selects RX6 yX6_channelAt yX6_channelAt, Cond.code yX6_channelAt cX6_channelAt 2 (some (.object "DesertChannels$Channel")), Cond.fieldLink RX6 86 "DesertChannels" "channelCount" "I", Cond.fieldLink RX6 31 "DesertChannels" "channels" "[LDesertChannels$Channel;", Cond.methodLink RX6 309 yX0_isDug]
def wsL_collapse_r2 : List Cond := [Cond.instanceMethod yX0_isDug, Cond.selects RX0 yX0_isDug yX0_isDug, Cond.initialized RX0, Cond.code yX0_isDug cX0_isDug 1 (some .boolean), Cond.fieldLink RX0 25 "DesertChannels$Channel" "turn" "I"]
def wsL_collapse : List Cond := .codeWith yL_collapse cL_collapse 6 (some .int) [(0, 19, 22, 25), (0, 19, 26, 27)] :: ((wsL_collapse_r1 ++ wsL_collapse_r2) ++ wsX00 ++ wsX60 ++ (vx_atS RX6 308 "java/lang/IndexOutOfBoundsException" ["java/lang/RuntimeException", "java/lang/Exception"]).filter goodWord ++ (vx_atS RX6 317 "java/lang/IllegalStateException" ["java/lang/RuntimeException", "java/lang/Exception"]).filter goodWord)
def wsL_flow_r1 : List Cond := [Cond.classLink RL 25 "java/lang/IndexOutOfBoundsException", Cond.classLink RL 27 "java/lang/IllegalStateException", Cond.methodLink RL 45 yX6_flow, Cond.instanceMethod yX6_flow, Cond.selects RX6 yX6_flow yX6_flow, Cond.initialized RX6, Cond.code yX6_flow cX6_flow 2 (some .int), Cond.fieldLink RX6 135 "DesertChannels" "dugCount" "I", Cond.methodLink RX6 155 yX6_dugAt, Cond.instanceMethod yX6_dugAt, Cond.selects RX6 yX6_dugAt yX6_dugAt, Cond.code yX6_dugAt cX6_dugAt 3 (some (.object "DesertChannels$Channel")), Cond.classLink RX6 313 "java/lang/IllegalStateException", Cond.initialized "java/lang/IllegalStateException", Cond.methodLink RX6 226 yX6_channelAt, Cond.instanceMethod yX6_channelAt, Cond.selects RX6 yX6_channelAt yX6_channelAt, Cond.code yX6_channelAt cX6_channelAt 2 (some (.object "DesertChannels$Channel")), Cond.classLink RX6 304 "java/lang/IndexOutOfBoundsException", Cond.initialized "java/lang/IndexOutOfBoundsException", Cond.fieldLink RX6 86 "DesertChannels" "channelCount" "I", Cond.fieldLink RX6 31 "DesertChannels" "channels" "[LDesertChannels$Channel;", Cond.methodLink RX6 309 yX0_isDug, Cond.instanceMethod yX0_isDug]
def wsL_flow_r2 : List Cond := [Cond.selects RX0 yX0_isDug yX0_isDug, Cond.initialized RX0, Cond.code yX0_isDug cX0_isDug 1 (some .boolean), Cond.fieldLink RX0 25 "DesertChannels$Channel" "turn" "I", Cond.methodLink RX6 158 yX6_flowOf, Cond.instanceMethod yX6_flowOf, Cond.selects RX6 yX6_flowOf yX6_flowOf, Cond.code yX6_flowOf cX6_flowOf 5 (some .int), Cond.methodLink RX6 162 yX0_runningWells, Cond.instanceMethod yX0_runningWells, Cond.selects RX0 yX0_runningWells yX0_runningWells, Cond.code yX0_runningWells cX0_runningWells 2 (some .int), Cond.fieldLink RX0 29 "DesertChannels$Channel" "wells" "I", Cond.fieldLink RX0 21 "DesertChannels$Channel" "collapsed" "[Z", Cond.methodLink RX6 165 yX6_seepAt, Cond.instanceMethod yX6_seepAt, Cond.selects RX6 yX6_seepAt yX6_seepAt, Cond.code yX6_seepAt cX6_seepAt 7 (some .int), Cond.fieldLink RX6 36 "DesertChannels" "head" "I", Cond.fieldLink RX6 39 "DesertChannels" "slope" "I", Cond.fieldLink RX6 330 "DesertChannels$Channel" "x" "[I", Cond.fieldLink RX6 138 "DesertChannels$Channel" "dugOrder" "I", Cond.fieldLink RX6 333 "DesertChannels$Channel" "y" "[I", Cond.fieldLink RX6 340 "DesertChannels$Channel" "floor" "[I"]
def wsL_flow_r3 : List Cond := [Cond.methodLink RX6 346 Lib.Math.min.name, Cond.static Lib.Math.min.name, Cond.initialized "java/lang/Math", Cond.code Lib.Math.min.name Lib.Math.min.code 2 (some .int), Cond.methodLink RX6 301 Lib.Math.max.name, Cond.static Lib.Math.max.name, Cond.code Lib.Math.max.name Lib.Math.max.code 2 (some .int), Cond.methodLink RX6 343 yX6_drawAt, Cond.instanceMethod yX6_drawAt, Cond.selects RX6 yX6_drawAt yX6_drawAt, Cond.code yX6_drawAt cX6_drawAt 7 (some .int), Cond.fieldLink RX6 129 "DesertChannels" "year" "I", Cond.fieldLink RX6 132 "DesertChannels$Channel" "dugYear" "I", Cond.methodLink RX6 336 yX6_kingSteps, Cond.static yX6_kingSteps, Cond.code yX6_kingSteps cX6_kingSteps 4 (some .int), Cond.methodLink RX6 296 Lib.Math.abs.name, Cond.static Lib.Math.abs.name, Cond.code Lib.Math.abs.name Lib.Math.abs.code 1 (some .int), Cond.methodLink RX6 349 yX0_leaksBelow, Cond.instanceMethod yX0_leaksBelow, Cond.selects RX0 yX0_leaksBelow yX0_leaksBelow, Cond.code yX0_leaksBelow cX0_leaksBelow 3 (some .boolean), Cond.fieldLink RX0 18 "DesertChannels$Channel" "floor" "[I"]
def wsL_flow : List Cond := .codeWith yL_flow cL_flow 4 (some .int) [(0, 9, 12, 25), (0, 9, 15, 27)] :: ((wsL_flow_r1 ++ (wsL_flow_r2 ++ wsL_flow_r3)) ++ wsX60 ++ wsX00 ++ (vx_atS RX6 317 "java/lang/IllegalStateException" ["java/lang/RuntimeException", "java/lang/Exception"]).filter goodWord ++ (vx_atS RX6 308 "java/lang/IndexOutOfBoundsException" ["java/lang/RuntimeException", "java/lang/Exception"]).filter goodWord)
def wsL_harm_r1 : List Cond := [Cond.classLink RL 25 "java/lang/IndexOutOfBoundsException", Cond.classLink RL 27 "java/lang/IllegalStateException", Cond.methodLink RL 48 yX6_harm, Cond.instanceMethod yX6_harm, Cond.selects RX6 yX6_harm yX6_harm, Cond.initialized RX6, Cond.code yX6_harm cX6_harm 3 (some .int), Cond.fieldLink RX6 138 "DesertChannels$Channel" "dugOrder" "I", Cond.fieldLink RX6 135 "DesertChannels" "dugCount" "I", Cond.methodLink RX6 155 yX6_dugAt, Cond.instanceMethod yX6_dugAt, Cond.selects RX6 yX6_dugAt yX6_dugAt, Cond.code yX6_dugAt cX6_dugAt 3 (some (.object "DesertChannels$Channel")), Cond.classLink RX6 313 "java/lang/IllegalStateException", Cond.initialized "java/lang/IllegalStateException", Cond.methodLink RX6 226 yX6_channelAt, Cond.instanceMethod yX6_channelAt, Cond.selects RX6 yX6_channelAt yX6_channelAt, Cond.code yX6_channelAt cX6_channelAt 2 (some (.object "DesertChannels$Channel")), Cond.classLink RX6 304 "java/lang/IndexOutOfBoundsException", Cond.initialized "java/lang/IndexOutOfBoundsException", Cond.fieldLink RX6 86 "DesertChannels" "channelCount" "I", Cond.fieldLink RX6 31 "DesertChannels" "channels" "[LDesertChannels$Channel;", Cond.methodLink RX6 309 yX0_isDug]
def wsL_harm_r2 : List Cond := [Cond.instanceMethod yX0_isDug, Cond.selects RX0 yX0_isDug yX0_isDug, Cond.initialized RX0, Cond.code yX0_isDug cX0_isDug 1 (some .boolean), Cond.fieldLink RX0 25 "DesertChannels$Channel" "turn" "I", Cond.methodLink RX6 158 yX6_flowOf, Cond.instanceMethod yX6_flowOf, Cond.selects RX6 yX6_flowOf yX6_flowOf, Cond.code yX6_flowOf cX6_flowOf 5 (some .int), Cond.methodLink RX6 162 yX0_runningWells, Cond.instanceMethod yX0_runningWells, Cond.selects RX0 yX0_runningWells yX0_runningWells, Cond.code yX0_runningWells cX0_runningWells 2 (some .int), Cond.fieldLink RX0 29 "DesertChannels$Channel" "wells" "I", Cond.fieldLink RX0 21 "DesertChannels$Channel" "collapsed" "[Z", Cond.methodLink RX6 165 yX6_seepAt, Cond.instanceMethod yX6_seepAt, Cond.selects RX6 yX6_seepAt yX6_seepAt, Cond.code yX6_seepAt cX6_seepAt 7 (some .int), Cond.fieldLink RX6 36 "DesertChannels" "head" "I", Cond.fieldLink RX6 39 "DesertChannels" "slope" "I", Cond.fieldLink RX6 330 "DesertChannels$Channel" "x" "[I", Cond.fieldLink RX6 333 "DesertChannels$Channel" "y" "[I", Cond.fieldLink RX6 340 "DesertChannels$Channel" "floor" "[I"]
def wsL_harm_r3 : List Cond := [Cond.methodLink RX6 346 Lib.Math.min.name, Cond.static Lib.Math.min.name, Cond.initialized "java/lang/Math", Cond.code Lib.Math.min.name Lib.Math.min.code 2 (some .int), Cond.methodLink RX6 301 Lib.Math.max.name, Cond.static Lib.Math.max.name, Cond.code Lib.Math.max.name Lib.Math.max.code 2 (some .int), Cond.methodLink RX6 343 yX6_drawAt, Cond.instanceMethod yX6_drawAt, Cond.selects RX6 yX6_drawAt yX6_drawAt, Cond.code yX6_drawAt cX6_drawAt 7 (some .int), Cond.fieldLink RX6 129 "DesertChannels" "year" "I", Cond.fieldLink RX6 132 "DesertChannels$Channel" "dugYear" "I", Cond.methodLink RX6 336 yX6_kingSteps, Cond.static yX6_kingSteps, Cond.code yX6_kingSteps cX6_kingSteps 4 (some .int), Cond.methodLink RX6 296 Lib.Math.abs.name, Cond.static Lib.Math.abs.name, Cond.code Lib.Math.abs.name Lib.Math.abs.code 1 (some .int), Cond.methodLink RX6 349 yX0_leaksBelow, Cond.instanceMethod yX0_leaksBelow, Cond.selects RX0 yX0_leaksBelow yX0_leaksBelow, Cond.code yX0_leaksBelow cX0_leaksBelow 3 (some .boolean), Cond.fieldLink RX0 18 "DesertChannels$Channel" "floor" "[I"]
def wsL_harm : List Cond := .codeWith yL_harm cL_harm 4 (some .int) [(0, 9, 12, 25), (0, 9, 15, 27)] :: ((wsL_harm_r1 ++ (wsL_harm_r2 ++ wsL_harm_r3)) ++ wsX00 ++ wsX60 ++ (vx_atS RX6 317 "java/lang/IllegalStateException" ["java/lang/RuntimeException", "java/lang/Exception"]).filter goodWord ++ (vx_atS RX6 308 "java/lang/IndexOutOfBoundsException" ["java/lang/RuntimeException", "java/lang/Exception"]).filter goodWord)
def wsL_seep_r1 : List Cond := [Cond.classLink RL 25 "java/lang/IndexOutOfBoundsException", Cond.classLink RL 27 "java/lang/IllegalStateException", Cond.methodLink RL 51 yX6_seep, Cond.instanceMethod yX6_seep, Cond.selects RX6 yX6_seep yX6_seep, Cond.initialized RX6, Cond.code yX6_seep cX6_seep 4 (some .int), Cond.fieldLink RX6 135 "DesertChannels" "dugCount" "I", Cond.methodLink RX6 147 yX6_dugWithWell, Cond.instanceMethod yX6_dugWithWell, Cond.selects RX6 yX6_dugWithWell yX6_dugWithWell, Cond.code yX6_dugWithWell cX6_dugWithWell 4 (some (.object "DesertChannels$Channel")), Cond.classLink RX6 304 "java/lang/IndexOutOfBoundsException", Cond.initialized "java/lang/IndexOutOfBoundsException", Cond.classLink RX6 313 "java/lang/IllegalStateException", Cond.initialized "java/lang/IllegalStateException", Cond.fieldLink RX6 104 "DesertChannels$Channel" "wells" "I", Cond.methodLink RX6 226 yX6_channelAt, Cond.instanceMethod yX6_channelAt, Cond.selects RX6 yX6_channelAt yX6_channelAt, Cond.code yX6_channelAt cX6_channelAt 2 (some (.object "DesertChannels$Channel")), Cond.fieldLink RX6 86 "DesertChannels" "channelCount" "I", Cond.fieldLink RX6 31 "DesertChannels" "channels" "[LDesertChannels$Channel;", Cond.methodLink RX6 309 yX0_isDug]
def wsL_seep_r2 : List Cond := [Cond.instanceMethod yX0_isDug, Cond.selects RX0 yX0_isDug yX0_isDug, Cond.initialized RX0, Cond.code yX0_isDug cX0_isDug 1 (some .boolean), Cond.fieldLink RX0 25 "DesertChannels$Channel" "turn" "I", Cond.methodLink RX6 162 yX0_runningWells, Cond.instanceMethod yX0_runningWells, Cond.selects RX0 yX0_runningWells yX0_runningWells, Cond.code yX0_runningWells cX0_runningWells 2 (some .int), Cond.fieldLink RX0 29 "DesertChannels$Channel" "wells" "I", Cond.fieldLink RX0 21 "DesertChannels$Channel" "collapsed" "[Z", Cond.methodLink RX6 165 yX6_seepAt, Cond.instanceMethod yX6_seepAt, Cond.selects RX6 yX6_seepAt yX6_seepAt, Cond.code yX6_seepAt cX6_seepAt 7 (some .int), Cond.fieldLink RX6 36 "DesertChannels" "head" "I", Cond.fieldLink RX6 39 "DesertChannels" "slope" "I", Cond.fieldLink RX6 330 "DesertChannels$Channel" "x" "[I", Cond.fieldLink RX6 138 "DesertChannels$Channel" "dugOrder" "I", Cond.fieldLink RX6 333 "DesertChannels$Channel" "y" "[I", Cond.fieldLink RX6 340 "DesertChannels$Channel" "floor" "[I", Cond.methodLink RX6 346 Lib.Math.min.name, Cond.static Lib.Math.min.name, Cond.initialized "java/lang/Math"]
def wsL_seep_r3 : List Cond := [Cond.code Lib.Math.min.name Lib.Math.min.code 2 (some .int), Cond.methodLink RX6 301 Lib.Math.max.name, Cond.static Lib.Math.max.name, Cond.code Lib.Math.max.name Lib.Math.max.code 2 (some .int), Cond.methodLink RX6 343 yX6_drawAt, Cond.instanceMethod yX6_drawAt, Cond.selects RX6 yX6_drawAt yX6_drawAt, Cond.code yX6_drawAt cX6_drawAt 7 (some .int), Cond.fieldLink RX6 129 "DesertChannels" "year" "I", Cond.fieldLink RX6 132 "DesertChannels$Channel" "dugYear" "I", Cond.methodLink RX6 336 yX6_kingSteps, Cond.static yX6_kingSteps, Cond.code yX6_kingSteps cX6_kingSteps 4 (some .int), Cond.methodLink RX6 296 Lib.Math.abs.name, Cond.static Lib.Math.abs.name, Cond.code Lib.Math.abs.name Lib.Math.abs.code 1 (some .int)]
def wsL_seep : List Cond := .codeWith yL_seep cL_seep 5 (some .int) [(0, 10, 13, 25), (0, 10, 17, 27)] :: ((wsL_seep_r1 ++ (wsL_seep_r2 ++ wsL_seep_r3)) ++ wsX60 ++ wsX00 ++ (vx_atS RX6 308 "java/lang/IndexOutOfBoundsException" ["java/lang/RuntimeException", "java/lang/Exception"]).filter goodWord ++ (vx_atS RX6 317 "java/lang/IllegalStateException" ["java/lang/RuntimeException", "java/lang/Exception"]).filter goodWord)
def wsL_sell_r1 : List Cond := [Cond.classLink RL 25 "java/lang/IndexOutOfBoundsException", Cond.classLink RL 27 "java/lang/IllegalStateException", Cond.classLink RL 13 "java/lang/IllegalArgumentException", Cond.classLink RL 19 "java/lang/UnsupportedOperationException", Cond.methodLink RL 55 yX6_sell, Cond.instanceMethod yX6_sell, Cond.selects RX6 yX6_sell yX6_sell, Cond.initialized RX6, Cond.code yX6_sell cX6_sell 8 none, Cond.classLink RX6 79 "java/lang/IllegalArgumentException", Cond.initialized "java/lang/IllegalArgumentException", Cond.classLink RX6 89 "java/lang/UnsupportedOperationException", Cond.initialized "java/lang/UnsupportedOperationException", Cond.fieldLink RX6 173 "DesertChannels$Share" "from" "I", Cond.fieldLink RX6 176 "DesertChannels$Share" "to" "I", Cond.fieldLink RX6 123 "DesertChannels" "shareCount" "I", Cond.fieldLink RX6 183 "DesertChannels$Share" "channel" "I", Cond.fieldLink RX6 186 "DesertChannels$Share" "owner" "I", Cond.methodLink RX6 169 yX6_unletAt, Cond.instanceMethod yX6_unletAt, Cond.selects RX6 yX6_unletAt yX6_unletAt, Cond.code yX6_unletAt cX6_unletAt 3 (some (.object "DesertChannels$Share")), Cond.classLink RX6 313 "java/lang/IllegalStateException", Cond.initialized "java/lang/IllegalStateException"]
def wsL_sell_r2 : List Cond := [Cond.fieldLink RX6 208 "DesertChannels" "now" "I", Cond.methodLink RX6 235 yX6_shareAt, Cond.instanceMethod yX6_shareAt, Cond.selects RX6 yX6_shareAt yX6_shareAt, Cond.code yX6_shareAt cX6_shareAt 2 (some (.object "DesertChannels$Share")), Cond.classLink RX6 304 "java/lang/IndexOutOfBoundsException", Cond.initialized "java/lang/IndexOutOfBoundsException", Cond.fieldLink RX6 44 "DesertChannels" "shares" "[LDesertChannels$Share;", Cond.methodLink RX6 238 yX4_isLetFrom, Cond.instanceMethod yX4_isLetFrom, Cond.selects RX4 yX4_isLetFrom yX4_isLetFrom, Cond.initialized RX4, Cond.code yX4_isLetFrom cX4_isLetFrom 2 (some .boolean), Cond.fieldLink RX4 30 "DesertChannels$Share" "letTo" "I", Cond.methodLink RX6 117 yX6_isOwner, Cond.static yX6_isOwner, Cond.code yX6_isOwner cX6_isOwner 1 (some .boolean), Cond.methodLink RX6 75 yX6_isWithin, Cond.static yX6_isWithin, Cond.code yX6_isWithin cX6_isWithin 3 (some .boolean), Cond.methodLink RX6 141 yX6_addShare, Cond.instanceMethod yX6_addShare, Cond.selects RX6 yX6_addShare yX6_addShare, Cond.code yX6_addShare cX6_addShare 5 none]
def wsL_sell_r3 : List Cond := [Cond.methodLink RX6 189 yX4_become, Cond.instanceMethod yX4_become, Cond.selects RX4 yX4_become yX4_become, Cond.code yX4_become cX4_become 5 none, Cond.fieldLink RX4 9 "DesertChannels$Share" "channel" "I", Cond.fieldLink RX4 15 "DesertChannels$Share" "from" "I", Cond.fieldLink RX4 18 "DesertChannels$Share" "to" "I", Cond.fieldLink RX4 21 "DesertChannels$Share" "owner" "I", Cond.fieldLink RX4 24 "DesertChannels$Share" "tenant" "I", Cond.fieldLink RX4 27 "DesertChannels$Share" "letFrom" "I"]
def wsL_sell : List Cond := .codeWith yL_sell cL_sell 6 (some .int) [(0, 9, 12, 25), (0, 9, 16, 27), (0, 9, 20, 13), (0, 9, 24, 19)] :: ((wsL_sell_r1 ++ (wsL_sell_r2 ++ wsL_sell_r3)) ++ wsX40 ++ wsX60 ++ (vx_atS RX6 83 "java/lang/IllegalArgumentException" ["java/lang/RuntimeException", "java/lang/Exception"]).filter goodWord ++ (vx_atS RX6 93 "java/lang/UnsupportedOperationException" ["java/lang/RuntimeException", "java/lang/Exception"]).filter goodWord ++ (vx_atS RX6 317 "java/lang/IllegalStateException" ["java/lang/RuntimeException", "java/lang/Exception"]).filter goodWord ++ (vx_atS RX6 308 "java/lang/IndexOutOfBoundsException" ["java/lang/RuntimeException", "java/lang/Exception"]).filter goodWord)
def wsL_heirs_r1 : List Cond := [Cond.classLink RL 25 "java/lang/IndexOutOfBoundsException", Cond.classLink RL 27 "java/lang/IllegalStateException", Cond.classLink RL 13 "java/lang/IllegalArgumentException", Cond.classLink RL 19 "java/lang/UnsupportedOperationException", Cond.methodLink RL 59 yX6_heirs, Cond.instanceMethod yX6_heirs, Cond.selects RX6 yX6_heirs yX6_heirs, Cond.initialized RX6, Cond.code yX6_heirs cX6_heirs 13 (some .int), Cond.classLink RX6 79 "java/lang/IllegalArgumentException", Cond.initialized "java/lang/IllegalArgumentException", Cond.classLink RX6 89 "java/lang/UnsupportedOperationException", Cond.initialized "java/lang/UnsupportedOperationException", Cond.fieldLink RX6 52 "DesertChannels" "heirRow" "LDesertChannels$Heirs;", Cond.fieldLink RX6 176 "DesertChannels$Share" "to" "I", Cond.fieldLink RX6 173 "DesertChannels$Share" "from" "I", Cond.fieldLink RX6 123 "DesertChannels" "shareCount" "I", Cond.methodLink RX6 169 yX6_unletAt, Cond.instanceMethod yX6_unletAt, Cond.selects RX6 yX6_unletAt yX6_unletAt, Cond.code yX6_unletAt cX6_unletAt 3 (some (.object "DesertChannels$Share")), Cond.classLink RX6 313 "java/lang/IllegalStateException", Cond.initialized "java/lang/IllegalStateException", Cond.fieldLink RX6 208 "DesertChannels" "now" "I"]
def wsL_heirs_r2 : List Cond := [Cond.methodLink RX6 235 yX6_shareAt, Cond.instanceMethod yX6_shareAt, Cond.selects RX6 yX6_shareAt yX6_shareAt, Cond.code yX6_shareAt cX6_shareAt 2 (some (.object "DesertChannels$Share")), Cond.classLink RX6 304 "java/lang/IndexOutOfBoundsException", Cond.initialized "java/lang/IndexOutOfBoundsException", Cond.fieldLink RX6 44 "DesertChannels" "shares" "[LDesertChannels$Share;", Cond.methodLink RX6 238 yX4_isLetFrom, Cond.instanceMethod yX4_isLetFrom, Cond.selects RX4 yX4_isLetFrom yX4_isLetFrom, Cond.initialized RX4, Cond.code yX4_isLetFrom cX4_isLetFrom 2 (some .boolean), Cond.fieldLink RX4 30 "DesertChannels$Share" "letTo" "I", Cond.methodLink RX6 192 yX2_name, Cond.instanceMethod yX2_name, Cond.selects RX2 yX2_name yX2_name, Cond.initialized RX2, Cond.code yX2_name cX2_name 4 none, Cond.fieldLink RX2 9 "DesertChannels$Heirs" "owner" "[I", Cond.fieldLink RX2 18 "DesertChannels$Heirs" "part" "[I", Cond.static yX6_isWithin, Cond.code yX6_isWithin cX6_isWithin 3 (some .boolean), Cond.methodLink RX6 75 yX6_isWithin, Cond.methodLink RX6 195 yX2_firstStand]
def wsL_heirs_r3 : List Cond := [Cond.instanceMethod yX2_firstStand, Cond.selects RX2 yX2_firstStand yX2_firstStand, Cond.code yX2_firstStand cX2_firstStand 3 (some .boolean), Cond.static yX6_isOwner, Cond.code yX6_isOwner cX6_isOwner 1 (some .boolean), Cond.methodLink RX6 200 yX2_partLength, Cond.instanceMethod yX2_partLength, Cond.selects RX2 yX2_partLength yX2_partLength, Cond.code yX2_partLength cX2_partLength 7 (some .int), Cond.fieldLink RX2 15 "DesertChannels$Heirs" "length" "[I", Cond.static yX6_partOf, Cond.code yX6_partOf cX6_partOf 3 (some .int), Cond.methodLink RX6 204 yX6_leaveTo, Cond.instanceMethod yX6_leaveTo, Cond.selects RX6 yX6_leaveTo yX6_leaveTo, Cond.code yX6_leaveTo cX6_leaveTo 8 none, Cond.fieldLink RX6 183 "DesertChannels$Share" "channel" "I", Cond.fieldLink RX6 352 "DesertChannels$Heirs" "length" "[I", Cond.fieldLink RX6 354 "DesertChannels$Heirs" "owner" "[I", Cond.methodLink RX6 141 yX6_addShare, Cond.instanceMethod yX6_addShare, Cond.selects RX6 yX6_addShare yX6_addShare, Cond.code yX6_addShare cX6_addShare 5 none, Cond.methodLink RX6 189 yX4_become]
def wsL_heirs_r4 : List Cond := [Cond.instanceMethod yX4_become, Cond.selects RX4 yX4_become yX4_become, Cond.code yX4_become cX4_become 5 none, Cond.fieldLink RX4 9 "DesertChannels$Share" "channel" "I", Cond.fieldLink RX4 15 "DesertChannels$Share" "from" "I", Cond.fieldLink RX4 18 "DesertChannels$Share" "to" "I", Cond.fieldLink RX4 21 "DesertChannels$Share" "owner" "I", Cond.fieldLink RX4 24 "DesertChannels$Share" "tenant" "I", Cond.fieldLink RX4 27 "DesertChannels$Share" "letFrom" "I"]
def wsL_heirs : List Cond := .codeWith yL_heirs cL_heirs 13 (some .int) [(0, 26, 29, 25), (0, 26, 33, 27), (0, 26, 37, 13), (0, 26, 41, 19)] :: ((wsL_heirs_r1 ++ (wsL_heirs_r2 ++ (wsL_heirs_r3 ++ wsL_heirs_r4))) ++ wsX60 ++ wsX40 ++ wsX20 ++ (vx_atS RX6 83 "java/lang/IllegalArgumentException" ["java/lang/RuntimeException", "java/lang/Exception"]).filter goodWord ++ (vx_atS RX6 93 "java/lang/UnsupportedOperationException" ["java/lang/RuntimeException", "java/lang/Exception"]).filter goodWord ++ (vx_atS RX6 317 "java/lang/IllegalStateException" ["java/lang/RuntimeException", "java/lang/Exception"]).filter goodWord ++ (vx_atS RX6 308 "java/lang/IndexOutOfBoundsException" ["java/lang/RuntimeException", "java/lang/Exception"]).filter goodWord)
def wsL_let_r1 : List Cond := [Cond.classLink RL 25 "java/lang/IndexOutOfBoundsException", Cond.classLink RL 27 "java/lang/IllegalStateException", Cond.classLink RL 13 "java/lang/IllegalArgumentException", Cond.methodLink RL 63 yX6_let, Cond.instanceMethod yX6_let, Cond.selects RX6 yX6_let yX6_let, Cond.initialized RX6, Cond.code yX6_let cX6_let 6 none, Cond.classLink RX6 79 "java/lang/IllegalArgumentException", Cond.initialized "java/lang/IllegalArgumentException", Cond.fieldLink RX6 186 "DesertChannels$Share" "owner" "I", Cond.fieldLink RX6 208 "DesertChannels" "now" "I", Cond.constant RX6 211 (100000000), Cond.fieldLink RX6 214 "DesertChannels$Share" "tenant" "I", Cond.fieldLink RX6 217 "DesertChannels$Share" "letFrom" "I", Cond.fieldLink RX6 220 "DesertChannels$Share" "letTo" "I", Cond.methodLink RX6 169 yX6_unletAt, Cond.instanceMethod yX6_unletAt, Cond.selects RX6 yX6_unletAt yX6_unletAt, Cond.code yX6_unletAt cX6_unletAt 3 (some (.object "DesertChannels$Share")), Cond.classLink RX6 313 "java/lang/IllegalStateException", Cond.initialized "java/lang/IllegalStateException", Cond.methodLink RX6 235 yX6_shareAt, Cond.instanceMethod yX6_shareAt]
def wsL_let_r2 : List Cond := [Cond.selects RX6 yX6_shareAt yX6_shareAt, Cond.code yX6_shareAt cX6_shareAt 2 (some (.object "DesertChannels$Share")), Cond.classLink RX6 304 "java/lang/IndexOutOfBoundsException", Cond.initialized "java/lang/IndexOutOfBoundsException", Cond.fieldLink RX6 123 "DesertChannels" "shareCount" "I", Cond.fieldLink RX6 44 "DesertChannels" "shares" "[LDesertChannels$Share;", Cond.methodLink RX6 238 yX4_isLetFrom, Cond.instanceMethod yX4_isLetFrom, Cond.selects RX4 yX4_isLetFrom yX4_isLetFrom, Cond.initialized RX4, Cond.code yX4_isLetFrom cX4_isLetFrom 2 (some .boolean), Cond.fieldLink RX4 30 "DesertChannels$Share" "letTo" "I", Cond.methodLink RX6 117 yX6_isOwner, Cond.static yX6_isOwner, Cond.code yX6_isOwner cX6_isOwner 1 (some .boolean), Cond.methodLink RX6 75 yX6_isWithin, Cond.static yX6_isWithin, Cond.code yX6_isWithin cX6_isWithin 3 (some .boolean)]
def wsL_let : List Cond := .codeWith yL_let cL_let 6 (some .int) [(0, 9, 12, 25), (0, 9, 16, 27), (0, 9, 20, 13)] :: ((wsL_let_r1 ++ wsL_let_r2) ++ wsX40 ++ wsX60 ++ (vx_atS RX6 83 "java/lang/IllegalArgumentException" ["java/lang/RuntimeException", "java/lang/Exception"]).filter goodWord ++ (vx_atS RX6 317 "java/lang/IllegalStateException" ["java/lang/RuntimeException", "java/lang/Exception"]).filter goodWord ++ (vx_atS RX6 308 "java/lang/IndexOutOfBoundsException" ["java/lang/RuntimeException", "java/lang/Exception"]).filter goodWord)
def wsL_minutes : List Cond := .codeWith yL_minutes cL_minutes 4 (some .int) [(0, 9, 12, 13)] :: ([.classLink RL 13 "java/lang/IllegalArgumentException", .methodLink RL 66 yX6_minutes, .instanceMethod yX6_minutes, .selects RX6 yX6_minutes yX6_minutes, .initialized RX6, .code yX6_minutes cX6_minutes 2 (some .int), .classLink RX6 79 "java/lang/IllegalArgumentException", .initialized "java/lang/IllegalArgumentException", .constant RX6 223 (100000), .fieldLink RX6 208 "DesertChannels" "now" "I", .methodLink RX6 75 yX6_isWithin, .static yX6_isWithin, .code yX6_isWithin cX6_isWithin 3 (some .boolean)] ++ wsX60 ++ (vx_atS RX6 83 "java/lang/IllegalArgumentException" ["java/lang/RuntimeException", "java/lang/Exception"]).filter goodWord)
def wsL_holder_r1 : List Cond := [Cond.classLink RL 25 "java/lang/IndexOutOfBoundsException", Cond.classLink RL 13 "java/lang/IllegalArgumentException", Cond.methodLink RL 69 yX6_holder, Cond.instanceMethod yX6_holder, Cond.selects RX6 yX6_holder yX6_holder, Cond.initialized RX6, Cond.code yX6_holder cX6_holder 7 (some .int), Cond.classLink RX6 79 "java/lang/IllegalArgumentException", Cond.initialized "java/lang/IllegalArgumentException", Cond.fieldLink RX6 126 "DesertChannels$Channel" "turn" "I", Cond.fieldLink RX6 123 "DesertChannels" "shareCount" "I", Cond.fieldLink RX6 44 "DesertChannels" "shares" "[LDesertChannels$Share;", Cond.fieldLink RX6 183 "DesertChannels$Share" "channel" "I", Cond.fieldLink RX6 173 "DesertChannels$Share" "from" "I", Cond.fieldLink RX6 176 "DesertChannels$Share" "to" "I", Cond.methodLink RX6 226 yX6_channelAt, Cond.instanceMethod yX6_channelAt, Cond.selects RX6 yX6_channelAt yX6_channelAt, Cond.code yX6_channelAt cX6_channelAt 2 (some (.object "DesertChannels$Channel")), Cond.classLink RX6 304 "java/lang/IndexOutOfBoundsException", Cond.initialized "java/lang/IndexOutOfBoundsException", Cond.fieldLink RX6 86 "DesertChannels" "channelCount" "I", Cond.fieldLink RX6 31 "DesertChannels" "channels" "[LDesertChannels$Channel;", Cond.methodLink RX6 231 yX4_heldBy]
def wsL_holder_r2 : List Cond := [Cond.instanceMethod yX4_heldBy, Cond.selects RX4 yX4_heldBy yX4_heldBy, Cond.initialized RX4, Cond.code yX4_heldBy cX4_heldBy 2 (some .int), Cond.fieldLink RX4 27 "DesertChannels$Share" "letFrom" "I", Cond.fieldLink RX4 30 "DesertChannels$Share" "letTo" "I", Cond.fieldLink RX4 24 "DesertChannels$Share" "tenant" "I", Cond.fieldLink RX4 21 "DesertChannels$Share" "owner" "I"]
def wsL_holder : List Cond := .codeWith yL_holder cL_holder 5 (some .int) [(0, 10, 13, 25), (0, 10, 17, 13)] :: ((wsL_holder_r1 ++ wsL_holder_r2) ++ wsX00 ++ wsX60 ++ wsX40 ++ (vx_atS RX6 83 "java/lang/IllegalArgumentException" ["java/lang/RuntimeException", "java/lang/Exception"]).filter goodWord ++ (vx_atS RX6 308 "java/lang/IndexOutOfBoundsException" ["java/lang/RuntimeException", "java/lang/Exception"]).filter goodWord)
def wsL_share_r1 : List Cond := [Cond.classLink RL 25 "java/lang/IndexOutOfBoundsException", Cond.classLink RL 75 "java/util/NoSuchElementException", Cond.methodLink RL 72 yX6_share, Cond.instanceMethod yX6_share, Cond.selects RX6 yX6_share yX6_share, Cond.initialized RX6, Cond.code yX6_share cX6_share 4 (some .int), Cond.classLink RX6 241 "java/util/NoSuchElementException", Cond.initialized "java/util/NoSuchElementException", Cond.fieldLink RX6 183 "DesertChannels$Share" "channel" "I", Cond.fieldLink RX6 173 "DesertChannels$Share" "from" "I", Cond.fieldLink RX6 176 "DesertChannels$Share" "to" "I", Cond.fieldLink RX6 186 "DesertChannels$Share" "owner" "I", Cond.fieldLink RX6 208 "DesertChannels" "now" "I", Cond.methodLink RX6 235 yX6_shareAt, Cond.instanceMethod yX6_shareAt, Cond.selects RX6 yX6_shareAt yX6_shareAt, Cond.code yX6_shareAt cX6_shareAt 2 (some (.object "DesertChannels$Share")), Cond.classLink RX6 304 "java/lang/IndexOutOfBoundsException", Cond.initialized "java/lang/IndexOutOfBoundsException", Cond.fieldLink RX6 123 "DesertChannels" "shareCount" "I", Cond.fieldLink RX6 44 "DesertChannels" "shares" "[LDesertChannels$Share;", Cond.methodLink RX6 238 yX4_isLetFrom, Cond.instanceMethod yX4_isLetFrom]
def wsL_share_r2 : List Cond := [Cond.selects RX4 yX4_isLetFrom yX4_isLetFrom, Cond.initialized RX4, Cond.code yX4_isLetFrom cX4_isLetFrom 2 (some .boolean), Cond.fieldLink RX4 30 "DesertChannels$Share" "letTo" "I"]
def wsL_share : List Cond := .codeWith yL_share cL_share 5 (some .int) [(0, 10, 13, 25), (0, 10, 17, 75)] :: ((wsL_share_r1 ++ wsL_share_r2) ++ wsX40 ++ wsX60 ++ (vx_atS RX6 245 "java/util/NoSuchElementException" ["java/lang/RuntimeException", "java/lang/Exception"]).filter goodWord ++ (vx_atS RX6 308 "java/lang/IndexOutOfBoundsException" ["java/lang/RuntimeException", "java/lang/Exception"]).filter goodWord)
def wsL_law_r1 : List Cond := [Cond.classLink RL 13 "java/lang/IllegalArgumentException", Cond.methodLink RL 77 yX6_law, Cond.instanceMethod yX6_law, Cond.selects RX6 yX6_law yX6_law, Cond.initialized RX6, Cond.code yX6_law cX6_law 2 (some .int), Cond.classLink RX6 79 "java/lang/IllegalArgumentException", Cond.initialized "java/lang/IllegalArgumentException", Cond.fieldLink RX6 10 "DesertChannels" "reader" "LDesertChannels$LawReader;", Cond.fieldLink RX6 21 "DesertChannels" "lawNow" "[I", Cond.fieldLink RX6 20 "DesertChannels" "tape" "LDesertChannels$Tape;", Cond.fieldLink RX6 66 "DesertChannels$Tape" "length" "I", Cond.fieldLink RX6 250 "DesertChannels$LawReader" "begin" "I", Cond.fieldLink RX6 25 "DesertChannels" "wrongByte" "I", Cond.fieldLink RX6 255 "DesertChannels$LawReader" "draft" "[I", Cond.methodLink RX6 258 arraycopyName, Cond.native arraycopyName, Cond.static arraycopyName, Cond.initialized "java/lang/System", Cond.methodLink RX6 246 yX3_readTerms, Cond.instanceMethod yX3_readTerms, Cond.selects RX3 yX3_readTerms yX3_readTerms, Cond.initialized RX3, Cond.code yX3_readTerms cX3_readTerms 3 (some .int)]
def wsL_law_r2 : List Cond := [Cond.fieldLink RX3 18 "DesertChannels$LawReader" "draft" "[I", Cond.methodLink RX3 22 arraycopyName, Cond.fieldLink RX3 28 "DesertChannels$LawReader" "behind" "I", Cond.fieldLink RX3 39 "DesertChannels$LawReader" "begin" "I", Cond.fieldLink RX3 12 "DesertChannels$LawReader" "tape" "LDesertChannels$Tape;", Cond.fieldLink RX3 42 "DesertChannels$Tape" "length" "I", Cond.fieldLink RX3 45 "DesertChannels$Tape" "bytes" "[I", Cond.methodLink RX3 32 yX3_isTerm, Cond.instanceMethod yX3_isTerm, Cond.selects RX3 yX3_isTerm yX3_isTerm, Cond.code yX3_isTerm cX3_isTerm 1 (some .boolean), Cond.methodLink RX3 36 yX3_takeThing, Cond.instanceMethod yX3_takeThing, Cond.selects RX3 yX3_takeThing yX3_takeThing, Cond.code yX3_takeThing cX3_takeThing 1 none, Cond.methodLink RX3 84 yX3_isLetter, Cond.static yX3_isLetter, Cond.code yX3_isLetter cX3_isLetter 1 (some .boolean), Cond.static yX6_isWithin, Cond.code yX6_isWithin cX6_isWithin 3 (some .boolean), Cond.methodLink RX3 71 yX3_isDigit, Cond.static yX3_isDigit, Cond.code yX3_isDigit cX3_isDigit 1 (some .boolean), Cond.methodLink RX3 50 yX3_isWord]
def wsL_law_r3 : List Cond := [Cond.instanceMethod yX3_isWord, Cond.selects RX3 yX3_isWord yX3_isWord, Cond.code yX3_isWord cX3_isWord 3 (some .boolean), Cond.methodLink RX3 75 yJ0_length_8abf5, Cond.instanceMethod yJ0_length_8abf5, Cond.selects RJ0 yJ0_length_8abf5 yJ0_length_8abf5, Cond.initialized RJ0, Cond.code yJ0_length_8abf5 cJ0_length_8abf5 1 (some .int), Cond.fieldLink RJ0 9 "java/lang/String" "value" "[B", Cond.methodLink RJ0 335 yJ0_coder_7d493, Cond.instanceMethod yJ0_coder_7d493, Cond.selects RJ0 yJ0_coder_7d493 yJ0_coder_7d493, Cond.code yJ0_coder_7d493 cJ0_coder_7d493 1 (some .byte), Cond.fieldLink RJ0 38 "java/lang/String" "COMPACT_STRINGS" "Z", Cond.fieldLink RJ0 15 "java/lang/String" "coder" "B", Cond.methodLink RX3 80 yJ0_charAt_5068e, Cond.instanceMethod yJ0_charAt_5068e, Cond.selects RJ0 yJ0_charAt_5068e yJ0_charAt_5068e, Cond.code yJ0_charAt_5068e cJ0_charAt_5068e 2 (some .char), Cond.methodLink RJ0 492 yJ0_isLatin1_aae02, Cond.instanceMethod yJ0_isLatin1_aae02, Cond.selects RJ0 yJ0_isLatin1_aae02 yJ0_isLatin1_aae02, Cond.code yJ0_isLatin1_aae02 cJ0_isLatin1_aae02 1 (some .boolean), Cond.methodLink RJ0 495 yJ1_charAt_3b067]
def wsL_law_r4 : List Cond := [Cond.static yJ1_charAt_3b067, Cond.initialized RJ1, Cond.code yJ1_charAt_3b067 cJ1_charAt_3b067 2 (some .char), Cond.methodLink RJ1 9 yJ0_checkIndex_df160, Cond.static yJ0_checkIndex_df160, Cond.code yJ0_checkIndex_df160 cJ0_checkIndex_df160 2 none, Cond.fieldLink RJ0 1053 "jdk/internal/util/Preconditions" "SIOOBE_FORMATTER" "Ljava/util/function/BiFunction;", Cond.methodLink RJ0 1059 yJ3_checkIndex_8e157, Cond.static yJ3_checkIndex_8e157, Cond.initialized RJ3, Cond.code yJ3_checkIndex_8e157 cJ3_checkIndex_8e157 3 (some .int), Cond.methodLink RJ0 498 yJ2_charAt_3b067, Cond.static yJ2_charAt_3b067, Cond.initialized RJ2, Cond.code yJ2_charAt_3b067 cJ2_charAt_3b067 2 (some .char), Cond.methodLink RJ2 67 yJ2_checkIndex_2214a, Cond.static yJ2_checkIndex_2214a, Cond.code yJ2_checkIndex_2214a cJ2_checkIndex_2214a 2 none, Cond.methodLink RJ2 48 yJ2_length_9d52b, Cond.static yJ2_length_9d52b, Cond.code yJ2_length_9d52b cJ2_length_9d52b 1 (some .int), Cond.methodLink RJ2 414 yJ0_checkIndex_df160, Cond.methodLink RJ2 71 yJ2_getChar_3b067, Cond.static yJ2_getChar_3b067]
def wsL_law_r5 : List Cond := [Cond.code yJ2_getChar_3b067 cJ2_getChar_3b067 2 (some .char), Cond.fieldLink RJ2 44 "java/lang/StringUTF16" "$assertionsDisabled" "Z", Cond.fieldLink RJ2 59 "java/lang/StringUTF16" "HI_BYTE_SHIFT" "I", Cond.fieldLink RJ2 63 "java/lang/StringUTF16" "LO_BYTE_SHIFT" "I", Cond.methodLink RX3 54 yX3_isNumber, Cond.instanceMethod yX3_isNumber, Cond.selects RX3 yX3_isNumber yX3_isNumber, Cond.code yX3_isNumber cX3_isNumber 5 (some .boolean), Cond.methodLink RX3 64 yX3_isPayment, Cond.instanceMethod yX3_isPayment, Cond.selects RX3 yX3_isPayment yX3_isPayment, Cond.code yX3_isPayment cX3_isPayment 2 (some .boolean)]
def wsL_law : List Cond := .codeWith yL_law cL_law 3 (some .int) [(0, 8, 11, 13)] :: ((wsL_law_r1 ++ (wsL_law_r2 ++ (wsL_law_r3 ++ (wsL_law_r4 ++ wsL_law_r5)))) ++ wsX60 ++ wsX50 ++ wsX30 ++ (vx_atS RX6 83 "java/lang/IllegalArgumentException" ["java/lang/RuntimeException", "java/lang/Exception"]).filter goodWord)
def wsL_says : List Cond := .codeWith yL_says cL_says 4 (some .int) [(0, 9, 12, 75)] :: ([.classLink RL 75 "java/util/NoSuchElementException", .methodLink RL 80 yX6_says, .instanceMethod yX6_says, .selects RX6 yX6_says yX6_says, .initialized RX6, .code yX6_says cX6_says 2 (some .int), .classLink RX6 241 "java/util/NoSuchElementException", .initialized "java/util/NoSuchElementException", .fieldLink RX6 21 "DesertChannels" "lawNow" "[I"] ++ wsX60 ++ (vx_atS RX6 245 "java/util/NoSuchElementException" ["java/lang/RuntimeException", "java/lang/Exception"]).filter goodWord)
def wsL_pays_r1 : List Cond := [Cond.classLink RL 25 "java/lang/IndexOutOfBoundsException", Cond.classLink RL 27 "java/lang/IllegalStateException", Cond.classLink RL 13 "java/lang/IllegalArgumentException", Cond.methodLink RL 83 yX6_pays, Cond.instanceMethod yX6_pays, Cond.selects RX6 yX6_pays yX6_pays, Cond.initialized RX6, Cond.code yX6_pays cX6_pays 4 (some .int), Cond.classLink RX6 79 "java/lang/IllegalArgumentException", Cond.initialized "java/lang/IllegalArgumentException", Cond.constant RX6 266 (1000000), Cond.fieldLink RX6 21 "DesertChannels" "lawNow" "[I", Cond.methodLink RX6 155 yX6_dugAt, Cond.instanceMethod yX6_dugAt, Cond.selects RX6 yX6_dugAt yX6_dugAt, Cond.code yX6_dugAt cX6_dugAt 3 (some (.object "DesertChannels$Channel")), Cond.classLink RX6 313 "java/lang/IllegalStateException", Cond.initialized "java/lang/IllegalStateException", Cond.methodLink RX6 226 yX6_channelAt, Cond.instanceMethod yX6_channelAt, Cond.selects RX6 yX6_channelAt yX6_channelAt, Cond.code yX6_channelAt cX6_channelAt 2 (some (.object "DesertChannels$Channel")), Cond.classLink RX6 304 "java/lang/IndexOutOfBoundsException", Cond.initialized "java/lang/IndexOutOfBoundsException"]
def wsL_pays_r2 : List Cond := [Cond.fieldLink RX6 86 "DesertChannels" "channelCount" "I", Cond.fieldLink RX6 31 "DesertChannels" "channels" "[LDesertChannels$Channel;", Cond.methodLink RX6 309 yX0_isDug, Cond.instanceMethod yX0_isDug, Cond.selects RX0 yX0_isDug yX0_isDug, Cond.initialized RX0, Cond.code yX0_isDug cX0_isDug 1 (some .boolean), Cond.fieldLink RX0 25 "DesertChannels$Channel" "turn" "I", Cond.methodLink RX6 117 yX6_isOwner, Cond.static yX6_isOwner, Cond.code yX6_isOwner cX6_isOwner 1 (some .boolean), Cond.methodLink RX6 75 yX6_isWithin, Cond.static yX6_isWithin, Cond.code yX6_isWithin cX6_isWithin 3 (some .boolean), Cond.methodLink RX6 269 yX6_weighOwners, Cond.instanceMethod yX6_weighOwners, Cond.selects RX6 yX6_weighOwners yX6_weighOwners, Cond.code yX6_weighOwners cX6_weighOwners 5 none, Cond.fieldLink RX6 56 "DesertChannels" "weights" "[I", Cond.fieldLink RX6 123 "DesertChannels" "shareCount" "I", Cond.fieldLink RX6 44 "DesertChannels" "shares" "[LDesertChannels$Share;", Cond.fieldLink RX6 183 "DesertChannels$Share" "channel" "I", Cond.fieldLink RX6 186 "DesertChannels$Share" "owner" "I", Cond.fieldLink RX6 176 "DesertChannels$Share" "to" "I"]
def wsL_pays_r3 : List Cond := [Cond.fieldLink RX6 173 "DesertChannels$Share" "from" "I", Cond.methodLink RX6 272 yX6_partOf, Cond.static yX6_partOf, Cond.code yX6_partOf cX6_partOf 3 (some .int), Cond.methodLink RX6 276 yX6_paidBy, Cond.instanceMethod yX6_paidBy, Cond.selects RX6 yX6_paidBy yX6_paidBy, Cond.code yX6_paidBy cX6_paidBy 7 (some .int)]
def wsL_pays : List Cond := .codeWith yL_pays cL_pays 6 (some .int) [(0, 12, 15, 25), (0, 12, 19, 27), (0, 12, 23, 13)] :: ((wsL_pays_r1 ++ (wsL_pays_r2 ++ wsL_pays_r3)) ++ wsX60 ++ wsX00 ++ wsX40 ++ (vx_atS RX6 83 "java/lang/IllegalArgumentException" ["java/lang/RuntimeException", "java/lang/Exception"]).filter goodWord ++ (vx_atS RX6 317 "java/lang/IllegalStateException" ["java/lang/RuntimeException", "java/lang/Exception"]).filter goodWord ++ (vx_atS RX6 308 "java/lang/IndexOutOfBoundsException" ["java/lang/RuntimeException", "java/lang/Exception"]).filter goodWord)
def wsL_field : List Cond := .codeWith yL_field cL_field 6 (some .int) [(0, 12, 15, 13)] :: ([.classLink RL 13 "java/lang/IllegalArgumentException", .methodLink RL 86 yX6_field, .instanceMethod yX6_field, .selects RX6 yX6_field yX6_field, .initialized RX6, .code yX6_field cX6_field 4 (some .int), .classLink RX6 79 "java/lang/IllegalArgumentException", .initialized "java/lang/IllegalArgumentException", .fieldLink RX6 62 "DesertChannels" "fields" "LDesertChannels$Fields;", .fieldLink RX6 281 "DesertChannels$Fields" "many" "I", .methodLink RX6 75 yX6_isWithin, .static yX6_isWithin, .code yX6_isWithin cX6_isWithin 3 (some .boolean), .methodLink RX6 284 yX1_addField, .instanceMethod yX1_addField, .selects RX1 yX1_addField yX1_addField, .initialized RX1, .code yX1_addField cX1_addField 4 none, .fieldLink RX1 24 "DesertChannels$Fields" "many" "I", .fieldLink RX1 9 "DesertChannels$Fields" "minutes" "[I", .fieldLink RX1 15 "DesertChannels$Fields" "due" "[I", .fieldLink RX1 18 "DesertChannels$Fields" "loss" "[I"] ++ wsX60 ++ wsX10 ++ (vx_atS RX6 83 "java/lang/IllegalArgumentException" ["java/lang/RuntimeException", "java/lang/Exception"]).filter goodWord)
def wsL_law_0_r1 : List Cond := [Cond.classLink RL 8 RX6, Cond.instantiable RX6 16, Cond.initialized RX6, Cond.classLink RL 90 RX7, Cond.instantiable RX7 36, Cond.initialized RX7, Cond.arrayClass .long, Cond.methodLink RL 89 yX6_init, Cond.instanceMethod yX6_init, Cond.code yX6_init cX6_init 2 none, Cond.methodLink RX6 1 objectInit, Cond.instanceMethod objectInit, Cond.code objectInit ⟨#[0xb1]⟩ 1 none, Cond.classLink RX6 7 RX3, Cond.instantiable RX3 4, Cond.initialized RX3, Cond.fieldLink RX6 10 "DesertChannels" "reader" "LDesertChannels$LawReader;", Cond.fieldLink RX6 16 "DesertChannels$LawReader" "tape" "LDesertChannels$Tape;", Cond.fieldLink RX6 20 "DesertChannels" "tape" "LDesertChannels$Tape;", Cond.arrayClass .int, Cond.fieldLink RX6 21 "DesertChannels" "lawNow" "[I", Cond.fieldLink RX6 25 "DesertChannels" "wrongByte" "I", Cond.classLink RX6 29 RX0, Cond.fieldLink RX6 31 "DesertChannels" "channels" "[LDesertChannels$Channel;"]
def wsL_law_0_r2 : List Cond := [Cond.instantiable RX0 8, Cond.initialized RX0, Cond.fieldLink RX6 36 "DesertChannels" "head" "I", Cond.fieldLink RX6 39 "DesertChannels" "slope" "I", Cond.classLink RX6 42 RX4, Cond.fieldLink RX6 44 "DesertChannels" "shares" "[LDesertChannels$Share;", Cond.instantiable RX4 7, Cond.initialized RX4, Cond.classLink RX6 49 RX2, Cond.instantiable RX2 3, Cond.initialized RX2, Cond.fieldLink RX6 52 "DesertChannels" "heirRow" "LDesertChannels$Heirs;", Cond.fieldLink RX6 56 "DesertChannels" "weights" "[I", Cond.classLink RX6 59 RX1, Cond.instantiable RX1 5, Cond.initialized RX1, Cond.fieldLink RX6 62 "DesertChannels" "fields" "LDesertChannels$Fields;", Cond.instanceMethod yX3_init, Cond.code yX3_init cX3_init 1 none, Cond.methodLink RX3 3 objectInit, Cond.classLink RX3 9 RX5, Cond.instantiable RX5 2, Cond.initialized RX5, Cond.fieldLink RX3 12 "DesertChannels$LawReader" "tape" "LDesertChannels$Tape;"]
def wsL_law_0_r3 : List Cond := [Cond.fieldLink RX3 18 "DesertChannels$LawReader" "draft" "[I", Cond.instanceMethod yX5_init, Cond.code yX5_init cX5_init 1 none, Cond.methodLink RX5 3 objectInit, Cond.fieldLink RX5 9 "DesertChannels$Tape" "bytes" "[I", Cond.instanceMethod yX0_init, Cond.code yX0_init cX0_init 1 none, Cond.methodLink RX0 3 objectInit, Cond.fieldLink RX0 9 "DesertChannels$Channel" "x" "[I", Cond.fieldLink RX0 15 "DesertChannels$Channel" "y" "[I", Cond.fieldLink RX0 18 "DesertChannels$Channel" "floor" "[I", Cond.arrayClass .boolean, Cond.fieldLink RX0 21 "DesertChannels$Channel" "collapsed" "[Z", Cond.instanceMethod yX4_init, Cond.code yX4_init cX4_init 1 none, Cond.methodLink RX4 3 objectInit, Cond.instanceMethod yX2_init, Cond.code yX2_init cX2_init 1 none, Cond.methodLink RX2 3 objectInit, Cond.fieldLink RX2 9 "DesertChannels$Heirs" "owner" "[I", Cond.fieldLink RX2 15 "DesertChannels$Heirs" "length" "[I", Cond.fieldLink RX2 18 "DesertChannels$Heirs" "part" "[I", Cond.instanceMethod yX1_init, Cond.code yX1_init cX1_init 1 none]
def wsL_law_0_r4 : List Cond := [Cond.methodLink RX1 3 objectInit, Cond.fieldLink RX1 9 "DesertChannels$Fields" "minutes" "[I", Cond.fieldLink RX1 15 "DesertChannels$Fields" "due" "[I", Cond.fieldLink RX1 18 "DesertChannels$Fields" "loss" "[I", Cond.fieldLink RX1 21 "DesertChannels$Fields" "best" "[I", Cond.methodLink RL 92 yX7_init, Cond.instanceMethod yX7_init, Cond.code yX7_init cX7_init 1 none, Cond.methodLink RX7 1 objectInit, Cond.fieldLink RX7 7 "DesertChannelsModel" "head" "I", Cond.fieldLink RX7 13 "DesertChannelsModel" "slope" "I", Cond.fieldLink RX7 16 "DesertChannelsModel" "wells" "[I", Cond.fieldLink RX7 20 "DesertChannelsModel" "isDug" "[Z", Cond.fieldLink RX7 24 "DesertChannelsModel" "dugIn" "[I", Cond.fieldLink RX7 27 "DesertChannelsModel" "order" "[I", Cond.fieldLink RX7 30 "DesertChannelsModel" "turn" "[I", Cond.fieldLink RX7 33 "DesertChannelsModel" "wx" "[I", Cond.fieldLink RX7 36 "DesertChannelsModel" "wy" "[I", Cond.fieldLink RX7 39 "DesertChannelsModel" "floor" "[I", Cond.fieldLink RX7 42 "DesertChannelsModel" "isDown" "[Z", Cond.fieldLink RX7 45 "DesertChannelsModel" "share" "[I", Cond.fieldLink RX7 48 "DesertChannelsModel" "who" "[I", Cond.fieldLink RX7 51 "DesertChannelsModel" "part" "[I", Cond.fieldLink RX7 54 "DesertChannelsModel" "length" "[I"]
def wsL_law_0_r5 : List Cond := [Cond.fieldLink RX7 57 "DesertChannelsModel" "says" "[I", Cond.fieldLink RX7 60 "DesertChannelsModel" "draft" "[I", Cond.arrayClass .byte, Cond.fieldLink RX7 63 "DesertChannelsModel" "tape" "[B", Cond.fieldLink RX7 67 "DesertChannelsModel" "faultAt" "I", Cond.fieldLink RX7 70 "DesertChannelsModel" "five" "[I", Cond.fieldLink RX7 73 "DesertChannelsModel" "minutesOf" "[I", Cond.fieldLink RX7 76 "DesertChannelsModel" "need" "[I", Cond.fieldLink RX7 79 "DesertChannelsModel" "due" "[I", Cond.fieldLink RX7 82 "DesertChannelsModel" "loss" "[I", Cond.fieldLink RX7 85 "DesertChannelsModel" "lost" "[I", Cond.methodLink RL 93 yX6_feed, Cond.instanceMethod yX6_feed, Cond.selects RX6 yX6_feed yX6_feed, Cond.code yX6_feed cX6_feed 6 (some .int), Cond.fieldLink RX6 66 "DesertChannels$Tape" "length" "I", Cond.methodLink RX6 71 yX5_append, Cond.instanceMethod yX5_append, Cond.selects RX5 yX5_append yX5_append, Cond.code yX5_append cX5_append 3 none, Cond.fieldLink RX5 15 "DesertChannels$Tape" "length" "I", Cond.methodLink RL 97 yX7_feed, Cond.instanceMethod yX7_feed, Cond.selects RX7 yX7_feed yX7_feed]
def wsL_law_0_r6 : List Cond := [Cond.code yX7_feed cX7_feed 7 (some .int), Cond.fieldLink RX7 88 "DesertChannelsModel" "thrown" "I", Cond.fieldLink RX7 173 "DesertChannelsModel" "taped" "I", Cond.methodLink RL 98 yX6_end, Cond.instanceMethod yX6_end, Cond.selects RX6 yX6_end yX6_end, Cond.code yX6_end cX6_end 2 (some .boolean), Cond.methodLink RL 101 yX7_end, Cond.instanceMethod yX7_end, Cond.selects RX7 yX7_end yX7_end, Cond.code yX7_end cX7_end 2 (some .boolean), Cond.methodLink RL 102 yL_ground, Cond.static yL_ground, Cond.initialized RL, Cond.codeWith yL_ground cL_ground 4 (some .int) [(0, 6, 9, 13)], Cond.classLink RL 13 "java/lang/IllegalArgumentException", Cond.methodLink RL 7 yX6_ground, Cond.instanceMethod yX6_ground, Cond.selects RX6 yX6_ground yX6_ground, Cond.code yX6_ground cX6_ground 3 none, Cond.classLink RX6 79 "java/lang/IllegalArgumentException", Cond.initialized "java/lang/IllegalArgumentException", Cond.methodLink RX6 75 yX6_isWithin, Cond.static yX6_isWithin]
def wsL_law_0_r7 : List Cond := [Cond.code yX6_isWithin cX6_isWithin 3 (some .boolean), Cond.methodLink RL 107 yX7_ground, Cond.instanceMethod yX7_ground, Cond.selects RX7 yX7_ground yX7_ground, Cond.code yX7_ground cX7_ground 3 none, Cond.methodLink RX7 94 yX7_in, Cond.static yX7_in, Cond.code yX7_in cX7_in 3 (some .boolean), Cond.methodLink RX7 105 yX7_throwsIf, Cond.instanceMethod yX7_throwsIf, Cond.selects RX7 yX7_throwsIf yX7_throwsIf, Cond.code yX7_throwsIf cX7_throwsIf 3 (some .boolean), Cond.methodLink RL 108 yX7_thrown, Cond.instanceMethod yX7_thrown, Cond.selects RX7 yX7_thrown yX7_thrown, Cond.code yX7_thrown cX7_thrown 1 (some .int), Cond.methodLink RL 111 yL_channel, Cond.static yL_channel, Cond.codeWith yL_channel cL_channel 3 (some .int) [(0, 8, 11, 19)], Cond.classLink RL 19 "java/lang/UnsupportedOperationException", Cond.methodLink RL 15 yX6_channel, Cond.instanceMethod yX6_channel, Cond.selects RX6 yX6_channel yX6_channel, Cond.code yX6_channel cX6_channel 1 (some .int)]
def wsL_law_0_r8 : List Cond := [Cond.classLink RX6 89 "java/lang/UnsupportedOperationException", Cond.initialized "java/lang/UnsupportedOperationException", Cond.fieldLink RX6 86 "DesertChannels" "channelCount" "I", Cond.methodLink RL 114 yX7_channel, Cond.instanceMethod yX7_channel, Cond.selects RX7 yX7_channel yX7_channel, Cond.code yX7_channel cX7_channel 1 (some .int), Cond.fieldLink RX7 91 "DesertChannelsModel" "channels" "I", Cond.methodLink RL 115 yL_well, Cond.static yL_well, Cond.codeWith yL_well cL_well 7 (some .int) [(0, 14, 17, 25), (0, 14, 21, 27), (0, 14, 25, 13), (0, 14, 29, 19)], Cond.classLink RL 25 "java/lang/IndexOutOfBoundsException", Cond.classLink RL 27 "java/lang/IllegalStateException", Cond.methodLink RL 21 yX6_well, Cond.instanceMethod yX6_well, Cond.selects RX6 yX6_well yX6_well, Cond.code yX6_well cX6_well 6 (some .int), Cond.fieldLink RX6 104 "DesertChannels$Channel" "wells" "I", Cond.methodLink RX6 94 yX6_undugAt, Cond.instanceMethod yX6_undugAt, Cond.selects RX6 yX6_undugAt yX6_undugAt, Cond.code yX6_undugAt cX6_undugAt 3 (some (.object "DesertChannels$Channel")), Cond.classLink RX6 313 "java/lang/IllegalStateException", Cond.initialized "java/lang/IllegalStateException"]
def wsL_law_0_r9 : List Cond := [Cond.methodLink RX6 226 yX6_channelAt, Cond.instanceMethod yX6_channelAt, Cond.selects RX6 yX6_channelAt yX6_channelAt, Cond.code yX6_channelAt cX6_channelAt 2 (some (.object "DesertChannels$Channel")), Cond.classLink RX6 304 "java/lang/IndexOutOfBoundsException", Cond.initialized "java/lang/IndexOutOfBoundsException", Cond.methodLink RX6 309 yX0_isDug, Cond.instanceMethod yX0_isDug, Cond.selects RX0 yX0_isDug yX0_isDug, Cond.code yX0_isDug cX0_isDug 1 (some .boolean), Cond.fieldLink RX0 25 "DesertChannels$Channel" "turn" "I", Cond.methodLink RX6 98 yX0_lastFloor, Cond.instanceMethod yX0_lastFloor, Cond.selects RX0 yX0_lastFloor yX0_lastFloor, Cond.code yX0_lastFloor cX0_lastFloor 1 (some .int), Cond.fieldLink RX0 29 "DesertChannels$Channel" "wells" "I", Cond.methodLink RX6 109 yX0_addWell, Cond.instanceMethod yX0_addWell, Cond.selects RX0 yX0_addWell yX0_addWell, Cond.code yX0_addWell cX0_addWell 4 none, Cond.methodLink RL 118 yX7_well, Cond.instanceMethod yX7_well, Cond.selects RX7 yX7_well yX7_well, Cond.code yX7_well cX7_well 7 (some .int)]
def wsL_law_0_r10 : List Cond := [Cond.methodLink RX7 98 yX7_noChannel, Cond.instanceMethod yX7_noChannel, Cond.selects RX7 yX7_noChannel yX7_noChannel, Cond.code yX7_noChannel cX7_noChannel 2 (some .boolean), Cond.methodLink RL 119 yL_may, Cond.static yL_may, Cond.codeWith yL_may cL_may 4 (some .int) [(0, 16, 19, 25), (0, 16, 22, 27)], Cond.methodLink RL 29 yX6_may, Cond.instanceMethod yX6_may, Cond.selects RX6 yX6_may yX6_may, Cond.code yX6_may cX6_may 2 (some .boolean), Cond.methodLink RX6 113 yX6_isAllowed, Cond.instanceMethod yX6_isAllowed, Cond.selects RX6 yX6_isAllowed yX6_isAllowed, Cond.code yX6_isAllowed cX6_isAllowed 4 (some .boolean), Cond.methodLink RX6 326 yX6_isClearOf, Cond.instanceMethod yX6_isClearOf, Cond.selects RX6 yX6_isClearOf yX6_isClearOf, Cond.code yX6_isClearOf cX6_isClearOf 6 (some .boolean), Cond.fieldLink RX6 330 "DesertChannels$Channel" "x" "[I", Cond.fieldLink RX6 333 "DesertChannels$Channel" "y" "[I", Cond.fieldLink RX6 340 "DesertChannels$Channel" "floor" "[I", Cond.methodLink RX6 336 yX6_kingSteps, Cond.static yX6_kingSteps]
def wsL_law_0_r11 : List Cond := [Cond.code yX6_kingSteps cX6_kingSteps 4 (some .int), Cond.methodLink RX6 296 Lib.Math.abs.name, Cond.static Lib.Math.abs.name, Cond.initialized "java/lang/Math", Cond.code Lib.Math.abs.name Lib.Math.abs.code 1 (some .int), Cond.methodLink RX6 301 Lib.Math.max.name, Cond.static Lib.Math.max.name, Cond.code Lib.Math.max.name Lib.Math.max.code 2 (some .int), Cond.methodLink RL 122 yX7_may, Cond.instanceMethod yX7_may, Cond.selects RX7 yX7_may yX7_may, Cond.code yX7_may cX7_may 2 (some .boolean), Cond.methodLink RX7 123 yX7_mayBe, Cond.instanceMethod yX7_mayBe, Cond.selects RX7 yX7_mayBe yX7_mayBe, Cond.code yX7_mayBe cX7_mayBe 5 (some .boolean), Cond.methodLink RX7 119 yX7_steps, Cond.static yX7_steps, Cond.code yX7_steps cX7_steps 4 (some .int), Cond.methodLink RX7 109 Lib.Math.abs.name, Cond.methodLink RX7 115 Lib.Math.max.name, Cond.methodLink RL 123 yL_dig, Cond.static yL_dig, Cond.codeWith yL_dig cL_dig 6 (some .int) [(0, 12, 15, 25), (0, 12, 19, 27), (0, 12, 23, 13)]]
def wsL_law_0_r12 : List Cond := [Cond.methodLink RL 33 yX6_dig, Cond.instanceMethod yX6_dig, Cond.selects RX6 yX6_dig yX6_dig, Cond.code yX6_dig cX6_dig 5 (some .int), Cond.fieldLink RX6 123 "DesertChannels" "shareCount" "I", Cond.fieldLink RX6 126 "DesertChannels$Channel" "turn" "I", Cond.fieldLink RX6 129 "DesertChannels" "year" "I", Cond.fieldLink RX6 132 "DesertChannels$Channel" "dugYear" "I", Cond.fieldLink RX6 135 "DesertChannels" "dugCount" "I", Cond.fieldLink RX6 138 "DesertChannels$Channel" "dugOrder" "I", Cond.methodLink RX6 117 yX6_isOwner, Cond.static yX6_isOwner, Cond.code yX6_isOwner cX6_isOwner 1 (some .boolean), Cond.methodLink RX6 141 yX6_addShare, Cond.instanceMethod yX6_addShare, Cond.selects RX6 yX6_addShare yX6_addShare, Cond.code yX6_addShare cX6_addShare 5 none, Cond.methodLink RX6 189 yX4_become, Cond.instanceMethod yX4_become, Cond.selects RX4 yX4_become yX4_become, Cond.code yX4_become cX4_become 5 none, Cond.fieldLink RX4 9 "DesertChannels$Share" "channel" "I", Cond.fieldLink RX4 15 "DesertChannels$Share" "from" "I", Cond.fieldLink RX4 18 "DesertChannels$Share" "to" "I"]
def wsL_law_0_r13 : List Cond := [Cond.fieldLink RX4 21 "DesertChannels$Share" "owner" "I", Cond.fieldLink RX4 24 "DesertChannels$Share" "tenant" "I", Cond.fieldLink RX4 27 "DesertChannels$Share" "letFrom" "I", Cond.fieldLink RX4 30 "DesertChannels$Share" "letTo" "I", Cond.methodLink RL 126 yX7_dig, Cond.instanceMethod yX7_dig, Cond.selects RX7 yX7_dig yX7_dig, Cond.code yX7_dig cX7_dig 4 (some .int), Cond.fieldLink RX7 102 "DesertChannelsModel" "shares" "I", Cond.fieldLink RX7 126 "DesertChannelsModel" "year" "I", Cond.fieldLink RX7 129 "DesertChannelsModel" "dug" "I", Cond.methodLink RX7 132 yX7_adds, Cond.instanceMethod yX7_adds, Cond.selects RX7 yX7_adds yX7_adds, Cond.code yX7_adds cX7_adds 5 none, Cond.methodLink RX7 156 yX7_sets, Cond.instanceMethod yX7_sets, Cond.selects RX7 yX7_sets yX7_sets, Cond.code yX7_sets cX7_sets 6 none, Cond.methodLink RL 127 yL_years, Cond.static yL_years, Cond.codeWith yL_years cL_years 4 (some .int) [(0, 9, 12, 13)], Cond.methodLink RL 37 yX6_years, Cond.instanceMethod yX6_years]
def wsL_law_0_r14 : List Cond := [Cond.selects RX6 yX6_years yX6_years, Cond.code yX6_years cX6_years 2 (some .int), Cond.methodLink RL 129 yX7_years, Cond.instanceMethod yX7_years, Cond.selects RX7 yX7_years yX7_years, Cond.code yX7_years cX7_years 2 (some .int), Cond.methodLink RL 130 yL_collapse, Cond.static yL_collapse, Cond.codeWith yL_collapse cL_collapse 6 (some .int) [(0, 19, 22, 25), (0, 19, 26, 27)], Cond.methodLink RL 41 yX6_collapse, Cond.instanceMethod yX6_collapse, Cond.selects RX6 yX6_collapse yX6_collapse, Cond.code yX6_collapse cX6_collapse 6 (some .boolean), Cond.fieldLink RX6 151 "DesertChannels$Channel" "collapsed" "[Z", Cond.methodLink RX6 147 yX6_dugWithWell, Cond.instanceMethod yX6_dugWithWell, Cond.selects RX6 yX6_dugWithWell yX6_dugWithWell, Cond.code yX6_dugWithWell cX6_dugWithWell 4 (some (.object "DesertChannels$Channel")), Cond.methodLink RL 133 yX7_collapse, Cond.instanceMethod yX7_collapse, Cond.selects RX7 yX7_collapse yX7_collapse, Cond.code yX7_collapse cX7_collapse 5 (some .boolean), Cond.methodLink RX7 136 yX7_noWell, Cond.instanceMethod yX7_noWell]
def wsL_law_0_r15 : List Cond := [Cond.selects RX7 yX7_noWell yX7_noWell, Cond.code yX7_noWell cX7_noWell 3 (some .boolean), Cond.methodLink RL 134 yL_flow, Cond.static yL_flow, Cond.codeWith yL_flow cL_flow 4 (some .int) [(0, 9, 12, 25), (0, 9, 15, 27)], Cond.methodLink RL 45 yX6_flow, Cond.instanceMethod yX6_flow, Cond.selects RX6 yX6_flow yX6_flow, Cond.code yX6_flow cX6_flow 2 (some .int), Cond.methodLink RX6 155 yX6_dugAt, Cond.instanceMethod yX6_dugAt, Cond.selects RX6 yX6_dugAt yX6_dugAt, Cond.code yX6_dugAt cX6_dugAt 3 (some (.object "DesertChannels$Channel")), Cond.methodLink RX6 158 yX6_flowOf, Cond.instanceMethod yX6_flowOf, Cond.selects RX6 yX6_flowOf yX6_flowOf, Cond.code yX6_flowOf cX6_flowOf 5 (some .int), Cond.methodLink RX6 162 yX0_runningWells, Cond.instanceMethod yX0_runningWells, Cond.selects RX0 yX0_runningWells yX0_runningWells, Cond.code yX0_runningWells cX0_runningWells 2 (some .int), Cond.methodLink RX6 165 yX6_seepAt, Cond.instanceMethod yX6_seepAt, Cond.selects RX6 yX6_seepAt yX6_seepAt]
def wsL_law_0_r16 : List Cond := [Cond.code yX6_seepAt cX6_seepAt 7 (some .int), Cond.methodLink RX6 346 Lib.Math.min.name, Cond.static Lib.Math.min.name, Cond.code Lib.Math.min.name Lib.Math.min.code 2 (some .int), Cond.methodLink RX6 343 yX6_drawAt, Cond.instanceMethod yX6_drawAt, Cond.selects RX6 yX6_drawAt yX6_drawAt, Cond.code yX6_drawAt cX6_drawAt 7 (some .int), Cond.methodLink RX6 349 yX0_leaksBelow, Cond.instanceMethod yX0_leaksBelow, Cond.selects RX0 yX0_leaksBelow yX0_leaksBelow, Cond.code yX0_leaksBelow cX0_leaksBelow 3 (some .boolean), Cond.methodLink RL 136 yX7_flow, Cond.instanceMethod yX7_flow, Cond.selects RX7 yX7_flow yX7_flow, Cond.code yX7_flow cX7_flow 2 (some .int), Cond.methodLink RX7 153 yX7_flows, Cond.instanceMethod yX7_flows, Cond.selects RX7 yX7_flows yX7_flows, Cond.code yX7_flows cX7_flows 6 (some .int), Cond.methodLink RX7 140 yX7_runs, Cond.instanceMethod yX7_runs, Cond.selects RX7 yX7_runs yX7_runs, Cond.code yX7_runs cX7_runs 3 (some .int)]
def wsL_law_0_r17 : List Cond := [Cond.methodLink RX7 150 yX7_seeps, Cond.instanceMethod yX7_seeps, Cond.selects RX7 yX7_seeps yX7_seeps, Cond.code yX7_seeps cX7_seeps 7 (some .int), Cond.methodLink RX7 147 Lib.Math.min.name, Cond.methodLink RX7 143 yX7_draw, Cond.instanceMethod yX7_draw, Cond.selects RX7 yX7_draw yX7_draw, Cond.code yX7_draw cX7_draw 6 (some .int), Cond.methodLink RL 137 yL_harm, Cond.static yL_harm, Cond.codeWith yL_harm cL_harm 4 (some .int) [(0, 9, 12, 25), (0, 9, 15, 27)], Cond.methodLink RL 48 yX6_harm, Cond.instanceMethod yX6_harm, Cond.selects RX6 yX6_harm yX6_harm, Cond.code yX6_harm cX6_harm 3 (some .int), Cond.methodLink RL 139 yX7_harm, Cond.instanceMethod yX7_harm, Cond.selects RX7 yX7_harm yX7_harm, Cond.code yX7_harm cX7_harm 2 (some .int), Cond.methodLink RL 140 yL_seep, Cond.static yL_seep, Cond.codeWith yL_seep cL_seep 5 (some .int) [(0, 10, 13, 25), (0, 10, 17, 27)], Cond.methodLink RL 51 yX6_seep]
def wsL_law_0_r18 : List Cond := [Cond.instanceMethod yX6_seep, Cond.selects RX6 yX6_seep yX6_seep, Cond.code yX6_seep cX6_seep 4 (some .int), Cond.methodLink RL 143 yX7_seep, Cond.instanceMethod yX7_seep, Cond.selects RX7 yX7_seep yX7_seep, Cond.code yX7_seep cX7_seep 3 (some .int), Cond.methodLink RL 144 yL_sell, Cond.static yL_sell, Cond.codeWith yL_sell cL_sell 6 (some .int) [(0, 9, 12, 25), (0, 9, 16, 27), (0, 9, 20, 13), (0, 9, 24, 19)], Cond.methodLink RL 55 yX6_sell, Cond.instanceMethod yX6_sell, Cond.selects RX6 yX6_sell yX6_sell, Cond.code yX6_sell cX6_sell 8 none, Cond.fieldLink RX6 173 "DesertChannels$Share" "from" "I", Cond.fieldLink RX6 176 "DesertChannels$Share" "to" "I", Cond.fieldLink RX6 183 "DesertChannels$Share" "channel" "I", Cond.fieldLink RX6 186 "DesertChannels$Share" "owner" "I", Cond.methodLink RX6 169 yX6_unletAt, Cond.instanceMethod yX6_unletAt, Cond.selects RX6 yX6_unletAt yX6_unletAt, Cond.code yX6_unletAt cX6_unletAt 3 (some (.object "DesertChannels$Share")), Cond.fieldLink RX6 208 "DesertChannels" "now" "I", Cond.methodLink RX6 235 yX6_shareAt]
def wsL_law_0_r19 : List Cond := [Cond.instanceMethod yX6_shareAt, Cond.selects RX6 yX6_shareAt yX6_shareAt, Cond.code yX6_shareAt cX6_shareAt 2 (some (.object "DesertChannels$Share")), Cond.methodLink RX6 238 yX4_isLetFrom, Cond.instanceMethod yX4_isLetFrom, Cond.selects RX4 yX4_isLetFrom yX4_isLetFrom, Cond.code yX4_isLetFrom cX4_isLetFrom 2 (some .boolean), Cond.methodLink RL 147 yX7_sell, Cond.instanceMethod yX7_sell, Cond.selects RX7 yX7_sell yX7_sell, Cond.code yX7_sell cX7_sell 11 none, Cond.methodLink RX7 162 yX7_noShare, Cond.instanceMethod yX7_noShare, Cond.selects RX7 yX7_noShare yX7_noShare, Cond.code yX7_noShare cX7_noShare 2 (some .boolean), Cond.methodLink RX7 165 yX7_isLet, Cond.instanceMethod yX7_isLet, Cond.selects RX7 yX7_isLet yX7_isLet, Cond.code yX7_isLet cX7_isLet 2 (some .boolean), Cond.fieldLink RX7 159 "DesertChannelsModel" "now" "I", Cond.methodLink RX7 168 yX7_noOwner, Cond.static yX7_noOwner, Cond.code yX7_noOwner cX7_noOwner 1 (some .boolean), Cond.methodLink RL 148 yL_heirs]
def wsL_law_0_r20 : List Cond := [Cond.static yL_heirs, Cond.codeWith yL_heirs cL_heirs 13 (some .int) [(0, 26, 29, 25), (0, 26, 33, 27), (0, 26, 37, 13), (0, 26, 41, 19)], Cond.methodLink RL 59 yX6_heirs, Cond.instanceMethod yX6_heirs, Cond.selects RX6 yX6_heirs yX6_heirs, Cond.code yX6_heirs cX6_heirs 13 (some .int), Cond.methodLink RX6 192 yX2_name, Cond.instanceMethod yX2_name, Cond.selects RX2 yX2_name yX2_name, Cond.code yX2_name cX2_name 4 none, Cond.methodLink RX6 195 yX2_firstStand, Cond.instanceMethod yX2_firstStand, Cond.selects RX2 yX2_firstStand yX2_firstStand, Cond.code yX2_firstStand cX2_firstStand 3 (some .boolean), Cond.methodLink RX6 200 yX2_partLength, Cond.instanceMethod yX2_partLength, Cond.selects RX2 yX2_partLength yX2_partLength, Cond.code yX2_partLength cX2_partLength 7 (some .int), Cond.static yX6_partOf, Cond.code yX6_partOf cX6_partOf 3 (some .int), Cond.methodLink RX6 204 yX6_leaveTo, Cond.instanceMethod yX6_leaveTo, Cond.selects RX6 yX6_leaveTo yX6_leaveTo, Cond.code yX6_leaveTo cX6_leaveTo 8 none]
def wsL_law_0_r21 : List Cond := [Cond.fieldLink RX6 352 "DesertChannels$Heirs" "length" "[I", Cond.fieldLink RX6 354 "DesertChannels$Heirs" "owner" "[I", Cond.methodLink RL 151 yX7_heirs, Cond.instanceMethod yX7_heirs, Cond.selects RX7 yX7_heirs yX7_heirs, Cond.code yX7_heirs cX7_heirs 20 (some .int), Cond.methodLink RL 152 yL_let, Cond.static yL_let, Cond.codeWith yL_let cL_let 6 (some .int) [(0, 9, 12, 25), (0, 9, 16, 27), (0, 9, 20, 13)], Cond.methodLink RL 63 yX6_let, Cond.instanceMethod yX6_let, Cond.selects RX6 yX6_let yX6_let, Cond.code yX6_let cX6_let 6 none, Cond.constant RX6 211 (100000000), Cond.fieldLink RX6 214 "DesertChannels$Share" "tenant" "I", Cond.fieldLink RX6 217 "DesertChannels$Share" "letFrom" "I", Cond.fieldLink RX6 220 "DesertChannels$Share" "letTo" "I", Cond.methodLink RL 154 yX7_let, Cond.instanceMethod yX7_let, Cond.selects RX7 yX7_let yX7_let, Cond.code yX7_let cX7_let 6 none, Cond.constant RX7 171 (100000000), Cond.methodLink RL 155 yL_minutes, Cond.static yL_minutes]
def wsL_law_0_r22 : List Cond := [Cond.codeWith yL_minutes cL_minutes 4 (some .int) [(0, 9, 12, 13)], Cond.methodLink RL 66 yX6_minutes, Cond.instanceMethod yX6_minutes, Cond.selects RX6 yX6_minutes yX6_minutes, Cond.code yX6_minutes cX6_minutes 2 (some .int), Cond.constant RX6 223 (100000), Cond.methodLink RL 157 yX7_minutes, Cond.instanceMethod yX7_minutes, Cond.selects RX7 yX7_minutes yX7_minutes, Cond.code yX7_minutes cX7_minutes 2 (some .int), Cond.constant RX7 172 (100000), Cond.methodLink RL 158 yL_holder, Cond.static yL_holder, Cond.codeWith yL_holder cL_holder 5 (some .int) [(0, 10, 13, 25), (0, 10, 17, 13)], Cond.methodLink RL 69 yX6_holder, Cond.instanceMethod yX6_holder, Cond.selects RX6 yX6_holder yX6_holder, Cond.code yX6_holder cX6_holder 7 (some .int), Cond.methodLink RX6 231 yX4_heldBy, Cond.instanceMethod yX4_heldBy, Cond.selects RX4 yX4_heldBy yX4_heldBy, Cond.code yX4_heldBy cX4_heldBy 2 (some .int), Cond.methodLink RL 160 yX7_holder, Cond.instanceMethod yX7_holder]
def wsL_law_0_r23 : List Cond := [Cond.selects RX7 yX7_holder yX7_holder, Cond.code yX7_holder cX7_holder 6 (some .int), Cond.methodLink RL 161 yL_share, Cond.static yL_share, Cond.codeWith yL_share cL_share 5 (some .int) [(0, 10, 13, 25), (0, 10, 17, 75)], Cond.classLink RL 75 "java/util/NoSuchElementException", Cond.methodLink RL 72 yX6_share, Cond.instanceMethod yX6_share, Cond.selects RX6 yX6_share yX6_share, Cond.code yX6_share cX6_share 4 (some .int), Cond.classLink RX6 241 "java/util/NoSuchElementException", Cond.initialized "java/util/NoSuchElementException", Cond.methodLink RL 163 yX7_share, Cond.instanceMethod yX7_share, Cond.selects RX7 yX7_share yX7_share, Cond.code yX7_share cX7_share 3 (some .int), Cond.methodLink RL 164 yL_law, Cond.static yL_law, Cond.codeWith yL_law cL_law 3 (some .int) [(0, 8, 11, 13)], Cond.methodLink RL 77 yX6_law, Cond.instanceMethod yX6_law, Cond.selects RX6 yX6_law yX6_law, Cond.code yX6_law cX6_law 2 (some .int), Cond.fieldLink RX6 250 "DesertChannels$LawReader" "begin" "I"]
def wsL_law_0_r24 : List Cond := [Cond.fieldLink RX6 255 "DesertChannels$LawReader" "draft" "[I", Cond.methodLink RX6 258 arraycopyName, Cond.native arraycopyName, Cond.static arraycopyName, Cond.initialized "java/lang/System", Cond.methodLink RX6 246 yX3_readTerms, Cond.instanceMethod yX3_readTerms, Cond.selects RX3 yX3_readTerms yX3_readTerms, Cond.code yX3_readTerms cX3_readTerms 3 (some .int), Cond.methodLink RX3 22 arraycopyName, Cond.fieldLink RX3 28 "DesertChannels$LawReader" "behind" "I", Cond.fieldLink RX3 39 "DesertChannels$LawReader" "begin" "I", Cond.fieldLink RX3 42 "DesertChannels$Tape" "length" "I", Cond.fieldLink RX3 45 "DesertChannels$Tape" "bytes" "[I", Cond.methodLink RX3 32 yX3_isTerm, Cond.instanceMethod yX3_isTerm, Cond.selects RX3 yX3_isTerm yX3_isTerm, Cond.code yX3_isTerm cX3_isTerm 1 (some .boolean), Cond.methodLink RX3 36 yX3_takeThing, Cond.instanceMethod yX3_takeThing, Cond.selects RX3 yX3_takeThing yX3_takeThing, Cond.code yX3_takeThing cX3_takeThing 1 none, Cond.methodLink RX3 84 yX3_isLetter, Cond.static yX3_isLetter]
def wsL_law_0_r25 : List Cond := [Cond.code yX3_isLetter cX3_isLetter 1 (some .boolean), Cond.methodLink RX3 71 yX3_isDigit, Cond.static yX3_isDigit, Cond.code yX3_isDigit cX3_isDigit 1 (some .boolean), Cond.methodLink RX3 50 yX3_isWord, Cond.instanceMethod yX3_isWord, Cond.selects RX3 yX3_isWord yX3_isWord, Cond.code yX3_isWord cX3_isWord 3 (some .boolean), Cond.methodLink RX3 75 yJ0_length_8abf5, Cond.instanceMethod yJ0_length_8abf5, Cond.selects RJ0 yJ0_length_8abf5 yJ0_length_8abf5, Cond.initialized RJ0, Cond.code yJ0_length_8abf5 cJ0_length_8abf5 1 (some .int), Cond.fieldLink RJ0 9 "java/lang/String" "value" "[B", Cond.methodLink RJ0 335 yJ0_coder_7d493, Cond.instanceMethod yJ0_coder_7d493, Cond.selects RJ0 yJ0_coder_7d493 yJ0_coder_7d493, Cond.code yJ0_coder_7d493 cJ0_coder_7d493 1 (some .byte), Cond.fieldLink RJ0 38 "java/lang/String" "COMPACT_STRINGS" "Z", Cond.fieldLink RJ0 15 "java/lang/String" "coder" "B", Cond.methodLink RX3 80 yJ0_charAt_5068e, Cond.instanceMethod yJ0_charAt_5068e, Cond.selects RJ0 yJ0_charAt_5068e yJ0_charAt_5068e, Cond.code yJ0_charAt_5068e cJ0_charAt_5068e 2 (some .char)]
def wsL_law_0_r26 : List Cond := [Cond.methodLink RJ0 492 yJ0_isLatin1_aae02, Cond.instanceMethod yJ0_isLatin1_aae02, Cond.selects RJ0 yJ0_isLatin1_aae02 yJ0_isLatin1_aae02, Cond.code yJ0_isLatin1_aae02 cJ0_isLatin1_aae02 1 (some .boolean), Cond.methodLink RJ0 495 yJ1_charAt_3b067, Cond.static yJ1_charAt_3b067, Cond.initialized RJ1, Cond.code yJ1_charAt_3b067 cJ1_charAt_3b067 2 (some .char), Cond.methodLink RJ1 9 yJ0_checkIndex_df160, Cond.static yJ0_checkIndex_df160, Cond.code yJ0_checkIndex_df160 cJ0_checkIndex_df160 2 none, Cond.fieldLink RJ0 1053 "jdk/internal/util/Preconditions" "SIOOBE_FORMATTER" "Ljava/util/function/BiFunction;", Cond.methodLink RJ0 1059 yJ3_checkIndex_8e157, Cond.static yJ3_checkIndex_8e157, Cond.initialized RJ3, Cond.code yJ3_checkIndex_8e157 cJ3_checkIndex_8e157 3 (some .int), Cond.methodLink RJ0 498 yJ2_charAt_3b067, Cond.static yJ2_charAt_3b067, Cond.initialized RJ2, Cond.code yJ2_charAt_3b067 cJ2_charAt_3b067 2 (some .char), Cond.methodLink RJ2 67 yJ2_checkIndex_2214a, Cond.static yJ2_checkIndex_2214a, Cond.code yJ2_checkIndex_2214a cJ2_checkIndex_2214a 2 none, Cond.methodLink RJ2 48 yJ2_length_9d52b]
def wsL_law_0_r27 : List Cond := [Cond.static yJ2_length_9d52b, Cond.code yJ2_length_9d52b cJ2_length_9d52b 1 (some .int), Cond.methodLink RJ2 414 yJ0_checkIndex_df160, Cond.methodLink RJ2 71 yJ2_getChar_3b067, Cond.static yJ2_getChar_3b067, Cond.code yJ2_getChar_3b067 cJ2_getChar_3b067 2 (some .char), Cond.fieldLink RJ2 44 "java/lang/StringUTF16" "$assertionsDisabled" "Z", Cond.fieldLink RJ2 59 "java/lang/StringUTF16" "HI_BYTE_SHIFT" "I", Cond.fieldLink RJ2 63 "java/lang/StringUTF16" "LO_BYTE_SHIFT" "I", Cond.methodLink RX3 54 yX3_isNumber, Cond.instanceMethod yX3_isNumber, Cond.selects RX3 yX3_isNumber yX3_isNumber, Cond.code yX3_isNumber cX3_isNumber 5 (some .boolean), Cond.methodLink RX3 64 yX3_isPayment, Cond.instanceMethod yX3_isPayment, Cond.selects RX3 yX3_isPayment yX3_isPayment, Cond.code yX3_isPayment cX3_isPayment 2 (some .boolean), Cond.methodLink RL 166 yX7_law, Cond.instanceMethod yX7_law, Cond.selects RX7 yX7_law yX7_law, Cond.code yX7_law cX7_law 4 (some .int), Cond.fieldLink RX7 179 "DesertChannelsModel" "end" "I", Cond.fieldLink RX7 176 "DesertChannelsModel" "point" "I", Cond.fieldLink RX7 185 "DesertChannelsModel" "begin" "I"]
def wsL_law_0_r28 : List Cond := [Cond.methodLink RX7 222 yX7_readTerm, Cond.instanceMethod yX7_readTerm, Cond.selects RX7 yX7_readTerm yX7_readTerm, Cond.code yX7_readTerm cX7_readTerm 1 (some .boolean), Cond.methodLink RX7 200 yX7_word, Cond.instanceMethod yX7_word, Cond.selects RX7 yX7_word yX7_word, Cond.code yX7_word cX7_word 1 none, Cond.methodLink RX7 197 yX7_blanks, Cond.instanceMethod yX7_blanks, Cond.selects RX7 yX7_blanks yX7_blanks, Cond.code yX7_blanks cX7_blanks 1 none, Cond.methodLink RX7 182 yX7_isAt, Cond.instanceMethod yX7_isAt, Cond.selects RX7 yX7_isAt yX7_isAt, Cond.code yX7_isAt cX7_isAt 3 (some .boolean), Cond.methodLink RX7 205 yX7_isWord, Cond.instanceMethod yX7_isWord, Cond.selects RX7 yX7_isWord yX7_isWord, Cond.code yX7_isWord cX7_isWord 4 (some .boolean), Cond.methodLink RX7 188 yJ0_length_8abf5, Cond.methodLink RX7 193 yJ0_charAt_5068e, Cond.methodLink RX7 209 yX7_number, Cond.instanceMethod yX7_number]
def wsL_law_0_r29 : List Cond := [Cond.selects RX7 yX7_number yX7_number, Cond.code yX7_number cX7_number 4 (some .boolean), Cond.methodLink RL 167 yX6_fault, Cond.instanceMethod yX6_fault, Cond.selects RX6 yX6_fault yX6_fault, Cond.code yX6_fault cX6_fault 1 (some .int), Cond.methodLink RL 170 yX7_fault, Cond.instanceMethod yX7_fault, Cond.selects RX7 yX7_fault yX7_fault, Cond.code yX7_fault cX7_fault 1 (some .int), Cond.methodLink RL 171 yL_says, Cond.static yL_says, Cond.codeWith yL_says cL_says 4 (some .int) [(0, 9, 12, 75)], Cond.methodLink RL 80 yX6_says, Cond.instanceMethod yX6_says, Cond.selects RX6 yX6_says yX6_says, Cond.code yX6_says cX6_says 2 (some .int), Cond.methodLink RL 173 yX7_says, Cond.instanceMethod yX7_says, Cond.selects RX7 yX7_says yX7_says, Cond.code yX7_says cX7_says 2 (some .int), Cond.methodLink RL 174 yL_pays, Cond.static yL_pays, Cond.codeWith yL_pays cL_pays 6 (some .int) [(0, 12, 15, 25), (0, 12, 19, 27), (0, 12, 23, 13)]]
def wsL_law_0_r30 : List Cond := [Cond.methodLink RL 83 yX6_pays, Cond.instanceMethod yX6_pays, Cond.selects RX6 yX6_pays yX6_pays, Cond.code yX6_pays cX6_pays 4 (some .int), Cond.constant RX6 266 (1000000), Cond.methodLink RX6 269 yX6_weighOwners, Cond.instanceMethod yX6_weighOwners, Cond.selects RX6 yX6_weighOwners yX6_weighOwners, Cond.code yX6_weighOwners cX6_weighOwners 5 none, Cond.methodLink RX6 272 yX6_partOf, Cond.methodLink RX6 276 yX6_paidBy, Cond.instanceMethod yX6_paidBy, Cond.selects RX6 yX6_paidBy yX6_paidBy, Cond.code yX6_paidBy cX6_paidBy 7 (some .int), Cond.methodLink RL 176 yX7_pays, Cond.instanceMethod yX7_pays, Cond.selects RX7 yX7_pays yX7_pays, Cond.code yX7_pays cX7_pays 11 (some .int), Cond.constant RX7 226 (1000000), Cond.constantLong RX7 227 (100), Cond.methodLink RX7 229 yX7_portion, Cond.instanceMethod yX7_portion, Cond.selects RX7 yX7_portion yX7_portion, Cond.code yX7_portion cX7_portion 6 (some .long)]
def wsL_law_0_r31 : List Cond := [Cond.methodLink RL 177 yL_field, Cond.static yL_field, Cond.codeWith yL_field cL_field 6 (some .int) [(0, 12, 15, 13)], Cond.methodLink RL 86 yX6_field, Cond.instanceMethod yX6_field, Cond.selects RX6 yX6_field yX6_field, Cond.code yX6_field cX6_field 4 (some .int), Cond.fieldLink RX6 281 "DesertChannels$Fields" "many" "I", Cond.methodLink RX6 284 yX1_addField, Cond.instanceMethod yX1_addField, Cond.selects RX1 yX1_addField yX1_addField, Cond.code yX1_addField cX1_addField 4 none, Cond.fieldLink RX1 24 "DesertChannels$Fields" "many" "I", Cond.methodLink RL 179 yX7_field, Cond.instanceMethod yX7_field, Cond.selects RX7 yX7_field yX7_field, Cond.code yX7_field cX7_field 4 (some .int), Cond.fieldLink RX7 233 "DesertChannelsModel" "fields" "I", Cond.methodLink RL 180 yX6_least, Cond.instanceMethod yX6_least, Cond.selects RX6 yX6_least yX6_least, Cond.code yX6_least cX6_least 2 (some .int), Cond.methodLink RX6 287 yX1_leastLoss, Cond.instanceMethod yX1_leastLoss]
def wsL_law_0_r32 : List Cond := [Cond.selects RX1 yX1_leastLoss yX1_leastLoss, Cond.code yX1_leastLoss cX1_leastLoss 6 (some .int), Cond.constant RX1 32 (1000000000), Cond.methodLink RX1 33 Lib.Math.max.name, Cond.methodLink RX1 39 Lib.Math.min.name, Cond.methodLink RX1 28 yX1_minutesOf, Cond.instanceMethod yX1_minutesOf, Cond.selects RX1 yX1_minutesOf yX1_minutesOf, Cond.code yX1_minutesOf cX1_minutesOf 4 (some .int), Cond.methodLink RL 183 yX7_least, Cond.instanceMethod yX7_least, Cond.selects RX7 yX7_least yX7_least, Cond.code yX7_least cX7_least 5 (some .int), Cond.constant RX7 238 (2147483647), Cond.methodLink RL 184 yX6_count, Cond.instanceMethod yX6_count, Cond.selects RX6 yX6_count yX6_count, Cond.code yX6_count cX6_count 2 (some .int), Cond.methodLink RX6 290 yX6_letShares, Cond.instanceMethod yX6_letShares, Cond.selects RX6 yX6_letShares yX6_letShares, Cond.code yX6_letShares cX6_letShares 3 (some .int), Cond.methodLink RX6 293 yX6_flowOfAll, Cond.instanceMethod yX6_flowOfAll]
def wsL_law_0_r33 : List Cond := [Cond.selects RX6 yX6_flowOfAll yX6_flowOfAll, Cond.code yX6_flowOfAll cX6_flowOfAll 3 (some .int), Cond.methodLink RL 187 yX7_count, Cond.instanceMethod yX7_count, Cond.selects RX7 yX7_count yX7_count, Cond.code yX7_count cX7_count 4 (some .int)]
def wsL_law_0 : List Cond := (wsL_law_0_r1 ++ (wsL_law_0_r2 ++ (wsL_law_0_r3 ++ (wsL_law_0_r4 ++ (wsL_law_0_r5 ++ (wsL_law_0_r6 ++ (wsL_law_0_r7 ++ (wsL_law_0_r8 ++ (wsL_law_0_r9 ++ (wsL_law_0_r10 ++ (wsL_law_0_r11 ++ (wsL_law_0_r12 ++ (wsL_law_0_r13 ++ (wsL_law_0_r14 ++ (wsL_law_0_r15 ++ (wsL_law_0_r16 ++ (wsL_law_0_r17 ++ (wsL_law_0_r18 ++ (wsL_law_0_r19 ++ (wsL_law_0_r20 ++ (wsL_law_0_r21 ++ (wsL_law_0_r22 ++ (wsL_law_0_r23 ++ (wsL_law_0_r24 ++ (wsL_law_0_r25 ++ (wsL_law_0_r26 ++ (wsL_law_0_r27 ++ (wsL_law_0_r28 ++ (wsL_law_0_r29 ++ (wsL_law_0_r30 ++ (wsL_law_0_r31 ++ (wsL_law_0_r32 ++ wsL_law_0_r33)))))))))))))))))))))))))))))))) ++ wsX60 ++ wsX70 ++ wsX30 ++ wsX00 ++ wsX40 ++ wsX20 ++ wsX10 ++ wsX50 ++ ([] : List Cond)
def wsL_law_ : List Cond := wsL_law_0 ++ (vx_atS RX6 83 "java/lang/IllegalArgumentException" ["java/lang/RuntimeException", "java/lang/Exception"]).filter goodWord ++ (vx_atS RX6 93 "java/lang/UnsupportedOperationException" ["java/lang/RuntimeException", "java/lang/Exception"]).filter goodWord ++ (vx_atS RX6 317 "java/lang/IllegalStateException" ["java/lang/RuntimeException", "java/lang/Exception"]).filter goodWord ++ (vx_atS RX6 308 "java/lang/IndexOutOfBoundsException" ["java/lang/RuntimeException", "java/lang/Exception"]).filter goodWord ++ (vx_atS RX6 245 "java/util/NoSuchElementException" ["java/lang/RuntimeException", "java/lang/Exception"]).filter goodWord
abbrev vwCl : List vw_C := [(RX0, TX0, 8), (RX1, TX1, 5), (RX2, TX2, 3), (RX3, TX3, 4), (RX4, TX4, 7), (RX5, TX5, 2), (RX6, TX6, 16), (RX7, TX7, 36)]
end
section
/-- the messages of the exceptions, by their places -/
def xstr : List (String × Nat × String) := [(RX6, 91, "there are 8 channels"), (RX6, 264, "the law has no such thing"), (RX6, 145, "years are none"), (RX6, 224, "minutes are none"), (RX6, 229, "the minute is below 0"), (RX6, 306, "there is no such channel"), (RX6, 322, "there is no such share"), (RX6, 315, "the channel is dug"), (RX6, 318, "the channel is not dug"), (RX6, 324, "the share is let"), (RX6, 320, "there is no such well"), (RX6, 81, "head or slope is none"), (RX6, 121, "owner or days are none"), (RX6, 267, "owner or costs are none"), (RX6, 279, "a number of the field is none"), (RX6, 253, "the text is wrong"), (RX6, 179, "owner or part is none"), (RX6, 102, "place or floor is none"), (RX6, 212, "the other one or the time is none"), (RX6, 107, "the channel has 20 wells"), (RX6, 198, "many, an owner or a part is none"), (RX6, 243, "a share has no such thing"), (RX6, 181, "more than 60 shares")]
def wTx : List String := ["distance", "depth", "free", "repair", "heads", "hours"]
def wLen : List Nat := [8, 5, 4, 6, 5, 5]
def wByt : List (List Int32) := [[100, 105, 115, 116, 97, 110, 99, 101], [100, 101, 112, 116, 104], [102, 114, 101, 101], [114, 101, 112, 97, 105, 114], [104, 101, 97, 100, 115], [104, 111, 117, 114, 115]]
def wX3 : List Nat := [48, 58, 60, 62, 67, 69]
def wX7 : List Nat := [203, 212, 214, 216, 218, 220]
/-! ===== the world of all methods, and the judgement Ev over it ===== -/
/-- what all methods share: the launch, the classes' numbers, where the new cells begin, the array classes, the words' places -/
abbrev Gx : Type := Launch × va_G × Nat × (Nat → ClassId) × (Nat → Nat) × (Nat → Nat)
/-- where a walk stands: program, env, room, start, method .. , what is owed at its end -/
abbrev Kx : Type := Program × Env × Room × State × MethodId × Array Value × List Frame × Method × Code × (State → Prop)
def gl (G : Gx) : Launch := G.1
def gD (G : Gx) : va_G := G.2.1
def gb (G : Gx) : Nat := G.2.2.1
def gc (G : Gx) : Nat → ClassId := G.2.2.2.1
def gk (G : Gx) : Nat → Nat := G.2.2.2.2.1
def gv (G : Gx) : Nat → Nat := G.2.2.2.2.2
def tyl (cy : Nat → ClassId) : List (ClassId × FieldType) := [(cy 0, .byte), (cy 1, .int), (cy 2, .boolean), (cy 3, .object "DesertChannels$Channel"), (cy 4, .object "DesertChannels$Share"), (cy 5, .long)]
def bA (base : Nat) : Nat → Prop := fun q => base ≤ q
/-- a slot's known value, by its place -/
def LH (ls : Array Slot) (nL : Nat) (lv : List (Option Value)) : Prop := ls.size = nL ∧ lv_wf ls ∧ ∀ (i : Nat) (v : Value), lv[i]? = some (some v) → ls[i]? = some (.val v)
def lps : Nat → List (Option Value) → List (Nat × Value)
  | _, [] => []
  | i, none :: t => lps (i + 1) t
  | i, some v :: t => (i, v) :: lps (i + 1) t
theorem mem_lps : ∀ (lv : List (Option Value)) (i j : Nat) (v : Value), (j, v) ∈ lps i lv ↔ ∃ k, j = i + k ∧ lv[k]? = some (some v) := by
  intro lv
  induction lv with
  | nil => intro i j v; simp [lps]
  | cons o t ih =>
    intro i j v
    cases o with
    | none =>
      rw [lps, ih]
      constructor
      · rintro ⟨k, h1, h2⟩; exact ⟨k + 1, by omega, by simpa using h2⟩
      · rintro ⟨k, h1, h2⟩
        cases k with
        | zero => simp at h2
        | succ k => exact ⟨k, by omega, by simpa using h2⟩
    | some w =>
      rw [lps, List.mem_cons, ih]
      constructor
      · rintro (h | ⟨k, h1, h2⟩)
        · obtain ⟨rfl, rfl⟩ := Prod.mk.inj h; exact ⟨0, by omega, by simp⟩
        · exact ⟨k + 1, by omega, by simpa using h2⟩
      · rintro ⟨k, h1, h2⟩
        cases k with
        | zero => left; simp at h2; subst h2; simp at h1; rw [h1]
        | succ k => right; exact ⟨k, by omega, by simpa using h2⟩
theorem LH.has {ls : Array Slot} {nL : Nat} {lv : List (Option Value)} (h : LH ls nL lv) : lv_has ls nL (lps 0 lv) := by
  refine ⟨h.1, h.2.1, fun q hq => ?_⟩
  obtain ⟨k, h1, h2⟩ := (mem_lps lv 0 q.1 q.2).mp hq
  have e : q.1 = k := by omega
  rw [e]; exact h.2.2 k q.2 h2
def lcat (lv : List (Option Value)) (j : Nat) : Nat := match lv[j]? with
  | some (some v) => v.category
  | _ => 0
def lclr (lv : List (Option Value)) : Nat → List (Option Value)
  | 0 => lv
  | j + 1 => if lcat lv j = 2 then lv.set j none else lv
def lset (lv : List (Option Value)) (i : Nat) (v : Value) : List (Option Value) := (lclr lv i).set i (some v)
def lsetL (lv : List (Option Value)) (i : Nat) (v : Value) : List (Option Value) := ((lclr lv i).set i (some v)).set (i + 1) none
theorem lclr_at {lv : List (Option Value)} {i j : Nat} {v : Value} (h : (lclr lv i)[j]? = some (some v)) : lv[j]? = some (some v) ∧ ¬ (j + 1 = i ∧ v.category = 2) := by
  cases i with
  | zero => exact ⟨h, by omega⟩
  | succ i =>
    change (if lcat lv i = 2 then lv.set i none else lv)[j]? = some (some v) at h
    by_cases hc : lcat lv i = 2
    · rw [if_pos hc, List.getElem?_set] at h
      by_cases e : i = j
      · rw [if_pos e] at h
        split at h <;> simp at h
      · rw [if_neg e] at h
        exact ⟨h, by omega⟩
    · rw [if_neg hc] at h
      refine ⟨h, fun ⟨e, hv⟩ => hc ?_⟩
      have e2 : j = i := by omega
      subst e2
      show (match lv[j]? with
        | some (some v) => v.category
        | _ => 0) = 2
      rw [h]; exact hv
theorem lset_at {lv : List (Option Value)} {i j : Nat} {x v : Value} (h : (lset lv i x)[j]? = some (some v)) : (j = i ∧ v = x) ∨ (j ≠ i ∧ lv[j]? = some (some v) ∧ ¬ (j + 1 = i ∧ v.category = 2)) := by
  unfold lset at h
  rw [List.getElem?_set] at h
  split at h
  · rename_i e
    split at h
    · left; simp at h; exact ⟨e.symm, h.symm⟩
    · simp at h
  · rename_i e
    right
    have := lclr_at h
    exact ⟨fun q => e q.symm, this.1, this.2⟩
theorem lsetL_at {lv : List (Option Value)} {i j : Nat} {x v : Value} (h : (lsetL lv i x)[j]? = some (some v)) : (j = i ∧ v = x) ∨ (j ≠ i ∧ j ≠ i + 1 ∧ lv[j]? = some (some v) ∧ ¬ (j + 1 = i ∧ v.category = 2)) := by
  unfold lsetL at h
  rw [List.getElem?_set] at h
  split at h
  · rename_i e
    split at h <;> simp at h
  · rename_i e
    rw [List.getElem?_set] at h
    split at h
    · rename_i e2
      split at h
      · left; simp at h; exact ⟨e2.symm, h.symm⟩
      · simp at h
    · rename_i e2
      right
      have := lclr_at h
      exact ⟨fun q => e2 q.symm, fun q => e q.symm, this.1, this.2⟩
theorem LH.put {ls : Array Slot} {nL i : Nat} {lv : List (Option Value)} {x : Value} (h : lv_has ls nL ((i, x) :: (lps 0 lv).filter (fun q => !(q.1 == i) && !(q.1 + 1 == i && q.2.category == 2)))) : LH ls nL (lset lv i x) := by
  refine ⟨h.1, h.2.1, fun j v hj => ?_⟩
  rcases lset_at hj with ⟨rfl, rfl⟩ | ⟨h1, h2, h3⟩
  · exact h.2.2 _ List.mem_cons_self
  · refine h.2.2 (j, v) (List.mem_cons_of_mem _ (List.mem_filter.mpr ⟨(mem_lps lv 0 j v).mpr ⟨j, by omega, h2⟩, ?_⟩))
    simp only [Bool.and_eq_true, Bool.not_eq_true', beq_eq_false_iff_ne, ne_eq, Bool.and_eq_false_iff]
    refine ⟨h1, ?_⟩
    by_cases e : j + 1 = i
    · right; intro hc; exact h3 ⟨e, hc⟩
    · left; exact e
theorem LH.putL {ls : Array Slot} {nL i : Nat} {lv : List (Option Value)} {x : Value} (h : lv_has ls nL ((i, x) :: (lps 0 lv).filter (fun q => !(q.1 == i) && (!(q.1 == i + 1) && !(q.1 + 1 == i && q.2.category == 2))))) : LH ls nL (lsetL lv i x) := by
  refine ⟨h.1, h.2.1, fun j v hj => ?_⟩
  rcases lsetL_at hj with ⟨rfl, rfl⟩ | ⟨h1, h1b, h2, h3⟩
  · exact h.2.2 _ List.mem_cons_self
  · refine h.2.2 (j, v) (List.mem_cons_of_mem _ (List.mem_filter.mpr ⟨(mem_lps lv 0 j v).mpr ⟨j, by omega, h2⟩, ?_⟩))
    simp only [Bool.and_eq_true, Bool.not_eq_true', beq_eq_false_iff_ne, ne_eq, Bool.and_eq_false_iff]
    refine ⟨h1, h1b, ?_⟩
    by_cases e : j + 1 = i
    · right; intro hc; exact h3 ⟨e, hc⟩
    · left; exact e
def xexc : List String := ["java/lang/IllegalArgumentException", "java/lang/IllegalStateException", "java/lang/IndexOutOfBoundsException", "java/lang/UnsupportedOperationException", "java/util/NoSuchElementException"]
def xnms : List String := ["java/lang/RuntimeException", "java/lang/Exception"]
def xdec : List MethodName := [Bundle.initS "java/lang/RuntimeException", Bundle.initS "java/lang/Exception", Bundle.initS Bundle.tN]
def xnst : List (String × Nat × MethodName) := [(RX6, 9, yX3_init), (RX6, 35, yX0_init), (RX6, 48, yX4_init), (RX6, 51, yX2_init), (RX6, 61, yX1_init), (RX2, 21, yX6_isWithin), (RX2, 25, yX6_isOwner), (RX2, 29, yX6_partOf), (RX3, 11, yX5_init), (RX3, 87, yX6_isWithin)]
/-- what lies outside our own cells and stays: Throwable's two statics; the texts; words of the tables that are no good ones -/
def Old (G : Gx) (U : State) (H : Heap) : Prop := vx_Zq Bundle.tN "UNASSIGNED_STACK" Bundle.steD (bA (gb G)) U H ∧ vx_Zq Bundle.tN "SUPPRESSED_SENTINEL" Bundle.listD (bA (gb G)) U H ∧ (∀ q ∈ xstr, ∃ a, vk_R q.1 q.2.1 q.2.2 a U) ∧
  vk_S 6 wLen wByt (gk G) (gv G) (bA (gb G)) U H ∧ (∀ i, i < 6 → vk_R RX3 (wX3.getD i 0) (wTx.getD i "") (gk G i) U ∧ vk_R RX7 (wX7.getD i 0) (wTx.getD i "") (gk G i) U) ∧
  (∀ E ∈ xexc, va_Nw (.castable E E) U) ∧ (∀ y ∈ xdec, va_Nw (.declares y) U) ∧ (∀ q ∈ xnst, va_Nw (.methodLinkNest q.1 q.2.1 q.2.2 RX6) U)
theorem Old.to {G : Gx} {s U : State} {H H' : Heap} (h : Old G s H) (hW : s.WarmedH U.vm) (hq : ∀ a : Nat, a < H.size → ¬ bA (gb G) a → H'[a]? = H[a]?) : Old G U H' :=
  ⟨(h.1.moved hW.alike).kept hq, (h.2.1.moved hW.alike).kept hq, fun q hq => by obtain ⟨a, ha⟩ := h.2.2.1 q hq; exact ⟨a, ha.warm hW⟩, (h.2.2.2.1.moved hW.alike).kept hq, fun i hi => ⟨(h.2.2.2.2.1 i hi).1.warm hW, (h.2.2.2.2.1 i hi).2.warm hW⟩,
   fun E hE => (h.2.2.2.2.2.1 E hE).warmC hW, fun y hy => (h.2.2.2.2.2.2.1 y hy).warmD hW, fun q hq => (h.2.2.2.2.2.2.2 q hq).warmM hW⟩
theorem Old.same {G : Gx} {u U : State} {H : Heap} (h : Old G u H) (hv : U.vm = u.vm) : Old G U H :=
  ⟨h.1.moved (by rw [hv]; exact Vm.Alike.refl _), h.2.1.moved (by rw [hv]; exact Vm.Alike.refl _), fun q hq => by obtain ⟨a, ha⟩ := h.2.2.1 q hq; exact ⟨a, ha.same hv⟩, h.2.2.2.1.moved (by rw [hv]; exact Vm.Alike.refl _), fun i hi => ⟨(h.2.2.2.2.1 i hi).1.same hv, (h.2.2.2.2.1 i hi).2.same hv⟩,
   fun E hE => va_Nw.same rfl hv.symm (h.2.2.2.2.2.1 E hE), fun y hy => va_Nw.same rfl hv.symm (h.2.2.2.2.2.2.1 y hy), fun q hq => va_Nw.same rfl hv.symm (h.2.2.2.2.2.2.2 q hq)⟩
/-- a state's heap holds the cells ws, all of them new, over the old things -/
def Wd (G : Gx) (ws : va_W) (U : State) : Prop := gb G ≤ U.heap.size ∧ va_P (gD G) vwCl ws U.heap ∧ va_K (gD G) vwCl (tyl (gc G)) U ∧ va_D (bA (gb G)) ws ∧ Old G U U.heap
theorem Wd.blind {G : Gx} {ws : va_W} {as : List Value} : FrameBlind (va_Pc as (Wd G ws)) := by
  intro a U g mk ⟨h0, h1, h2, h3, h4, h5⟩
  exact ⟨h0, h1, h2, va_K.moved (u := U) (U := U.calling g mk a) (Vm.Alike.refl U.vm) h3, h4, h5.same rfl⟩
def Cx (K : Kx) (G : Gx) (cc : ByteArray) (nL : Nat) (own : String) (ret : Option FieldType) (Ts : List Cond) (rm : Room) : Prop := match K with
  | (p, _, R, s, m, args, _, meth, c, _) => p.tables.exec = Jvm.exec ∧ c.code = cc ∧ c.maxLocals = nL ∧ s.vm.findClass own = some m.cls ∧ (∀ w ∈ Ts, w.before args s = true) ∧ meth.sig.returnType = ret ∧ meth.locks = false ∧ va_K (gD G) vwCl (tyl (gc G)) s ∧ gb G ≤ s.heap.size ∧ Old G s s.heap ∧ (∀ x ∈ c.exceptionTable.toList, False) ∧ R = rm ∧ (gl G).stackTraces = false
def Ev (K : Kx) (G : Gx) (nL cn sn pc : Nat) (lv : List (Option Value)) (st : List Value) (ws : va_W) : Prop := match K with
  | (p, e, R, s, m, args, below, meth, c, Q) => ∀ (H : Heap) (ls : Array Slot) (locs : List Loc), LH ls nL lv → va_P (gD G) vwCl ws H → va_D (bA (gb G)) ws → va_S (bA (gb G)) s.heap H locs → W p (gl G) e R s m args below meth c H locs cn sn Q (F0 m pc ls st)
/-- where an exception of class E comes out of a call at pc -/
def XEv (K : Kx) (G : Gx) (nL cn sn pc : Nat) (lv : List (Option Value)) (st : List Value) (E : String) (ws : va_W) : Prop := match K with
  | (p, e, R, s, m, args, below, meth, c, Q) => ∀ (H : Heap) (ls : Array Slot) (locs : List Loc) (q : Addr) (ce : Cell), LH ls nL lv → va_P (gD G) vwCl ws H → va_D (bA (gb G)) ws → va_S (bA (gb G)) s.heap H locs → H[q]? = some ce → ce.vm = .none → s.vm.findClass E = some ce.cls → vx_W p (gl G) e R s m args below meth c H locs cn sn Q (F0 m pc ls st) q
theorem lh_put1 {ls : Array Slot} {nL i : Nat} {lv : List (Option Value)} {x : Value} (h : lv_has ls nL ((i, x) :: (lps 0 lv).filter (fun q => !(q.1 == i) && !(q.1 + 1 == i && q.2.category == 2)))) : LH ls nL (lset lv i x) := LH.put h
section EV
variable {K : Kx} {G : Gx} {cc : ByteArray} {nL cn sn pc pc' : Nat} {own : String} {ret : Option FieldType} {Ts : List Cond} {rm : Room} {lv lv' : List (Option Value)} {st : List Value} {ws : va_W}
theorem e_iconst (C : Cx K G cc nL own ret Ts rm) {n : Int} {v : Int32} (hv : Int32.ofInt n = v) (d : decode cc pc = .ok (.iconst n, 1)) (hn : pc + 1 = pc') (k : Ev K G nL cn sn pc' lv (.int v :: st) ws) : Ev K G nL cn sn pc lv (st) ws := by
  obtain ⟨p, e, R, s, m, args, below, meth, c, Q⟩ := K
  intro H ls locs hl hP hD hS
  obtain ⟨hx, hb, hml, hown, hts, hr, hlk, hK, hbs, hO, hxt, hR, hst⟩ := C
  subst hn
  exact lv_iconst hx hb d hv (k H ls locs hl hP hD hS)
theorem e_bipush (C : Cx K G cc nL own ret Ts rm) {n : Int} {v : Int32} (hv : (Int8.ofInt n).toInt32 = v) (d : decode cc pc = .ok (.bipush n, 2)) (hn : pc + 2 = pc') (k : Ev K G nL cn sn pc' lv (.int v :: st) ws) : Ev K G nL cn sn pc lv (st) ws := by
  obtain ⟨p, e, R, s, m, args, below, meth, c, Q⟩ := K
  intro H ls locs hl hP hD hS
  obtain ⟨hx, hb, hml, hown, hts, hr, hlk, hK, hbs, hO, hxt, hR, hst⟩ := C
  subst hn
  exact lv_bipush hx hb d hv (k H ls locs hl hP hD hS)
theorem e_sipush (C : Cx K G cc nL own ret Ts rm) {n : Int} {v : Int32} (hv : (Int16.ofInt n).toInt32 = v) (d : decode cc pc = .ok (.sipush n, 3)) (hn : pc + 3 = pc') (k : Ev K G nL cn sn pc' lv (.int v :: st) ws) : Ev K G nL cn sn pc lv (st) ws := by
  obtain ⟨p, e, R, s, m, args, below, meth, c, Q⟩ := K
  intro H ls locs hl hP hD hS
  obtain ⟨hx, hb, hml, hown, hts, hr, hlk, hK, hbs, hO, hxt, hR, hst⟩ := C
  subst hn
  exact lv_sipush hx hb d hv (k H ls locs hl hP hD hS)
theorem e_lconst (C : Cx K G cc nL own ret Ts rm) {n : Fin 2} {v : Int64} (hv : Int64.ofNat (n : Nat) = v) (d : decode cc pc = .ok (.lconst n, 1)) (hn : pc + 1 = pc') (k : Ev K G nL cn sn pc' lv (.long v :: st) ws) : Ev K G nL cn sn pc lv (st) ws := by
  obtain ⟨p, e, R, s, m, args, below, meth, c, Q⟩ := K
  intro H ls locs hl hP hD hS
  obtain ⟨hx, hb, hml, hown, hts, hr, hlk, hK, hbs, hO, hxt, hR, hst⟩ := C
  subst hn
  exact lv_lconst hx hb d hv (k H ls locs hl hP hD hS)
theorem e_ldc (C : Cx K G cc nL own ret Ts rm) {ix : Nat} {v : Int32} (hw : Cond.constant own ix v ∈ Ts) (d : decode cc pc = .ok (.ldc ix, 2)) (hn : pc + 2 = pc') (k : Ev K G nL cn sn pc' lv (.int v :: st) ws) : Ev K G nL cn sn pc lv (st) ws := by
  obtain ⟨p, e, R, s, m, args, below, meth, c, Q⟩ := K
  intro H ls locs hl hP hD hS
  obtain ⟨hx, hb, hml, hown, hts, hr, hlk, hK, hbs, hO, hxt, hR, hst⟩ := C
  subst hn
  exact lv_ldc hx hb hown (hts _ hw) d (k H ls locs hl hP hD hS)
theorem e_ldcw (C : Cx K G cc nL own ret Ts rm) {ix : Nat} {v : Int32} (hw : Cond.constant own ix v ∈ Ts) (d : decode cc pc = .ok (.ldc_w ix, 3)) (hn : pc + 3 = pc') (k : Ev K G nL cn sn pc' lv (.int v :: st) ws) : Ev K G nL cn sn pc lv (st) ws := by
  obtain ⟨p, e, R, s, m, args, below, meth, c, Q⟩ := K
  intro H ls locs hl hP hD hS
  obtain ⟨hx, hb, hml, hown, hts, hr, hlk, hK, hbs, hO, hxt, hR, hst⟩ := C
  subst hn
  exact lv_ldcw hx hb hown (hts _ hw) d (k H ls locs hl hP hD hS)
theorem e_ldc2 (C : Cx K G cc nL own ret Ts rm) {ix : Nat} {v : Int64} (hw : Cond.constantLong own ix v ∈ Ts) (d : decode cc pc = .ok (.ldc2_w ix, 3)) (hn : pc + 3 = pc') (k : Ev K G nL cn sn pc' lv (.long v :: st) ws) : Ev K G nL cn sn pc lv (st) ws := by
  obtain ⟨p, e, R, s, m, args, below, meth, c, Q⟩ := K
  intro H ls locs hl hP hD hS
  obtain ⟨hx, hb, hml, hown, hts, hr, hlk, hK, hbs, hO, hxt, hR, hst⟩ := C
  subst hn
  exact lv_ldc2 hx hb hown (hts _ hw) d (k H ls locs hl hP hD hS)
theorem e_iload_n (C : Cx K G cc nL own ret Ts rm) {i : Fin 4} {x : Int32} (hv : lv[(i : Nat)]? = some (some (.int x))) (d : decode cc pc = .ok (.iload_n i, 1)) (hn : pc + 1 = pc') (k : Ev K G nL cn sn pc' lv (.int x :: st) ws) : Ev K G nL cn sn pc lv (st) ws := by
  obtain ⟨p, e, R, s, m, args, below, meth, c, Q⟩ := K
  intro H ls locs hl hP hD hS
  obtain ⟨hx, hb, hml, hown, hts, hr, hlk, hK, hbs, hO, hxt, hR, hst⟩ := C
  subst hn
  exact lv_iload_n hx hb d rfl (hl.2.2 _ _ hv) (k H ls locs hl hP hD hS)
theorem e_iload (C : Cx K G cc nL own ret Ts rm) {i : Nat} {x : Int32} (hv : lv[i]? = some (some (.int x))) (d : decode cc pc = .ok (.iload i, 2)) (hn : pc + 2 = pc') (k : Ev K G nL cn sn pc' lv (.int x :: st) ws) : Ev K G nL cn sn pc lv (st) ws := by
  obtain ⟨p, e, R, s, m, args, below, meth, c, Q⟩ := K
  intro H ls locs hl hP hD hS
  obtain ⟨hx, hb, hml, hown, hts, hr, hlk, hK, hbs, hO, hxt, hR, hst⟩ := C
  subst hn
  exact lv_iload hx hb d (hl.2.2 _ _ hv) (k H ls locs hl hP hD hS)
theorem e_aload_n (C : Cx K G cc nL own ret Ts rm) {i : Fin 4} {x : Nat} (hv : lv[(i : Nat)]? = some (some (.ref x))) (d : decode cc pc = .ok (.aload_n i, 1)) (hn : pc + 1 = pc') (k : Ev K G nL cn sn pc' lv (.ref x :: st) ws) : Ev K G nL cn sn pc lv (st) ws := by
  obtain ⟨p, e, R, s, m, args, below, meth, c, Q⟩ := K
  intro H ls locs hl hP hD hS
  obtain ⟨hx, hb, hml, hown, hts, hr, hlk, hK, hbs, hO, hxt, hR, hst⟩ := C
  subst hn
  exact lv_aload_n hx hb d rfl (hl.2.2 _ _ hv) (k H ls locs hl hP hD hS)
theorem e_aload (C : Cx K G cc nL own ret Ts rm) {i : Nat} {x : Nat} (hv : lv[i]? = some (some (.ref x))) (d : decode cc pc = .ok (.aload i, 2)) (hn : pc + 2 = pc') (k : Ev K G nL cn sn pc' lv (.ref x :: st) ws) : Ev K G nL cn sn pc lv (st) ws := by
  obtain ⟨p, e, R, s, m, args, below, meth, c, Q⟩ := K
  intro H ls locs hl hP hD hS
  obtain ⟨hx, hb, hml, hown, hts, hr, hlk, hK, hbs, hO, hxt, hR, hst⟩ := C
  subst hn
  exact lv_aload hx hb d (hl.2.2 _ _ hv) (k H ls locs hl hP hD hS)
theorem e_lload_n (C : Cx K G cc nL own ret Ts rm) {i : Fin 4} {x : Int64} (hv : lv[(i : Nat)]? = some (some (.long x))) (d : decode cc pc = .ok (.lload_n i, 1)) (hn : pc + 1 = pc') (k : Ev K G nL cn sn pc' lv (.long x :: st) ws) : Ev K G nL cn sn pc lv (st) ws := by
  obtain ⟨p, e, R, s, m, args, below, meth, c, Q⟩ := K
  intro H ls locs hl hP hD hS
  obtain ⟨hx, hb, hml, hown, hts, hr, hlk, hK, hbs, hO, hxt, hR, hst⟩ := C
  subst hn
  exact lv_lload_n hx hb d rfl (hl.2.2 _ _ hv) (k H ls locs hl hP hD hS)
theorem e_lload (C : Cx K G cc nL own ret Ts rm) {i : Nat} {x : Int64} (hv : lv[i]? = some (some (.long x))) (d : decode cc pc = .ok (.lload i, 2)) (hn : pc + 2 = pc') (k : Ev K G nL cn sn pc' lv (.long x :: st) ws) : Ev K G nL cn sn pc lv (st) ws := by
  obtain ⟨p, e, R, s, m, args, below, meth, c, Q⟩ := K
  intro H ls locs hl hP hD hS
  obtain ⟨hx, hb, hml, hown, hts, hr, hlk, hK, hbs, hO, hxt, hR, hst⟩ := C
  subst hn
  exact lv_lload hx hb d (hl.2.2 _ _ hv) (k H ls locs hl hP hD hS)
theorem e_istore_n (C : Cx K G cc nL own ret Ts rm) {i : Fin 4} {x : Int32} (hi : (i : Nat) < nL) (d : decode cc pc = .ok (.istore_n i, 1)) (hn : pc + 1 = pc') (hlv : lset lv (i : Nat) (.int x) = lv') (k : Ev K G nL cn sn pc' lv' st ws) : Ev K G nL cn sn pc lv (.int x :: st) ws := by
  obtain ⟨p, e, R, s, m, args, below, meth, c, Q⟩ := K
  intro H ls locs hl hP hD hS
  obtain ⟨hx, hb, hml, hown, hts, hr, hlk, hK, hbs, hO, hxt, hR, hst⟩ := C
  subst hn
  subst hlv
  exact lv_istore_n hx hb d rfl hl.has hi rfl (fun ls' h => k H ls' locs (LH.put h) hP hD hS)
theorem e_istore (C : Cx K G cc nL own ret Ts rm) {i : Nat} {x : Int32} (hi : i < nL) (d : decode cc pc = .ok (.istore i, 2)) (hn : pc + 2 = pc') (hlv : lset lv i (.int x) = lv') (k : Ev K G nL cn sn pc' lv' st ws) : Ev K G nL cn sn pc lv (.int x :: st) ws := by
  obtain ⟨p, e, R, s, m, args, below, meth, c, Q⟩ := K
  intro H ls locs hl hP hD hS
  obtain ⟨hx, hb, hml, hown, hts, hr, hlk, hK, hbs, hO, hxt, hR, hst⟩ := C
  subst hn
  subst hlv
  exact lv_istore hx hb d hl.has hi rfl (fun ls' h => k H ls' locs (LH.put h) hP hD hS)
theorem e_astore_n (C : Cx K G cc nL own ret Ts rm) {i : Fin 4} {x : Nat} (hi : (i : Nat) < nL) (d : decode cc pc = .ok (.astore_n i, 1)) (hn : pc + 1 = pc') (hlv : lset lv (i : Nat) (.ref x) = lv') (k : Ev K G nL cn sn pc' lv' st ws) : Ev K G nL cn sn pc lv (.ref x :: st) ws := by
  obtain ⟨p, e, R, s, m, args, below, meth, c, Q⟩ := K
  intro H ls locs hl hP hD hS
  obtain ⟨hx, hb, hml, hown, hts, hr, hlk, hK, hbs, hO, hxt, hR, hst⟩ := C
  subst hn
  subst hlv
  exact lv_astore_n hx hb d rfl hl.has hi rfl (fun ls' h => k H ls' locs (LH.put h) hP hD hS)
theorem e_astore (C : Cx K G cc nL own ret Ts rm) {i : Nat} {x : Nat} (hi : i < nL) (d : decode cc pc = .ok (.astore i, 2)) (hn : pc + 2 = pc') (hlv : lset lv i (.ref x) = lv') (k : Ev K G nL cn sn pc' lv' st ws) : Ev K G nL cn sn pc lv (.ref x :: st) ws := by
  obtain ⟨p, e, R, s, m, args, below, meth, c, Q⟩ := K
  intro H ls locs hl hP hD hS
  obtain ⟨hx, hb, hml, hown, hts, hr, hlk, hK, hbs, hO, hxt, hR, hst⟩ := C
  subst hn
  subst hlv
  exact lv_astore hx hb d hl.has hi rfl (fun ls' h => k H ls' locs (LH.put h) hP hD hS)
theorem e_lstore (C : Cx K G cc nL own ret Ts rm) {i : Nat} {x : Int64} (hi : i + 1 < nL) (d : decode cc pc = .ok (.lstore i, 2)) (hn : pc + 2 = pc') (hlv : lsetL lv i (.long x) = lv') (k : Ev K G nL cn sn pc' lv' st ws) : Ev K G nL cn sn pc lv (.long x :: st) ws := by
  obtain ⟨p, e, R, s, m, args, below, meth, c, Q⟩ := K
  intro H ls locs hl hP hD hS
  obtain ⟨hx, hb, hml, hown, hts, hr, hlk, hK, hbs, hO, hxt, hR, hst⟩ := C
  subst hn
  subst hlv
  exact lv_lstore hx hb d hl.has hi rfl (fun ls' h => k H ls' locs (LH.putL h) hP hD hS)
theorem e_iinc (C : Cx K G cc nL own ret Ts rm) {i : Nat} {n : Int} {x v : Int32} (d : decode cc pc = .ok (.iinc i n, 3)) (hv : lv[i]? = some (some (.int x))) (he : x + Int32.ofInt n = v) (hi : i < nL) (hn : pc + 3 = pc') (hlv : lset lv i (.int v) = lv') (k : Ev K G nL cn sn pc' lv' st ws) : Ev K G nL cn sn pc lv st ws := by
  obtain ⟨p, e, R, s, m, args, below, meth, c, Q⟩ := K
  intro H ls locs hl hP hD hS
  obtain ⟨hx, hb, hml, hown, hts, hr, hlk, hK, hbs, hO, hxt, hR, hst⟩ := C
  subst hn
  subst hlv
  obtain ⟨k9, hk9⟩ := List.getElem?_of_mem ((mem_lps lv 0 i (.int x)).mpr ⟨i, by omega, hv⟩)
  exact lv_iinc hx hb d hl.has hk9 he hi rfl (fun ls' h => k H ls' locs (LH.put h) hP hD hS)
theorem e_dup (C : Cx K G cc nL own ret Ts rm) {va : Value} (h1 : va.category = 1) (d : decode cc pc = .ok (.dup, 1)) (hn : pc + 1 = pc') (k : Ev K G nL cn sn pc' lv (va :: va :: st) ws) : Ev K G nL cn sn pc lv (va :: st) ws := by
  obtain ⟨p, e, R, s, m, args, below, meth, c, Q⟩ := K
  intro H ls locs hl hP hD hS
  obtain ⟨hx, hb, hml, hown, hts, hr, hlk, hK, hbs, hO, hxt, hR, hst⟩ := C
  subst hn
  exact lv_dup hx hb d h1 (k H ls locs hl hP hD hS)
theorem e_dup2 (C : Cx K G cc nL own ret Ts rm) {va vb : Value} (h1 : va.category = 1) (h2 : vb.category = 1) (d : decode cc pc = .ok (.dup2, 1)) (hn : pc + 1 = pc') (k : Ev K G nL cn sn pc' lv (va :: vb :: va :: vb :: st) ws) : Ev K G nL cn sn pc lv (va :: vb :: st) ws := by
  obtain ⟨p, e, R, s, m, args, below, meth, c, Q⟩ := K
  intro H ls locs hl hP hD hS
  obtain ⟨hx, hb, hml, hown, hts, hr, hlk, hK, hbs, hO, hxt, hR, hst⟩ := C
  subst hn
  exact lv_dup2_11 hx hb d h1 h2 (k H ls locs hl hP hD hS)
theorem e_pop (C : Cx K G cc nL own ret Ts rm) {va : Value} (h1 : va.category = 1) (d : decode cc pc = .ok (.pop, 1)) (hn : pc + 1 = pc') (k : Ev K G nL cn sn pc' lv (st) ws) : Ev K G nL cn sn pc lv (va :: st) ws := by
  obtain ⟨p, e, R, s, m, args, below, meth, c, Q⟩ := K
  intro H ls locs hl hP hD hS
  obtain ⟨hx, hb, hml, hown, hts, hr, hlk, hK, hbs, hO, hxt, hR, hst⟩ := C
  subst hn
  exact lv_pop hx hb d h1 (k H ls locs hl hP hD hS)
theorem e_iadd (C : Cx K G cc nL own ret Ts rm) {x y : Int32} (d : decode cc pc = .ok (.iadd, 1)) (hn : pc + 1 = pc') (k : Ev K G nL cn sn pc' lv (.int (x + y) :: st) ws) : Ev K G nL cn sn pc lv (.int y :: .int x :: st) ws := by
  obtain ⟨p, e, R, s, m, args, below, meth, c, Q⟩ := K
  intro H ls locs hl hP hD hS
  obtain ⟨hx, hb, hml, hown, hts, hr, hlk, hK, hbs, hO, hxt, hR, hst⟩ := C
  subst hn
  exact lv_iadd hx hb d (k H ls locs hl hP hD hS)
theorem e_isub (C : Cx K G cc nL own ret Ts rm) {x y : Int32} (d : decode cc pc = .ok (.isub, 1)) (hn : pc + 1 = pc') (k : Ev K G nL cn sn pc' lv (.int (x - y) :: st) ws) : Ev K G nL cn sn pc lv (.int y :: .int x :: st) ws := by
  obtain ⟨p, e, R, s, m, args, below, meth, c, Q⟩ := K
  intro H ls locs hl hP hD hS
  obtain ⟨hx, hb, hml, hown, hts, hr, hlk, hK, hbs, hO, hxt, hR, hst⟩ := C
  subst hn
  exact lv_isub hx hb d (k H ls locs hl hP hD hS)
theorem e_imul (C : Cx K G cc nL own ret Ts rm) {x y : Int32} (d : decode cc pc = .ok (.imul, 1)) (hn : pc + 1 = pc') (k : Ev K G nL cn sn pc' lv (.int (x * y) :: st) ws) : Ev K G nL cn sn pc lv (.int y :: .int x :: st) ws := by
  obtain ⟨p, e, R, s, m, args, below, meth, c, Q⟩ := K
  intro H ls locs hl hP hD hS
  obtain ⟨hx, hb, hml, hown, hts, hr, hlk, hK, hbs, hO, hxt, hR, hst⟩ := C
  subst hn
  exact lv_imul hx hb d (k H ls locs hl hP hD hS)
theorem e_iand (C : Cx K G cc nL own ret Ts rm) {x y : Int32} (d : decode cc pc = .ok (.iand, 1)) (hn : pc + 1 = pc') (k : Ev K G nL cn sn pc' lv (.int (x &&& y) :: st) ws) : Ev K G nL cn sn pc lv (.int y :: .int x :: st) ws := by
  obtain ⟨p, e, R, s, m, args, below, meth, c, Q⟩ := K
  intro H ls locs hl hP hD hS
  obtain ⟨hx, hb, hml, hown, hts, hr, hlk, hK, hbs, hO, hxt, hR, hst⟩ := C
  subst hn
  exact lv_iand hx hb d (k H ls locs hl hP hD hS)
theorem e_ior (C : Cx K G cc nL own ret Ts rm) {x y : Int32} (d : decode cc pc = .ok (.ior, 1)) (hn : pc + 1 = pc') (k : Ev K G nL cn sn pc' lv (.int (x ||| y) :: st) ws) : Ev K G nL cn sn pc lv (.int y :: .int x :: st) ws := by
  obtain ⟨p, e, R, s, m, args, below, meth, c, Q⟩ := K
  intro H ls locs hl hP hD hS
  obtain ⟨hx, hb, hml, hown, hts, hr, hlk, hK, hbs, hO, hxt, hR, hst⟩ := C
  subst hn
  exact lv_ior hx hb d (k H ls locs hl hP hD hS)
theorem e_ixor (C : Cx K G cc nL own ret Ts rm) {x y : Int32} (d : decode cc pc = .ok (.ixor, 1)) (hn : pc + 1 = pc') (k : Ev K G nL cn sn pc' lv (.int (x ^^^ y) :: st) ws) : Ev K G nL cn sn pc lv (.int y :: .int x :: st) ws := by
  obtain ⟨p, e, R, s, m, args, below, meth, c, Q⟩ := K
  intro H ls locs hl hP hD hS
  obtain ⟨hx, hb, hml, hown, hts, hr, hlk, hK, hbs, hO, hxt, hR, hst⟩ := C
  subst hn
  exact lv_ixor hx hb d (k H ls locs hl hP hD hS)
theorem e_ishl (C : Cx K G cc nL own ret Ts rm) {x y : Int32} (d : decode cc pc = .ok (.ishl, 1)) (hn : pc + 1 = pc') (k : Ev K G nL cn sn pc' lv (.int (x <<< (y &&& 31)) :: st) ws) : Ev K G nL cn sn pc lv (.int y :: .int x :: st) ws := by
  obtain ⟨p, e, R, s, m, args, below, meth, c, Q⟩ := K
  intro H ls locs hl hP hD hS
  obtain ⟨hx, hb, hml, hown, hts, hr, hlk, hK, hbs, hO, hxt, hR, hst⟩ := C
  subst hn
  exact lv_ishl hx hb d (k H ls locs hl hP hD hS)
theorem e_ishr (C : Cx K G cc nL own ret Ts rm) {x y : Int32} (d : decode cc pc = .ok (.ishr, 1)) (hn : pc + 1 = pc') (k : Ev K G nL cn sn pc' lv (.int (x >>> (y &&& 31)) :: st) ws) : Ev K G nL cn sn pc lv (.int y :: .int x :: st) ws := by
  obtain ⟨p, e, R, s, m, args, below, meth, c, Q⟩ := K
  intro H ls locs hl hP hD hS
  obtain ⟨hx, hb, hml, hown, hts, hr, hlk, hK, hbs, hO, hxt, hR, hst⟩ := C
  subst hn
  exact lv_ishr hx hb d (k H ls locs hl hP hD hS)
theorem e_iushr (C : Cx K G cc nL own ret Ts rm) {x y : Int32} (d : decode cc pc = .ok (.iushr, 1)) (hn : pc + 1 = pc') (k : Ev K G nL cn sn pc' lv (.int (x.toUInt32 >>> (y.toUInt32 &&& Int32.toUInt32 31)).toInt32 :: st) ws) : Ev K G nL cn sn pc lv (.int y :: .int x :: st) ws := by
  obtain ⟨p, e, R, s, m, args, below, meth, c, Q⟩ := K
  intro H ls locs hl hP hD hS
  obtain ⟨hx, hb, hml, hown, hts, hr, hlk, hK, hbs, hO, hxt, hR, hst⟩ := C
  subst hn
  exact lv_iushr hx hb d rfl (k H ls locs hl hP hD hS)
theorem e_ineg (C : Cx K G cc nL own ret Ts rm) {x : Int32} (d : decode cc pc = .ok (.ineg, 1)) (hn : pc + 1 = pc') (k : Ev K G nL cn sn pc' lv (.int (-x) :: st) ws) : Ev K G nL cn sn pc lv (.int x :: st) ws := by
  obtain ⟨p, e, R, s, m, args, below, meth, c, Q⟩ := K
  intro H ls locs hl hP hD hS
  obtain ⟨hx, hb, hml, hown, hts, hr, hlk, hK, hbs, hO, hxt, hR, hst⟩ := C
  subst hn
  exact lv_ineg hx hb d (k H ls locs hl hP hD hS)
theorem e_idiv (C : Cx K G cc nL own ret Ts rm) {x y : Int32} (hz : ¬ y = 0) (d : decode cc pc = .ok (.idiv, 1)) (hn : pc + 1 = pc') (k : Ev K G nL cn sn pc' lv (.int (x / y) :: st) ws) : Ev K G nL cn sn pc lv (.int y :: .int x :: st) ws := by
  obtain ⟨p, e, R, s, m, args, below, meth, c, Q⟩ := K
  intro H ls locs hl hP hD hS
  obtain ⟨hx, hb, hml, hown, hts, hr, hlk, hK, hbs, hO, hxt, hR, hst⟩ := C
  subst hn
  exact lv_idiv hx hb d hz (k H ls locs hl hP hD hS)
theorem e_irem (C : Cx K G cc nL own ret Ts rm) {x y : Int32} (hz : ¬ y = 0) (d : decode cc pc = .ok (.irem, 1)) (hn : pc + 1 = pc') (k : Ev K G nL cn sn pc' lv (.int (x - x / y * y) :: st) ws) : Ev K G nL cn sn pc lv (.int y :: .int x :: st) ws := by
  obtain ⟨p, e, R, s, m, args, below, meth, c, Q⟩ := K
  intro H ls locs hl hP hD hS
  obtain ⟨hx, hb, hml, hown, hts, hr, hlk, hK, hbs, hO, hxt, hR, hst⟩ := C
  subst hn
  exact lv_irem hx hb d hz (k H ls locs hl hP hD hS)
theorem e_i2l (C : Cx K G cc nL own ret Ts rm) {x : Int32} (d : decode cc pc = .ok (.i2l, 1)) (hn : pc + 1 = pc') (k : Ev K G nL cn sn pc' lv (.long x.toInt64 :: st) ws) : Ev K G nL cn sn pc lv (.int x :: st) ws := by
  obtain ⟨p, e, R, s, m, args, below, meth, c, Q⟩ := K
  intro H ls locs hl hP hD hS
  obtain ⟨hx, hb, hml, hown, hts, hr, hlk, hK, hbs, hO, hxt, hR, hst⟩ := C
  subst hn
  exact lv_i2l hx hb d rfl (k H ls locs hl hP hD hS)
theorem e_l2i (C : Cx K G cc nL own ret Ts rm) {x : Int64} (d : decode cc pc = .ok (.l2i, 1)) (hn : pc + 1 = pc') (k : Ev K G nL cn sn pc' lv (.int x.toInt32 :: st) ws) : Ev K G nL cn sn pc lv (.long x :: st) ws := by
  obtain ⟨p, e, R, s, m, args, below, meth, c, Q⟩ := K
  intro H ls locs hl hP hD hS
  obtain ⟨hx, hb, hml, hown, hts, hr, hlk, hK, hbs, hO, hxt, hR, hst⟩ := C
  subst hn
  exact lv_l2i hx hb d rfl (k H ls locs hl hP hD hS)
theorem e_i2b (C : Cx K G cc nL own ret Ts rm) {x : Int32} (d : decode cc pc = .ok (.i2b, 1)) (hn : pc + 1 = pc') (k : Ev K G nL cn sn pc' lv (.int x.toInt8.toInt32 :: st) ws) : Ev K G nL cn sn pc lv (.int x :: st) ws := by
  obtain ⟨p, e, R, s, m, args, below, meth, c, Q⟩ := K
  intro H ls locs hl hP hD hS
  obtain ⟨hx, hb, hml, hown, hts, hr, hlk, hK, hbs, hO, hxt, hR, hst⟩ := C
  subst hn
  exact lv_i2b hx hb d rfl (k H ls locs hl hP hD hS)
theorem e_ladd (C : Cx K G cc nL own ret Ts rm) {x y : Int64} (d : decode cc pc = .ok (.ladd, 1)) (hn : pc + 1 = pc') (k : Ev K G nL cn sn pc' lv (.long (x + y) :: st) ws) : Ev K G nL cn sn pc lv (.long y :: .long x :: st) ws := by
  obtain ⟨p, e, R, s, m, args, below, meth, c, Q⟩ := K
  intro H ls locs hl hP hD hS
  obtain ⟨hx, hb, hml, hown, hts, hr, hlk, hK, hbs, hO, hxt, hR, hst⟩ := C
  subst hn
  exact lv_ladd hx hb d (k H ls locs hl hP hD hS)
theorem e_lsub (C : Cx K G cc nL own ret Ts rm) {x y : Int64} (d : decode cc pc = .ok (.lsub, 1)) (hn : pc + 1 = pc') (k : Ev K G nL cn sn pc' lv (.long (x - y) :: st) ws) : Ev K G nL cn sn pc lv (.long y :: .long x :: st) ws := by
  obtain ⟨p, e, R, s, m, args, below, meth, c, Q⟩ := K
  intro H ls locs hl hP hD hS
  obtain ⟨hx, hb, hml, hown, hts, hr, hlk, hK, hbs, hO, hxt, hR, hst⟩ := C
  subst hn
  exact lv_lsub hx hb d (k H ls locs hl hP hD hS)
theorem e_lmul (C : Cx K G cc nL own ret Ts rm) {x y : Int64} (d : decode cc pc = .ok (.lmul, 1)) (hn : pc + 1 = pc') (k : Ev K G nL cn sn pc' lv (.long (x * y) :: st) ws) : Ev K G nL cn sn pc lv (.long y :: .long x :: st) ws := by
  obtain ⟨p, e, R, s, m, args, below, meth, c, Q⟩ := K
  intro H ls locs hl hP hD hS
  obtain ⟨hx, hb, hml, hown, hts, hr, hlk, hK, hbs, hO, hxt, hR, hst⟩ := C
  subst hn
  exact lv_lmul hx hb d (k H ls locs hl hP hD hS)
theorem e_ldiv (C : Cx K G cc nL own ret Ts rm) {x y : Int64} (hz : ¬ y = 0) (d : decode cc pc = .ok (.ldiv, 1)) (hn : pc + 1 = pc') (k : Ev K G nL cn sn pc' lv (.long (x / y) :: st) ws) : Ev K G nL cn sn pc lv (.long y :: .long x :: st) ws := by
  obtain ⟨p, e, R, s, m, args, below, meth, c, Q⟩ := K
  intro H ls locs hl hP hD hS
  obtain ⟨hx, hb, hml, hown, hts, hr, hlk, hK, hbs, hO, hxt, hR, hst⟩ := C
  subst hn
  exact lv_ldiv hx hb d hz (k H ls locs hl hP hD hS)
theorem e_lcmp (C : Cx K G cc nL own ret Ts rm) {x y : Int64} (d : decode cc pc = .ok (.lcmp, 1)) (hn : pc + 1 = pc') (k : Ev K G nL cn sn pc' lv (.int (lg_cmp x y) :: st) ws) : Ev K G nL cn sn pc lv (.long y :: .long x :: st) ws := by
  obtain ⟨p, e, R, s, m, args, below, meth, c, Q⟩ := K
  intro H ls locs hl hP hD hS
  obtain ⟨hx, hb, hml, hown, hts, hr, hlk, hK, hbs, hO, hxt, hR, hst⟩ := C
  subst hn
  exact W.lcmp hx hb d (k H ls locs hl hP hD hS)
theorem e_if_eq (C : Cx K G cc nL own ret Ts rm) {x : Int32} {off : Int} {tg : Nat} (d : decode cc pc = .ok (.ifCond .eq off, 3)) (ht : (pc : Int) + off = (tg : Int)) (hn : pc + 3 = pc') (k1 : x = 0 → Ev K G nL cn sn tg lv st ws) (k2 : ¬ x = 0 → Ev K G nL cn sn pc' lv st ws) : Ev K G nL cn sn pc lv (.int x :: st) ws := by
  obtain ⟨p, e, R, s, m, args, below, meth, c, Q⟩ := K
  intro H ls locs hl hP hD hS
  obtain ⟨hx, hb, hml, hown, hts, hr, hlk, hK, hbs, hO, hxt, hR, hst⟩ := C
  subst hn
  exact lv_if_eq hx hb d ht (fun h => k1 h H ls locs hl hP hD hS) (fun h => k2 h H ls locs hl hP hD hS)
theorem e_if_ne (C : Cx K G cc nL own ret Ts rm) {x : Int32} {off : Int} {tg : Nat} (d : decode cc pc = .ok (.ifCond .ne off, 3)) (ht : (pc : Int) + off = (tg : Int)) (hn : pc + 3 = pc') (k1 : ¬ x = 0 → Ev K G nL cn sn tg lv st ws) (k2 : x = 0 → Ev K G nL cn sn pc' lv st ws) : Ev K G nL cn sn pc lv (.int x :: st) ws := by
  obtain ⟨p, e, R, s, m, args, below, meth, c, Q⟩ := K
  intro H ls locs hl hP hD hS
  obtain ⟨hx, hb, hml, hown, hts, hr, hlk, hK, hbs, hO, hxt, hR, hst⟩ := C
  subst hn
  exact lv_if_ne hx hb d ht (fun h => k1 h H ls locs hl hP hD hS) (fun h => k2 h H ls locs hl hP hD hS)
theorem e_if_lt (C : Cx K G cc nL own ret Ts rm) {x : Int32} {off : Int} {tg : Nat} (d : decode cc pc = .ok (.ifCond .lt off, 3)) (ht : (pc : Int) + off = (tg : Int)) (hn : pc + 3 = pc') (k1 : x < 0 → Ev K G nL cn sn tg lv st ws) (k2 : ¬ x < 0 → Ev K G nL cn sn pc' lv st ws) : Ev K G nL cn sn pc lv (.int x :: st) ws := by
  obtain ⟨p, e, R, s, m, args, below, meth, c, Q⟩ := K
  intro H ls locs hl hP hD hS
  obtain ⟨hx, hb, hml, hown, hts, hr, hlk, hK, hbs, hO, hxt, hR, hst⟩ := C
  subst hn
  exact lv_if_lt hx hb d ht (fun h => k1 h H ls locs hl hP hD hS) (fun h => k2 h H ls locs hl hP hD hS)
theorem e_if_ge (C : Cx K G cc nL own ret Ts rm) {x : Int32} {off : Int} {tg : Nat} (d : decode cc pc = .ok (.ifCond .ge off, 3)) (ht : (pc : Int) + off = (tg : Int)) (hn : pc + 3 = pc') (k1 : 0 ≤ x → Ev K G nL cn sn tg lv st ws) (k2 : ¬ 0 ≤ x → Ev K G nL cn sn pc' lv st ws) : Ev K G nL cn sn pc lv (.int x :: st) ws := by
  obtain ⟨p, e, R, s, m, args, below, meth, c, Q⟩ := K
  intro H ls locs hl hP hD hS
  obtain ⟨hx, hb, hml, hown, hts, hr, hlk, hK, hbs, hO, hxt, hR, hst⟩ := C
  subst hn
  exact lv_if_ge hx hb d ht (fun h => k1 h H ls locs hl hP hD hS) (fun h => k2 h H ls locs hl hP hD hS)
theorem e_if_gt (C : Cx K G cc nL own ret Ts rm) {x : Int32} {off : Int} {tg : Nat} (d : decode cc pc = .ok (.ifCond .gt off, 3)) (ht : (pc : Int) + off = (tg : Int)) (hn : pc + 3 = pc') (k1 : 0 < x → Ev K G nL cn sn tg lv st ws) (k2 : ¬ 0 < x → Ev K G nL cn sn pc' lv st ws) : Ev K G nL cn sn pc lv (.int x :: st) ws := by
  obtain ⟨p, e, R, s, m, args, below, meth, c, Q⟩ := K
  intro H ls locs hl hP hD hS
  obtain ⟨hx, hb, hml, hown, hts, hr, hlk, hK, hbs, hO, hxt, hR, hst⟩ := C
  subst hn
  exact lv_if_gt hx hb d ht (fun h => k1 h H ls locs hl hP hD hS) (fun h => k2 h H ls locs hl hP hD hS)
theorem e_if_le (C : Cx K G cc nL own ret Ts rm) {x : Int32} {off : Int} {tg : Nat} (d : decode cc pc = .ok (.ifCond .le off, 3)) (ht : (pc : Int) + off = (tg : Int)) (hn : pc + 3 = pc') (k1 : x ≤ 0 → Ev K G nL cn sn tg lv st ws) (k2 : ¬ x ≤ 0 → Ev K G nL cn sn pc' lv st ws) : Ev K G nL cn sn pc lv (.int x :: st) ws := by
  obtain ⟨p, e, R, s, m, args, below, meth, c, Q⟩ := K
  intro H ls locs hl hP hD hS
  obtain ⟨hx, hb, hml, hown, hts, hr, hlk, hK, hbs, hO, hxt, hR, hst⟩ := C
  subst hn
  exact lv_if_le hx hb d ht (fun h => k1 h H ls locs hl hP hD hS) (fun h => k2 h H ls locs hl hP hD hS)
theorem e_icmp_eq (C : Cx K G cc nL own ret Ts rm) {x y : Int32} {off : Int} {tg : Nat} (d : decode cc pc = .ok (.if_icmp .eq off, 3)) (ht : (pc : Int) + off = (tg : Int)) (hn : pc + 3 = pc') (k1 : x = y → Ev K G nL cn sn tg lv st ws) (k2 : ¬ x = y → Ev K G nL cn sn pc' lv st ws) : Ev K G nL cn sn pc lv (.int y :: .int x :: st) ws := by
  obtain ⟨p, e, R, s, m, args, below, meth, c, Q⟩ := K
  intro H ls locs hl hP hD hS
  obtain ⟨hx, hb, hml, hown, hts, hr, hlk, hK, hbs, hO, hxt, hR, hst⟩ := C
  subst hn
  exact lv_icmp_eq hx hb d ht (fun h => k1 h H ls locs hl hP hD hS) (fun h => k2 h H ls locs hl hP hD hS)
theorem e_icmp_ne (C : Cx K G cc nL own ret Ts rm) {x y : Int32} {off : Int} {tg : Nat} (d : decode cc pc = .ok (.if_icmp .ne off, 3)) (ht : (pc : Int) + off = (tg : Int)) (hn : pc + 3 = pc') (k1 : ¬ x = y → Ev K G nL cn sn tg lv st ws) (k2 : x = y → Ev K G nL cn sn pc' lv st ws) : Ev K G nL cn sn pc lv (.int y :: .int x :: st) ws := by
  obtain ⟨p, e, R, s, m, args, below, meth, c, Q⟩ := K
  intro H ls locs hl hP hD hS
  obtain ⟨hx, hb, hml, hown, hts, hr, hlk, hK, hbs, hO, hxt, hR, hst⟩ := C
  subst hn
  exact lv_icmp_ne hx hb d ht (fun h => k1 h H ls locs hl hP hD hS) (fun h => k2 h H ls locs hl hP hD hS)
theorem e_icmp_lt (C : Cx K G cc nL own ret Ts rm) {x y : Int32} {off : Int} {tg : Nat} (d : decode cc pc = .ok (.if_icmp .lt off, 3)) (ht : (pc : Int) + off = (tg : Int)) (hn : pc + 3 = pc') (k1 : x < y → Ev K G nL cn sn tg lv st ws) (k2 : ¬ x < y → Ev K G nL cn sn pc' lv st ws) : Ev K G nL cn sn pc lv (.int y :: .int x :: st) ws := by
  obtain ⟨p, e, R, s, m, args, below, meth, c, Q⟩ := K
  intro H ls locs hl hP hD hS
  obtain ⟨hx, hb, hml, hown, hts, hr, hlk, hK, hbs, hO, hxt, hR, hst⟩ := C
  subst hn
  exact lv_icmp_lt hx hb d ht (fun h => k1 h H ls locs hl hP hD hS) (fun h => k2 h H ls locs hl hP hD hS)
theorem e_icmp_ge (C : Cx K G cc nL own ret Ts rm) {x y : Int32} {off : Int} {tg : Nat} (d : decode cc pc = .ok (.if_icmp .ge off, 3)) (ht : (pc : Int) + off = (tg : Int)) (hn : pc + 3 = pc') (k1 : y ≤ x → Ev K G nL cn sn tg lv st ws) (k2 : ¬ y ≤ x → Ev K G nL cn sn pc' lv st ws) : Ev K G nL cn sn pc lv (.int y :: .int x :: st) ws := by
  obtain ⟨p, e, R, s, m, args, below, meth, c, Q⟩ := K
  intro H ls locs hl hP hD hS
  obtain ⟨hx, hb, hml, hown, hts, hr, hlk, hK, hbs, hO, hxt, hR, hst⟩ := C
  subst hn
  exact lv_icmp_ge hx hb d ht (fun h => k1 h H ls locs hl hP hD hS) (fun h => k2 h H ls locs hl hP hD hS)
theorem e_icmp_gt (C : Cx K G cc nL own ret Ts rm) {x y : Int32} {off : Int} {tg : Nat} (d : decode cc pc = .ok (.if_icmp .gt off, 3)) (ht : (pc : Int) + off = (tg : Int)) (hn : pc + 3 = pc') (k1 : y < x → Ev K G nL cn sn tg lv st ws) (k2 : ¬ y < x → Ev K G nL cn sn pc' lv st ws) : Ev K G nL cn sn pc lv (.int y :: .int x :: st) ws := by
  obtain ⟨p, e, R, s, m, args, below, meth, c, Q⟩ := K
  intro H ls locs hl hP hD hS
  obtain ⟨hx, hb, hml, hown, hts, hr, hlk, hK, hbs, hO, hxt, hR, hst⟩ := C
  subst hn
  exact lv_icmp_gt hx hb d ht (fun h => k1 h H ls locs hl hP hD hS) (fun h => k2 h H ls locs hl hP hD hS)
theorem e_icmp_le (C : Cx K G cc nL own ret Ts rm) {x y : Int32} {off : Int} {tg : Nat} (d : decode cc pc = .ok (.if_icmp .le off, 3)) (ht : (pc : Int) + off = (tg : Int)) (hn : pc + 3 = pc') (k1 : x ≤ y → Ev K G nL cn sn tg lv st ws) (k2 : ¬ x ≤ y → Ev K G nL cn sn pc' lv st ws) : Ev K G nL cn sn pc lv (.int y :: .int x :: st) ws := by
  obtain ⟨p, e, R, s, m, args, below, meth, c, Q⟩ := K
  intro H ls locs hl hP hD hS
  obtain ⟨hx, hb, hml, hown, hts, hr, hlk, hK, hbs, hO, hxt, hR, hst⟩ := C
  subst hn
  exact lv_icmp_le hx hb d ht (fun h => k1 h H ls locs hl hP hD hS) (fun h => k2 h H ls locs hl hP hD hS)
theorem e_acmp_eq (C : Cx K G cc nL own ret Ts rm) {x y : Nat} {off : Int} {tg : Nat} (d : decode cc pc = .ok (.if_acmp .eq off, 3)) (ht : (pc : Int) + off = (tg : Int)) (hn : pc + 3 = pc') (k1 : x = y → Ev K G nL cn sn tg lv st ws) (k2 : ¬ x = y → Ev K G nL cn sn pc' lv st ws) : Ev K G nL cn sn pc lv (.ref y :: .ref x :: st) ws := by
  obtain ⟨p, e, R, s, m, args, below, meth, c, Q⟩ := K
  intro H ls locs hl hP hD hS
  obtain ⟨hx, hb, hml, hown, hts, hr, hlk, hK, hbs, hO, hxt, hR, hst⟩ := C
  subst hn
  exact lv_acmp_eq (rx := some x) (ry := some y) hx hb d ht (fun h => k1 (Option.some.inj h) H ls locs hl hP hD hS) (fun h => k2 (fun q => h (congrArg some q)) H ls locs hl hP hD hS)
theorem e_goto (C : Cx K G cc nL own ret Ts rm) {off : Int} {tg : Nat} (d : decode cc pc = .ok (.goto off, 3)) (ht : (pc : Int) + off = (tg : Int)) (k : Ev K G nL cn sn tg lv st ws) : Ev K G nL cn sn pc lv st ws := by
  obtain ⟨p, e, R, s, m, args, below, meth, c, Q⟩ := K
  intro H ls locs hl hP hD hS
  obtain ⟨hx, hb, hml, hown, hts, hr, hlk, hK, hbs, hO, hxt, hR, hst⟩ := C
  exact lv_goto hx hb d ht (k H ls locs hl hP hD hS)
theorem e_tabIn (C : Cx K G cc nL own ret Ts rm) {dflt lo hi : Int} {offs : Array Int} {len : Nat} {x : Int32} {off : Int} {tg : Nat} (d : decode cc pc = .ok (.tableswitch dflt lo hi offs, len)) (h1 : ¬ x.toInt < lo) (h2 : ¬ hi < x.toInt) (ho : offs[(x.toInt - lo).toNat]? = some off) (ht : (pc : Int) + off = (tg : Int)) (k : Ev K G nL cn sn tg lv st ws) : Ev K G nL cn sn pc lv (.int x :: st) ws := by
  obtain ⟨p, e, R, s, m, args, below, meth, c, Q⟩ := K
  intro H ls locs hl hP hD hS
  obtain ⟨hx, hb, hml, hown, hts, hr, hlk, hK, hbs, hO, hxt, hR, hst⟩ := C
  exact lv_tableIn hx hb d h1 h2 ho ht (k H ls locs hl hP hD hS)
theorem e_tabOut (C : Cx K G cc nL own ret Ts rm) {dflt lo hi : Int} {offs : Array Int} {len : Nat} {x : Int32} {tg : Nat} (d : decode cc pc = .ok (.tableswitch dflt lo hi offs, len)) (h : x.toInt < lo ∨ hi < x.toInt) (ht : (pc : Int) + dflt = (tg : Int)) (k : Ev K G nL cn sn tg lv st ws) : Ev K G nL cn sn pc lv (.int x :: st) ws := by
  obtain ⟨p, e, R, s, m, args, below, meth, c, Q⟩ := K
  intro H ls locs hl hP hD hS
  obtain ⟨hx, hb, hml, hown, hts, hr, hlk, hK, hbs, hO, hxt, hR, hst⟩ := C
  exact lv_tableOut hx hb d h ht (k H ls locs hl hP hD hS)
/-- a field of an int, a field of a reference: read -/
def qI (ci j a : Nat) (ws : va_W) (T : Int32 → Prop) : Prop := ∃ (k : Nat) (fs : List Value) (v : Int32), ws[k]? = some (a, .inr (ci, fs)) ∧ fs[j]? = some (.int v) ∧ T v
def qR (ci j a : Nat) (ws : va_W) (T : Nat → Prop) : Prop := ∃ (k : Nat) (fs : List Value) (v : Nat), ws[k]? = some (a, .inr (ci, fs)) ∧ fs[j]? = some (.ref v) ∧ T v
/-- a field is written -/
def qP (ci j a : Nat) (v : Value) (ws : va_W) (T : va_W → Prop) : Prop := ∃ (k : Nat) (fs : List Value), ws[k]? = some (a, .inr (ci, fs)) ∧ j < fs.length ∧ T (ws.set k (a, .inr (ci, fs.set j v)))
/-- rows of numbers: read, written -/
def qA (cA : ClassId) (a : Nat) (i : Int32) (ws : va_W) (T : Int32 → Prop) : Prop := ∃ (k n : Nat) (f : Nat → Int32), ws[k]? = some (a, .inl (cA, n, .inl f)) ∧ vp_in i n ∧ T (f i.toNatClampNeg)
def qS (cA : ClassId) (a : Nat) (i x : Int32) (ws : va_W) (T : va_W → Prop) : Prop := ∃ (k n : Nat) (f : Nat → Int32), ws[k]? = some (a, .inl (cA, n, .inl f)) ∧ vp_in i n ∧ T (ws.set k (a, .inl (cA, n, .inl (upd f i.toNatClampNeg x))))
def qQ (cA : ClassId) (a : Nat) (i : Int32) (ws : va_W) (T : Nat → Prop) : Prop := ∃ (k n : Nat) (f : Nat → Option Nat) (v : Nat), ws[k]? = some (a, .inl (cA, n, .inr (.inr (.inr (.inr f))))) ∧ vp_in i n ∧ f i.toNatClampNeg = some v ∧ T v
/-- the thing that a method is called on is an object of the class -/
def qV (ci a : Nat) (ws : va_W) : Prop := ∃ (k : Nat) (fs : List Value), ws[k]? = some (a, .inr (ci, fs))
theorem e_getI (C : Cx K G cc nL own ret Ts rm) {a ci ix k : Nat} {fs : List Value} {v : Value} {CN ref : String} {T : u_T} {N : Nat} (j : Nat) (d : decode cc pc = .ok (.getfield ix, 3)) (hn : pc + 3 = pc') (hin : ∀ w ∈ u_ws CN T N, w ∈ Ts) (hc : vwCl[ci]? = some (CN, T, N)) (hj : j < N) (hlk : Cond.fieldLink own ix (T j).1 (T j).2.1 (T j).2.2.1 ∈ Ts)
    (hk : ws[k]? = some (a, .inr (ci, fs))) (hv : fs[j]? = some v) (kk : Ev K G nL cn sn pc' lv (v :: st) ws) : Ev K G nL cn sn pc lv (.ref a :: st) ws := by
  obtain ⟨p, e, R, s, m, args, below, meth, c, Q⟩ := K
  intro H ls locs hl hP hD hS
  obtain ⟨hx, hb, hml, hown, hts, hr, hlkk, hK, hbs, hO, hxt, hR, hst⟩ := C
  subst hn
  exact va_get (D := gD G) (ci := ci) (v := v) (C := CN) (T := T) (N := N) hx hb hts hin hown hK hP k hk hc j hj (hts _ hlk) (fun _ h9 => h9) hv d (kk H ls locs hl hP hD hS)
theorem e_put (C : Cx K G cc nL own ret Ts rm) {a ci ix k : Nat} {fs : List Value} {v : Value} {CN : String} {T : u_T} {N : Nat} {ty : FieldType} (j : Nat) (ty0 : Nat → FieldType) (d : decode cc pc = .ok (.putfield ix, 3)) (hn : pc + 3 = pc') (hin : ∀ w ∈ u_ws CN T N, w ∈ Ts) (hty : ∀ k, k < N → parseFieldDescriptor (T k).2.2.1 = some (ty0 k)) (hnm : ∀ a, a < N → ∀ b, b < N → a ≠ b → (T a).2.1 ≠ (T b).2.1) (hc : vwCl[ci]? = some (CN, T, N)) (hj : j < N) (hlk : Cond.fieldLink own ix (T j).1 (T j).2.1 (T j).2.2.1 ∈ Ts) (hfin : (T j).2.2.2 = false) (hd : parseFieldDescriptor (T j).2.2.1 = some ty) (hnw : narrow ty v = v) (hfit : fits ty v = true)
    (hk : ws[k]? = some (a, .inr (ci, fs))) (hl9 : j < fs.length) (kk : Ev K G nL cn sn pc' lv st (ws.set k (a, .inr (ci, fs.set j v)))) : Ev K G nL cn sn pc lv (v :: .ref a :: st) ws := by
  obtain ⟨p, e, R, s, m, args, below, meth, c, Q⟩ := K
  intro H ls locs hl hP hD hS
  obtain ⟨hx, hb, hml, hown, hts, hr, hlkk, hK, hbs, hO, hxt, hR, hst⟩ := C
  subst hn
  exact va_put (D := gD G) (ci := ci) (v := v) (ty := ty) (C := CN) (T := T) (N := N) hx hb hts hin ty0 hty hnm hown hK hP hD hS k hk hc j hj (hts _ hlk) (fun _ h9 => h9) hfin hd hnw hfit hl9 d (fun H1 locs1 hP1 hD1 hS1 => kk H1 ls locs1 hl hP1 hD1 hS1)
theorem e_iaload (C : Cx K G cc nL own ret Ts rm) {a k n : Nat} {f : Nat → Int32} {i : Int32} (d : decode cc pc = .ok (.iaload, 1)) (hn : pc + 1 = pc') (hk : ws[k]? = some (a, .inl (gc G 1, n, .inl f))) (hi : vp_in i n) (kk : Ev K G nL cn sn pc' lv (.int (f i.toNatClampNeg) :: st) ws) : Ev K G nL cn sn pc lv (.int i :: .ref a :: st) ws := by
  obtain ⟨p, e, R, s, m, args, below, meth, c, Q⟩ := K
  intro H ls locs hl hP hD hS
  obtain ⟨hx, hb, hml, hown, hts, hr, hlk, hK, hbs, hO, hxt, hR, hst⟩ := C
  subst hn
  exact va_iald hx hb hK hP k 1 hk rfl hi d (kk H ls locs hl hP hD hS)
theorem e_baload (C : Cx K G cc nL own ret Ts rm) {a k n : Nat} {f : Nat → Int32} {i : Int32} (d : decode cc pc = .ok (.baload, 1)) (hn : pc + 1 = pc') (hk : ws[k]? = some (a, .inl (gc G 0, n, .inl f))) (hi : vp_in i n) (kk : Ev K G nL cn sn pc' lv (.int (f i.toNatClampNeg) :: st) ws) : Ev K G nL cn sn pc lv (.int i :: .ref a :: st) ws := by
  obtain ⟨p, e, R, s, m, args, below, meth, c, Q⟩ := K
  intro H ls locs hl hP hD hS
  obtain ⟨hx, hb, hml, hown, hts, hr, hlk, hK, hbs, hO, hxt, hR, hst⟩ := C
  subst hn
  exact va_bald hx hb hK hP k 0 hk rfl hi d (kk H ls locs hl hP hD hS)
theorem e_zaload (C : Cx K G cc nL own ret Ts rm) {a k n : Nat} {f : Nat → Int32} {i : Int32} (d : decode cc pc = .ok (.baload, 1)) (hn : pc + 1 = pc') (hk : ws[k]? = some (a, .inl (gc G 2, n, .inl f))) (hi : vp_in i n) (kk : Ev K G nL cn sn pc' lv (.int (f i.toNatClampNeg) :: st) ws) : Ev K G nL cn sn pc lv (.int i :: .ref a :: st) ws := by
  obtain ⟨p, e, R, s, m, args, below, meth, c, Q⟩ := K
  intro H ls locs hl hP hD hS
  obtain ⟨hx, hb, hml, hown, hts, hr, hlk, hK, hbs, hO, hxt, hR, hst⟩ := C
  subst hn
  exact va_zald hx hb hK hP k 2 hk rfl hi d (kk H ls locs hl hP hD hS)
theorem e_iastore (C : Cx K G cc nL own ret Ts rm) {a k n : Nat} {f : Nat → Int32} {i x : Int32} (d : decode cc pc = .ok (.iastore, 1)) (hn : pc + 1 = pc') (hk : ws[k]? = some (a, .inl (gc G 1, n, .inl f))) (hi : vp_in i n) (kk : Ev K G nL cn sn pc' lv st (ws.set k (a, .inl (gc G 1, n, .inl (upd f i.toNatClampNeg x))))) : Ev K G nL cn sn pc lv (.int x :: .int i :: .ref a :: st) ws := by
  obtain ⟨p, e, R, s, m, args, below, meth, c, Q⟩ := K
  intro H ls locs hl hP hD hS
  obtain ⟨hx, hb, hml, hown, hts, hr, hlk, hK, hbs, hO, hxt, hR, hst⟩ := C
  subst hn
  exact va_iast hx hb hK hP hD hS k 1 hk rfl hi d (fun H1 locs1 hP1 hD1 hS1 => kk H1 ls locs1 hl hP1 hD1 hS1)
theorem e_bastore (C : Cx K G cc nL own ret Ts rm) {a k n : Nat} {f : Nat → Int32} {i x : Int32} (d : decode cc pc = .ok (.bastore, 1)) (hn : pc + 1 = pc') (hk : ws[k]? = some (a, .inl (gc G 0, n, .inl f))) (hi : vp_in i n) (kk : Ev K G nL cn sn pc' lv st (ws.set k (a, .inl (gc G 0, n, .inl (upd f i.toNatClampNeg (vp_nar .byte x)))))) : Ev K G nL cn sn pc lv (.int x :: .int i :: .ref a :: st) ws := by
  obtain ⟨p, e, R, s, m, args, below, meth, c, Q⟩ := K
  intro H ls locs hl hP hD hS
  obtain ⟨hx, hb, hml, hown, hts, hr, hlk, hK, hbs, hO, hxt, hR, hst⟩ := C
  subst hn
  exact va_bast hx hb hK hP hD hS k 0 hk rfl hi d (fun H1 locs1 hP1 hD1 hS1 => kk H1 ls locs1 hl hP1 hD1 hS1)
theorem e_zastore (C : Cx K G cc nL own ret Ts rm) {a k n : Nat} {f : Nat → Int32} {i x : Int32} (d : decode cc pc = .ok (.bastore, 1)) (hn : pc + 1 = pc') (hk : ws[k]? = some (a, .inl (gc G 2, n, .inl f))) (hi : vp_in i n) (kk : Ev K G nL cn sn pc' lv st (ws.set k (a, .inl (gc G 2, n, .inl (upd f i.toNatClampNeg (vp_nar .boolean x)))))) : Ev K G nL cn sn pc lv (.int x :: .int i :: .ref a :: st) ws := by
  obtain ⟨p, e, R, s, m, args, below, meth, c, Q⟩ := K
  intro H ls locs hl hP hD hS
  obtain ⟨hx, hb, hml, hown, hts, hr, hlk, hK, hbs, hO, hxt, hR, hst⟩ := C
  subst hn
  exact va_zast hx hb hK hP hD hS k 2 hk rfl hi d (fun H1 locs1 hP1 hD1 hS1 => kk H1 ls locs1 hl hP1 hD1 hS1)
theorem e_aaloadC (C : Cx K G cc nL own ret Ts rm) {a k n v : Nat} {f : Nat → Option Nat} {i : Int32} (d : decode cc pc = .ok (.aaload, 1)) (hn : pc + 1 = pc') (hk : ws[k]? = some (a, .inl (gc G 3, n, .inr (.inr (.inr (.inr f)))))) (hi : vp_in i n) (hv : f i.toNatClampNeg = some v) (kk : Ev K G nL cn sn pc' lv (.ref v :: st) ws) : Ev K G nL cn sn pc lv (.int i :: .ref a :: st) ws := by
  obtain ⟨p, e, R, s, m, args, below, meth, c, Q⟩ := K
  intro H ls locs hl hP hD hS
  obtain ⟨hx, hb, hml, hown, hts, hr, hlk, hK, hbs, hO, hxt, hR, hst⟩ := C
  subst hn
  refine va_aldq hx hb hK hP k 3 hk rfl hi d ?_
  rw [hv]
  exact kk H ls locs hl hP hD hS
theorem e_aaloadS (C : Cx K G cc nL own ret Ts rm) {a k n v : Nat} {f : Nat → Option Nat} {i : Int32} (d : decode cc pc = .ok (.aaload, 1)) (hn : pc + 1 = pc') (hk : ws[k]? = some (a, .inl (gc G 4, n, .inr (.inr (.inr (.inr f)))))) (hi : vp_in i n) (hv : f i.toNatClampNeg = some v) (kk : Ev K G nL cn sn pc' lv (.ref v :: st) ws) : Ev K G nL cn sn pc lv (.int i :: .ref a :: st) ws := by
  obtain ⟨p, e, R, s, m, args, below, meth, c, Q⟩ := K
  intro H ls locs hl hP hD hS
  obtain ⟨hx, hb, hml, hown, hts, hr, hlk, hK, hbs, hO, hxt, hR, hst⟩ := C
  subst hn
  refine va_aldq hx hb hK hP k 4 hk rfl hi d ?_
  rw [hv]
  exact kk H ls locs hl hP hD hS
end EV
end
section
/-! ===== contracts over the world; how a body gives one; how a call uses one ===== -/
def inl0 : List Value → List (Option Value)
  | [] => []
  | v :: t => if v.category = 2 then some v :: none :: inl0 t else some v :: inl0 t
def inlv (nL : Nat) (as : List Value) : List (Option Value) := inl0 as ++ List.replicate (nL - (inl0 as).length) none
theorem inl0_at : ∀ (as : List Value) (b i : Nat) (v : Value), (inl0 as)[i]? = some (some v) → (b + i, v) ∈ lv_args b as := by
  intro as
  induction as with
  | nil => intro b i v h; simp [inl0] at h
  | cons w t ih =>
    intro b i v h
    unfold inl0 at h
    unfold lv_args
    by_cases hc : w.category = 2
    · rw [if_pos hc] at h ⊢
      match i, h with
      | 0, h => simp at h; subst h; exact List.mem_cons_self
      | 1, h => simp at h
      | i + 2, h =>
        have := ih (b + 2) i v (by simpa using h)
        exact List.mem_cons_of_mem _ (by rw [show b + (i + 2) = b + 2 + i by omega]; exact this)
    · rw [if_neg hc] at h ⊢
      match i, h with
      | 0, h => simp at h; subst h; exact List.mem_cons_self
      | i + 1, h =>
        have := ih (b + 1) i v (by simpa using h)
        exact List.mem_cons_of_mem _ (by rw [show b + (i + 1) = b + 1 + i by omega]; exact this)
theorem inlv_at {nL i : Nat} {as : List Value} {v : Value} (h : (inlv nL as)[i]? = some (some v)) : (i, v) ∈ lv_args 0 as := by
  unfold inlv at h
  rw [List.getElem?_append] at h
  split at h
  · have := inl0_at as 0 i v h; rw [Nat.zero_add] at this; exact this
  · rw [List.getElem?_replicate] at h; split at h <;> simp at h
theorem LH.entry {as : List Value} {n : Nat} (h : (lg_sl as).length ≤ n) : LH ((lg_sl as ++ List.replicate (n - (lg_sl as).length) Slot.unset).toArray) n (inlv n as) := by
  have hl := lv_entry as h
  exact ⟨hl.1, hl.2.1, fun i v hi => hl.2.2 (i, v) (inlv_at hi)⟩
/-- contracts: int (and boolean), nothing, a reference, long; X..: it may throw, too -/
def QtI (G : Gx) (Q : Int32 → va_W → Prop) : Array Value → State → Outcome → State → Prop := va_Qi Q (fun u t => Wd G u t) (bA (gb G))
def QtL (G : Gx) (Q : Int64 → va_W → Prop) : Array Value → State → Outcome → State → Prop := va_Ql Q (fun u t => Wd G u t) (bA (gb G))
def QtV (G : Gx) (Q : va_W → Prop) : Array Value → State → Outcome → State → Prop := va_Qv Q (fun u t => Wd G u t) (bA (gb G))
def QtR (G : Gx) (Q : Nat → va_W → Prop) : Array Value → State → Outcome → State → Prop := va_Qr (S := Nat × va_W) (fun u => Q u.1 u.2) (fun u a t => a = u.1 ∧ Wd G u.2 t) (bA (gb G))
def QtX (G : Gx) (X : String → va_W → Prop) : String → State → State → Prop := vx_X (fun _ : va_W => True) (fun E u t => X E u ∧ va_P (gD G) vwCl u t.heap ∧ va_D (bA (gb G)) u) (bA (gb G))
def Mt (G : Gx) (y : MethodName) (wy : List Cond) (rm : Room) (as : List Value) (ws : va_W) (Qc : Array Value → State → Outcome → State → Prop) : Prop := Met (gl G) y wy rm (va_Pc as (Wd G ws)) Qc rm.cells rm.slots (bA (gb G))
def Xt (G : Gx) (y : MethodName) (wy : List Cond) (rm : Room) (as : List Value) (ws : va_W) (Qc : Array Value → State → Outcome → State → Prop) (X : String → va_W → Prop) : Prop := vx_Met (gl G) y wy rm (va_Pc as (Wd G ws)) Qc (QtX G X) rm.cells rm.slots (bA (gb G))
theorem Wd.at_end {G : Gx} {ws : va_W} {s t : State} {H : Heap} {locs : List Loc} (hbs : gb G ≤ s.heap.size) (hK : va_K (gD G) vwCl (tyl (gc G)) s) (hO : Old G s s.heap) (hP : va_P (gD G) vwCl ws H) (hD : va_D (bA (gb G)) ws) (hS : va_S (bA (gb G)) s.heap H locs) (ht : t.heap = H) (hW : s.WarmedH t.vm) : Wd G ws t :=
  ⟨by rw [ht]; exact Nat.le_trans hbs hS.1, by rw [ht]; exact hP, va_K.moved hW.alike hK, hD, by rw [ht]; exact hO.to hW hS.2.1⟩
section BODY
variable {G : Gx} {y : MethodName} {wy wy' : List Cond} {cc : ByteArray} {nL : Nat} {own : String} {rm : Room} {as : List Value} {lv0 : List (Option Value)} {ws : va_W} {ret : Option FieldType} {Qc : Array Value → State → Outcome → State → Prop} {X : String → va_W → Prop}
/-- what a body may use of its end: that the goal's last predicate is MQ of its contract -/
def Fin (K : Kx) (G : Gx) (rm : Room) (Qc : Array Value → State → Outcome → State → Prop) : Prop := match K with
  | (_, _, _, s, _, args, below, _, _, Q) => Q = MQ below Qc args s rm.cells rm.slots (bA (gb G))
def FinX (K : Kx) (G : Gx) (rm : Room) (Qc : Array Value → State → Outcome → State → Prop) (X : String → va_W → Prop) : Prop := match K with
  | (_, _, _, s, _, args, below, _, _, Q) => Q = vx_MQ below Qc (QtX G X) args s rm.cells rm.slots (bA (gb G))
theorem mk_Mt (hst : (gl G).stackTraces = false) (hy : plainName y.cls = true) (hw : wy = Cond.code y cc nL ret :: wy') (ho : y.cls = own) (hlen : (lg_sl as).length ≤ nL) (h0 : inlv nL as = lv0)
    (body : ∀ K, Cx K G cc nL own ret wy rm → Fin K G rm Qc → Ev K G nL 0 0 0 lv0 [] ws) : Mt G y wy rm as ws Qc := by
  refine Met.ofW (cc := cc) (maxL := nL) (ret := ret) hy hw ?_
  intro p e s m args below meth c s₁ B hml hv
  obtain ⟨rfl, hbs, hP, hK, hD, hO⟩ := hv
  have hts := atoms_spec (ws := wy) B.pre
  have hown : s.vm.findClass own = some m.cls := by rw [← ho]; exact findClass_of_methodNamed B.named
  have hxt : ∀ x ∈ c.exceptionTable.toList, False := by
    have h1 := B.noHandlers (hts _ (by rw [hw]; exact List.mem_cons_self))
    intro x hx
    rw [Array.isEmpty_iff.mp h1] at hx
    cases hx
  have key := body (p, e, (headSpec wy rm).room, s, m, as.toArray, below, meth, c, MQ below Qc as.toArray s rm.cells rm.slots (bA (gb G))) ⟨B.exec, B.bytes, hml, hown, hts, B.returns, B.notSynchronized, hK, hbs, hO, hxt, rfl, hst⟩ rfl
  subst h0
  rw [lg_entry_eq]
  exact key s.heap _ [] (LH.entry hlen) hP hD va_S.rf
theorem mk_Xt (hst : (gl G).stackTraces = false) (hy : plainName y.cls = true) (hw : wy = Cond.code y cc nL ret :: wy') (ho : y.cls = own) (hlen : (lg_sl as).length ≤ nL) (h0 : inlv nL as = lv0)
    (body : ∀ K, Cx K G cc nL own ret wy rm → FinX K G rm Qc X → Ev K G nL 0 0 0 lv0 [] ws) : Xt G y wy rm as ws Qc X := by
  refine vx_ofW (cc := cc) (maxL := nL) (ret := ret) hy hw ?_
  intro p e s m args below meth c s₁ B hml hxt hv
  obtain ⟨rfl, hbs, hP, hK, hD, hO⟩ := hv
  have hts := atoms_spec (ws := wy) B.pre
  have hown : s.vm.findClass own = some m.cls := by rw [← ho]; exact findClass_of_methodNamed B.named
  have key := body (p, e, (headSpec wy rm).room, s, m, as.toArray, below, meth, c, vx_MQ below Qc (QtX G X) as.toArray s rm.cells rm.slots (bA (gb G))) ⟨B.exec, B.bytes, hml, hown, hts, B.returns, B.notSynchronized, hK, hbs, hO, hxt, rfl, hst⟩ rfl
  subst h0
  rw [lg_entry_eq]
  exact key s.heap _ [] (LH.entry hlen) hP hD va_S.rf
end BODY
section RET
variable {K : Kx} {G : Gx} {cc : ByteArray} {nL cn sn pc pc' : Nat} {own : String} {ret : Option FieldType} {Ts : List Cond} {rm : Room} {lv lv' : List (Option Value)} {st : List Value} {ws : va_W} {X : String → va_W → Prop}
theorem r_int {Q : Int32 → va_W → Prop} (C : Cx K G cc nL own (some .int) Ts rm) (F : Fin K G rm (QtI G Q)) {v : Int32} (d : decode cc pc = .ok (.ireturn, 1)) (h1 : cn ≤ rm.cells) (h2 : sn ≤ rm.slots) (hq : Q v ws) : Ev K G nL cn sn pc lv [.int v] ws := by
  obtain ⟨p, e, R, s, m, args, below, meth, c, Qf⟩ := K
  intro H ls locs hl hP hD hS
  obtain ⟨hx, hb, hml, hown, hts, hr, hlk, hK, hbs, hO, hxt, hR, hst⟩ := C
  cases F
  refine W.widen h1 h2 ?_
  exact W.iret (v := v) hx hb hr (fun t ht hW => ⟨⟨v, ws, rfl, hq, Wd.at_end hbs hK hO hP hD hS ht hW⟩, hS.F ht⟩) hS.2.2 d hlk
theorem r_bool {Q : Int32 → va_W → Prop} (C : Cx K G cc nL own (some .boolean) Ts rm) (F : Fin K G rm (QtI G Q)) {v : Int32} (d : decode cc pc = .ok (.ireturn, 1)) (h1 : cn ≤ rm.cells) (h2 : sn ≤ rm.slots) (hv : v = 0 ∨ v = 1) (hq : Q v ws) : Ev K G nL cn sn pc lv [.int v] ws := by
  obtain ⟨p, e, R, s, m, args, below, meth, c, Qf⟩ := K
  intro H ls locs hl hP hD hS
  obtain ⟨hx, hb, hml, hown, hts, hr, hlk, hK, hbs, hO, hxt, hR, hst⟩ := C
  cases F
  refine W.widen h1 h2 ?_
  exact W.zret (v := v) hx hb hr (by rcases hv with rfl | rfl <;> rfl) (fun t ht hW => ⟨⟨v, ws, rfl, hq, Wd.at_end hbs hK hO hP hD hS ht hW⟩, hS.F ht⟩) hS.2.2 d hlk
theorem r_long {Q : Int64 → va_W → Prop} (C : Cx K G cc nL own (some .long) Ts rm) (F : Fin K G rm (QtL G Q)) {v : Int64} (d : decode cc pc = .ok (.lreturn, 1)) (h1 : cn ≤ rm.cells) (h2 : sn ≤ rm.slots) (hq : Q v ws) : Ev K G nL cn sn pc lv [.long v] ws := by
  obtain ⟨p, e, R, s, m, args, below, meth, c, Qf⟩ := K
  intro H ls locs hl hP hD hS
  obtain ⟨hx, hb, hml, hown, hts, hr, hlk, hK, hbs, hO, hxt, hR, hst⟩ := C
  cases F
  refine W.widen h1 h2 ?_
  exact W.lret (v := v) hx hb hr (fun t ht hW => ⟨⟨v, ws, rfl, hq, Wd.at_end hbs hK hO hP hD hS ht hW⟩, hS.F ht⟩) hS.2.2 d hlk
theorem r_void {Q : va_W → Prop} (C : Cx K G cc nL own none Ts rm) (F : Fin K G rm (QtV G Q)) (d : decode cc pc = .ok (.return_, 1)) (h1 : cn ≤ rm.cells) (h2 : sn ≤ rm.slots) (hq : Q ws) : Ev K G nL cn sn pc lv [] ws := by
  obtain ⟨p, e, R, s, m, args, below, meth, c, Qf⟩ := K
  intro H ls locs hl hP hD hS
  obtain ⟨hx, hb, hml, hown, hts, hr, hlk, hK, hbs, hO, hxt, hR, hst⟩ := C
  cases F
  refine W.widen h1 h2 ?_
  exact W.vret hx hb hr (fun t ht hW => ⟨⟨ws, rfl, hq, Wd.at_end hbs hK hO hP hD hS ht hW⟩, hS.F ht⟩) hS.2.2 d hlk
theorem x_int {Q : Int32 → va_W → Prop} (C : Cx K G cc nL own (some .int) Ts rm) (F : FinX K G rm (QtI G Q) X) {v : Int32} (d : decode cc pc = .ok (.ireturn, 1)) (h1 : cn ≤ rm.cells) (h2 : sn ≤ rm.slots) (hq : Q v ws) : Ev K G nL cn sn pc lv [.int v] ws := by
  obtain ⟨p, e, R, s, m, args, below, meth, c, Qf⟩ := K
  intro H ls locs hl hP hD hS
  obtain ⟨hx, hb, hml, hown, hts, hr, hlk, hK, hbs, hO, hxt, hR, hst⟩ := C
  cases F
  refine W.widen h1 h2 (vx_ret ?_)
  exact W.iret (v := v) hx hb hr (fun t ht hW => ⟨⟨v, ws, rfl, hq, Wd.at_end hbs hK hO hP hD hS ht hW⟩, hS.F ht⟩) hS.2.2 d hlk
theorem x_bool {Q : Int32 → va_W → Prop} (C : Cx K G cc nL own (some .boolean) Ts rm) (F : FinX K G rm (QtI G Q) X) {v : Int32} (d : decode cc pc = .ok (.ireturn, 1)) (h1 : cn ≤ rm.cells) (h2 : sn ≤ rm.slots) (hv : v = 0 ∨ v = 1) (hq : Q v ws) : Ev K G nL cn sn pc lv [.int v] ws := by
  obtain ⟨p, e, R, s, m, args, below, meth, c, Qf⟩ := K
  intro H ls locs hl hP hD hS
  obtain ⟨hx, hb, hml, hown, hts, hr, hlk, hK, hbs, hO, hxt, hR, hst⟩ := C
  cases F
  refine W.widen h1 h2 (vx_ret ?_)
  exact W.zret (v := v) hx hb hr (by rcases hv with rfl | rfl <;> rfl) (fun t ht hW => ⟨⟨v, ws, rfl, hq, Wd.at_end hbs hK hO hP hD hS ht hW⟩, hS.F ht⟩) hS.2.2 d hlk
theorem x_void {Q : va_W → Prop} (C : Cx K G cc nL own none Ts rm) (F : FinX K G rm (QtV G Q) X) (d : decode cc pc = .ok (.return_, 1)) (h1 : cn ≤ rm.cells) (h2 : sn ≤ rm.slots) (hq : Q ws) : Ev K G nL cn sn pc lv [] ws := by
  obtain ⟨p, e, R, s, m, args, below, meth, c, Qf⟩ := K
  intro H ls locs hl hP hD hS
  obtain ⟨hx, hb, hml, hown, hts, hr, hlk, hK, hbs, hO, hxt, hR, hst⟩ := C
  cases F
  refine W.widen h1 h2 (vx_ret ?_)
  exact W.vret hx hb hr (fun t ht hW => ⟨⟨ws, rfl, hq, Wd.at_end hbs hK hO hP hD hS ht hW⟩, hS.F ht⟩) hS.2.2 d hlk
theorem x_ref {Q : Nat → va_W → Prop} {cl : String} (C : Cx K G cc nL own (some (.object cl)) Ts rm) (F : FinX K G rm (QtR G Q) X) {v : Nat} (d : decode cc pc = .ok (.areturn, 1)) (h1 : cn ≤ rm.cells) (h2 : sn ≤ rm.slots) (hq : Q v ws) : Ev K G nL cn sn pc lv [.ref v] ws := by
  obtain ⟨p, e, R, s, m, args, below, meth, c, Qf⟩ := K
  intro H ls locs hl hP hD hS
  obtain ⟨hx, hb, hml, hown, hts, hr, hlk, hK, hbs, hO, hxt, hR, hst⟩ := C
  cases F
  refine W.widen h1 h2 (vx_ret ?_)
  exact W.aret (v := .ref v) hx hb hr (Or.inl ⟨_, rfl⟩) (Or.inr ⟨_, rfl⟩) (fun t ht hW => ⟨⟨(v, ws), v, rfl, hq, rfl, Wd.at_end hbs hK hO hP hD hS ht hW⟩, hS.F ht⟩) hS.2.2 d hlk
/-- out of this method goes what came out of a call -/
theorem x_out {Qc : Array Value → State → Outcome → State → Prop} (C : Cx K G cc nL own ret Ts rm) (F : FinX K G rm Qc X) {E : String} (h1 : cn ≤ rm.cells) (h2 : sn ≤ rm.slots) (hq : X E ws) : XEv K G nL cn sn pc lv st E ws := by
  obtain ⟨p, e, R, s, m, args, below, meth, c, Qf⟩ := K
  intro H ls locs q ce hl hP hD hS h3 h4 h5
  obtain ⟨hx, hb, hml, hown, hts, hr, hlk, hK, hbs, hO, hxt, hR, hst⟩ := C
  cases F
  exact vx_out (fun x hx => absurd (hxt x hx) id) hlk h3 h4 h5 (fun t ht ha => ⟨ws, trivial, ⟨hq, by rw [ht]; exact hP, hD⟩, hS.F ht⟩) hS.2.2 h1 h2
/-- an exception of its own, with a text: new, dup, ldc, invokespecial, athrow -/
theorem x_words {args : Array Value} {s : State} {G : Gx} {H : Heap} {E : String} {ic : Nat} (hO : Old G s H) (hE : E ∈ xexc) (hgw : ∀ w ∈ (vx_atS own ic E xnms).filter goodWord, w.before args s = true) (hb : ∀ w ∈ (vx_atS own ic E xnms).filter (fun w => !goodWord w), w ∈ (Cond.castable E E :: xdec.map Cond.declares)) : ∀ w ∈ vx_atS own ic E xnms, w.before args s = true :=
  vx_hat hgw hb (fun w hw => by
    rcases List.mem_cons.mp hw with rfl | hw
    · exact va_Nw.use rfl (hO.2.2.2.2.2.1 E hE)
    · obtain ⟨y, hy, rfl⟩ := List.mem_map.mp hw
      exact va_Nw.use rfl (hO.2.2.2.2.2.2.1 y hy))
theorem va_P.grown {D : va_G} {ws : va_W} {H : Heap} {H1 : Heap} (h : va_P D vwCl ws H) (hk : ∀ q : Nat, q < H.size → H1[q]? = H[q]?) : va_P D vwCl ws H1 := fun k q hq => (h k q hq).kept (hk _ (h k q hq).lt)
theorem x_throwS {Qc : Array Value → State → Outcome → State → Prop} (C : Cx K G cc nL own ret Ts rm) (F : FinX K G rm Qc X) {E tx : String} {ik is ic : Nat} (hE : E ∈ xexc) (hfit : Bundle.fit E = true) (hk : Cond.classLink own ik E ∈ Ts) (hini : Cond.initialized E ∈ Ts) (hs : (own, is, tx) ∈ xstr)
    (hgw : ∀ w ∈ (vx_atS own ic E xnms).filter goodWord, w ∈ Ts) (hbw : ∀ w ∈ (vx_atS own ic E xnms).filter (fun w => !goodWord w), w ∈ (Cond.castable E E :: xdec.map Cond.declares))
    (hot : ∀ w ∈ Cond.classLink own ik E :: Cond.initialized E :: vx_atS own ic E xnms, vx_ot w = true)
    (d0 : decode cc pc = .ok (.new ik, 3)) (d3 : decode cc (pc + 3) = .ok (.dup, 1)) (d4 : decode cc (pc + 4) = .ok (.ldc is, 2)) (d6 : decode cc (pc + 6) = .ok (.invokespecial ic, 3)) (d9 : decode cc (pc + 9) = .ok (.athrow, 1))
    (hf : 5 < rm.frames) (hlo : (st.map fun v => v.category).sum + 82 ≤ rm.locals) (h1 : cn + 1 ≤ rm.cells) (h2 : sn + 6 ≤ rm.slots) (hq : X E ws) : Ev K G nL cn sn pc lv st ws := by
  obtain ⟨p, e, R, s, m, args, below, meth, c, Qf⟩ := K
  intro H ls locs hl hP hD hS
  obtain ⟨hx, hb, hml, hown, hts, hr, hlk, hK, hbs, hO, hxt, hR, hst⟩ := C
  cases F
  subst hR
  obtain ⟨sa, hsa⟩ := hO.2.2.1 _ hs
  exact vx_throwS (text := tx) (sa := sa) (names := xnms) (A := bA (gb G)) hx hb hst hown hfit (by decide) (hts _ hk) (hts _ hini) hsa (x_words hO hE (fun w hw => hts w (hgw w hw)) hbw) hot hO.1 hO.2.1 hS (by rw [hl.1, hml]) d0 d3 d4 d6 d9 (fun x hx => absurd (hxt x hx) id) hf hlo h1 h2 hlk
    (fun t ha hz hk => ⟨ws, trivial, ⟨hq, va_P.grown hP hk, hD⟩, Nat.le_trans hS.1 hz, fun q h1 h2 => by rw [hk q (Nat.lt_of_lt_of_le h1 hS.1)]; exact hS.2.1 q h1 h2⟩) hS.2.2 h1 h2
theorem x_throwSW {Qc : Array Value → State → Outcome → State → Prop} (C : Cx K G cc nL own ret Ts rm) (F : FinX K G rm Qc X) {E tx : String} {ik is ic : Nat} (hE : E ∈ xexc) (hfit : Bundle.fit E = true) (hk : Cond.classLink own ik E ∈ Ts) (hini : Cond.initialized E ∈ Ts) (hs : (own, is, tx) ∈ xstr)
    (hgw : ∀ w ∈ (vx_atS own ic E xnms).filter goodWord, w ∈ Ts) (hbw : ∀ w ∈ (vx_atS own ic E xnms).filter (fun w => !goodWord w), w ∈ (Cond.castable E E :: xdec.map Cond.declares))
    (hot : ∀ w ∈ Cond.classLink own ik E :: Cond.initialized E :: vx_atS own ic E xnms, vx_ot w = true)
    (d0 : decode cc pc = .ok (.new ik, 3)) (d3 : decode cc (pc + 3) = .ok (.dup, 1)) (d4 : decode cc (pc + 4) = .ok (.ldc_w is, 3)) (d6 : decode cc (pc + 7) = .ok (.invokespecial ic, 3)) (d9 : decode cc (pc + 10) = .ok (.athrow, 1))
    (hf : 5 < rm.frames) (hlo : (st.map fun v => v.category).sum + 82 ≤ rm.locals) (h1 : cn + 1 ≤ rm.cells) (h2 : sn + 6 ≤ rm.slots) (hq : X E ws) : Ev K G nL cn sn pc lv st ws := by
  obtain ⟨p, e, R, s, m, args, below, meth, c, Qf⟩ := K
  intro H ls locs hl hP hD hS
  obtain ⟨hx, hb, hml, hown, hts, hr, hlk, hK, hbs, hO, hxt, hR, hst⟩ := C
  cases F
  subst hR
  obtain ⟨sa, hsa⟩ := hO.2.2.1 _ hs
  exact vx_throwSW (text := tx) (sa := sa) (names := xnms) (A := bA (gb G)) hx hb hst hown hfit (by decide) (hts _ hk) (hts _ hini) hsa (x_words hO hE (fun w hw => hts w (hgw w hw)) hbw) hot hO.1 hO.2.1 hS (by rw [hl.1, hml]) d0 d3 d4 d6 d9 (fun x hx => absurd (hxt x hx) id) hf hlo h1 h2 hlk
    (fun t ha hz hk => ⟨ws, trivial, ⟨hq, va_P.grown hP hk, hD⟩, Nat.le_trans hS.1 hz, fun q h1 h2 => by rw [hk q (Nat.lt_of_lt_of_le h1 hS.1)]; exact hS.2.1 q h1 h2⟩) hS.2.2 h1 h2
end RET
section RUN
variable {K : Kx} {G : Gx} {cc : ByteArray} {nL cn sn pc pc' : Nat} {own : String} {ret : Option FieldType} {Ts : List Cond} {rm : Room} {lv lv' : List (Option Value)} {st pst : List Value} {ws : va_W}
variable {y : MethodName} {wy wy' : List Cond} {rm' : Room} {bytes : ByteArray} {maxL ix n ci b : Nat} {ret' : Option FieldType} {As : List Value} {Qc : Array Value → State → Outcome → State → Prop} {X : String → va_W → Prop} {CN : String} {q : vw_C}
def Rn (K : Kx) (G : Gx) (nL cn sn pc : Nat) (lv : List (Option Value)) (pst st : List Value) (ws : va_W) (mc ms : Nat) (as : List Value) (Qc : Array Value → State → Outcome → State → Prop) : Prop := match K with
  | (p, e, R, s, m, args, below, meth, c, Q) => ∀ (H : Heap) (ls : Array Slot) (locs : List Loc), LH ls nL lv → va_P (gD G) vwCl ws H → va_D (bA (gb G)) ws → va_S (bA (gb G)) s.heap H locs → va_Run p (gl G) e R s m args below meth c H locs cn sn mc ms (F0 m pc ls pst) st (Qc as.toArray) (bA (gb G))
def Rx (K : Kx) (G : Gx) (nL cn sn pc : Nat) (lv : List (Option Value)) (pst st : List Value) (ws : va_W) (mc ms : Nat) (as : List Value) (Qc : Array Value → State → Outcome → State → Prop) (X : String → va_W → Prop) : Prop := match K with
  | (p, e, R, s, m, args, below, meth, c, Q) => ∀ (H : Heap) (ls : Array Slot) (locs : List Loc), LH ls nL lv → va_P (gD G) vwCl ws H → va_D (bA (gb G)) ws → va_S (bA (gb G)) s.heap H locs → vx_Run p (gl G) e R s m args below meth c H locs cn sn mc ms (F0 m pc ls pst) st (Qc as.toArray) (QtX G X) (bA (gb G))
theorem Wd.at_call {G : Gx} {ws : va_W} {s U : State} {H : Heap} {locs : List Loc} (hbs : gb G ≤ s.heap.size) (hK : va_K (gD G) vwCl (tyl (gc G)) s) (hO : Old G s s.heap) (hP : va_P (gD G) vwCl ws H) (hD : va_D (bA (gb G)) ws) (hS : va_S (bA (gb G)) s.heap H locs) (ht : U.heap = H) (hW : s.WarmedH U.vm) : Wd G ws U := Wd.at_end hbs hK hO hP hD hS ht hW
theorem run_V (C : Cx K G cc nL own ret Ts rm) (hM : Mt G y wy rm' (.ref b :: As) ws Qc) (hG : GoodIn Ts (wsV own ix CN y wy)) (hw : wy = Cond.code y bytes maxL ret' :: wy')
    (hd : y.cls = CN ∧ y.cls ≠ "java/lang/invoke/MethodHandle" ∧ y.cls ≠ "java/lang/invoke/VarHandle" ∧ (parseMethodDescriptor y.desc).map (fun d => d.parameters.length) = some n) (hR : rm'.frames + 1 ≤ rm.frames ∧ 8 + (maxL + 11) + rm'.locals ≤ rm.locals)
    (hc : vwCl[ci]? = some q) (hq : q.1 = CN) (hv : qV ci b ws) (hn : As.length = n) (hst9 : (st.map fun v => v.category).sum ≤ 8) (d : decode cc pc = .ok (.invokevirtual ix, 3)) (hcs : cn + rm'.cells ≤ rm.cells ∧ sn + rm'.slots ≤ rm.slots) (hp : pst = As.reverse ++ .ref b :: st) : Rn K G nL cn sn pc lv pst st ws rm'.cells rm'.slots (.ref b :: As) Qc := by
  obtain ⟨p, e, R, s, m, args, below, meth, c, Qf⟩ := K
  intro H ls locs hl hP hD hS
  obtain ⟨hx, hb, hml, hown, hts, hr, hlk, hK, hbs, hO, hxt, hRr, hst⟩ := C
  subst hRr; subst hq
  obtain ⟨k, fs, hk⟩ := hv
  exact va_runV (As := As) (rest := st) ⟨hx, hb, hml, hown, hts⟩ hM (cwV n hts hG hw rfl rfl hd hR) ⟨Wd.blind, va_recv hK hP hc hk, fun U hU hW => ⟨rfl, Wd.at_call hbs hK hO hP hD hS hU hW⟩⟩ rfl hn hl.1 hp (lv_room hst9) d hcs
theorem run_S (C : Cx K G cc nL own ret Ts rm) (hM : Mt G y wy rm' As ws Qc) (hG : GoodIn Ts (wsS own ix y wy)) (hw : wy = Cond.code y bytes maxL ret' :: wy')
    (hd : y.cls = own ∧ y.cls ≠ "java/lang/invoke/MethodHandle" ∧ y.cls ≠ "java/lang/invoke/VarHandle" ∧ (parseMethodDescriptor y.desc).map (fun d => d.parameters.length) = some n) (hR : rm'.frames + 1 ≤ rm.frames ∧ 8 + (maxL + 11) + rm'.locals ≤ rm.locals)
    (hn : As.length = n) (hst9 : (st.map fun v => v.category).sum ≤ 8) (d : decode cc pc = .ok (.invokestatic ix, 3)) (hcs : cn + rm'.cells ≤ rm.cells ∧ sn + rm'.slots ≤ rm.slots) (hp : pst = As.reverse ++ st) : Rn K G nL cn sn pc lv pst st ws rm'.cells rm'.slots As Qc := by
  obtain ⟨p, e, R, s, m, args, below, meth, c, Qf⟩ := K
  intro H ls locs hl hP hD hS
  obtain ⟨hx, hb, hml, hown, hts, hr, hlk, hK, hbs, hO, hxt, hRr, hst⟩ := C
  subst hRr
  exact va_runS (As := As) (rest := st) ⟨hx, hb, hml, hown, hts⟩ hM (cwS n hts hG hw rfl rfl hd hR) ⟨Wd.blind, fun U hU hW => ⟨rfl, Wd.at_call hbs hK hO hP hD hS hU hW⟩⟩ rfl hn hl.1 hp (lv_room hst9) d hcs
theorem run_SN (C : Cx K G cc nL own ret Ts rm) (hM : Mt G y wy rm' As ws Qc) (hG : GoodIn Ts wy) (hw : wy = Cond.code y bytes maxL ret' :: wy') (hne : (own, ix, y) ∈ xnst) (hini : Cond.initialized y.cls ∈ Ts) (hstc : Cond.static y ∈ Ts)
    (hd : y.cls ≠ "java/lang/invoke/MethodHandle" ∧ y.cls ≠ "java/lang/invoke/VarHandle" ∧ (parseMethodDescriptor y.desc).map (fun d => d.parameters.length) = some n) (hR : rm'.frames + 1 ≤ rm.frames ∧ 8 + (maxL + 11) + rm'.locals ≤ rm.locals)
    (hn : As.length = n) (hst9 : (st.map fun v => v.category).sum ≤ 8) (d : decode cc pc = .ok (.invokestatic ix, 3)) (hcs : cn + rm'.cells ≤ rm.cells ∧ sn + rm'.slots ≤ rm.slots) (hp : pst = As.reverse ++ st) : Rn K G nL cn sn pc lv pst st ws rm'.cells rm'.slots As Qc := by
  obtain ⟨p, e, R, s, m, args, below, meth, c, Qf⟩ := K
  intro H ls locs hl hP hD hS
  obtain ⟨hx, hb, hml, hown, hts, hr, hlk, hK, hbs, hO, hxt, hRr, hst⟩ := C
  subst hRr
  exact va_runSN (As := As) (rest := st) (host := RX6) ⟨hx, hb, hml, hown, hts⟩ hM ⟨va_cnB n hts hG hw rfl rfl (hO.2.2.2.2.2.2.2 _ hne) (hts _ hini) hd hR, hts _ hstc, trivial⟩ ⟨Wd.blind, fun U hU hW => ⟨rfl, Wd.at_call hbs hK hO hP hD hS hU hW⟩⟩ rfl hn hl.1 hp (lv_room hst9) d hcs
theorem run_IN (C : Cx K G cc nL own ret Ts rm) (hM : Mt G y wy rm' (.ref b :: As) ws Qc) (hG : GoodIn Ts wy) (hw : wy = Cond.code y bytes maxL none :: wy') (hne : (own, ix, y) ∈ xnst) (hini : Cond.initialized y.cls ∈ Ts) (hy1 : y.name = "<init>") (hins : Cond.instanceMethod y ∈ Ts)
    (hd : y.cls ≠ "java/lang/invoke/MethodHandle" ∧ y.cls ≠ "java/lang/invoke/VarHandle" ∧ (parseMethodDescriptor y.desc).map (fun d => d.parameters.length) = some n) (hR : rm'.frames + 1 ≤ rm.frames ∧ 8 + (maxL + 11) + rm'.locals ≤ rm.locals)
    (hn : As.length = n) (hst9 : (st.map fun v => v.category).sum ≤ 8) (d : decode cc pc = .ok (.invokespecial ix, 3)) (hcs : cn + rm'.cells ≤ rm.cells ∧ sn + rm'.slots ≤ rm.slots) (hp : pst = As.reverse ++ .ref b :: st) : Rn K G nL cn sn pc lv pst st ws rm'.cells rm'.slots (.ref b :: As) Qc := by
  obtain ⟨p, e, R, s, m, args, below, meth, c, Qf⟩ := K
  intro H ls locs hl hP hD hS
  obtain ⟨hx, hb, hml, hown, hts, hr, hlk, hK, hbs, hO, hxt, hRr, hst⟩ := C
  subst hRr
  exact va_runIN (As := As) (rest := st) (host := RX6) ⟨hx, hb, hml, hown, hts⟩ hM ⟨va_cnB n hts hG hw rfl rfl (hO.2.2.2.2.2.2.2 _ hne) (hts _ hini) hd hR, hy1, hts _ hins⟩ ⟨Wd.blind, fun U hU hW => ⟨rfl, Wd.at_call hbs hK hO hP hD hS hU hW⟩⟩ rfl hn hl.1 hp (lv_room hst9) d hcs
theorem run_XV (C : Cx K G cc nL own ret Ts rm) (hM : Xt G y wy rm' (.ref b :: As) ws Qc X) (hG : GoodIn Ts (wsV own ix CN y wy)) (hw : wy = Cond.code y bytes maxL ret' :: wy')
    (hd : y.cls = CN ∧ y.cls ≠ "java/lang/invoke/MethodHandle" ∧ y.cls ≠ "java/lang/invoke/VarHandle" ∧ (parseMethodDescriptor y.desc).map (fun d => d.parameters.length) = some n) (hR : rm'.frames + 1 ≤ rm.frames ∧ 8 + (maxL + 11) + rm'.locals ≤ rm.locals)
    (hc : vwCl[ci]? = some q) (hq : q.1 = CN) (hv : qV ci b ws) (hn : As.length = n) (hst9 : (st.map fun v => v.category).sum ≤ 8) (d : decode cc pc = .ok (.invokevirtual ix, 3)) (hcs : cn + rm'.cells ≤ rm.cells ∧ sn + rm'.slots ≤ rm.slots) (hp : pst = As.reverse ++ .ref b :: st) : Rx K G nL cn sn pc lv pst st ws rm'.cells rm'.slots (.ref b :: As) Qc X := by
  obtain ⟨p, e, R, s, m, args, below, meth, c, Qf⟩ := K
  intro H ls locs hl hP hD hS
  obtain ⟨hx, hb, hml, hown, hts, hr, hlk, hK, hbs, hO, hxt, hRr, hst⟩ := C
  subst hRr; subst hq
  obtain ⟨k, fs, hk⟩ := hv
  exact vx_runV (As := As) (rest := st) ⟨hx, hb, hml, hown, hts⟩ hM (cwV n hts hG hw rfl rfl hd hR) ⟨Wd.blind, va_recv hK hP hc hk, fun U hU hW => ⟨rfl, Wd.at_call hbs hK hO hP hD hS hU hW⟩⟩ rfl hn hl.1 hp (lv_room hst9) d hcs
variable {mc ms cn' sn' : Nat} {as : List Value}
theorem e_calli {Q : Int32 → va_W → Prop} (h : Rn K G nL cn sn pc lv pst st ws mc ms as (QtI G Q)) (hn : pc + 3 = pc') (h1 : cn + mc = cn') (h2 : sn + ms = sn') (kk : ∀ r u, Q r u → Ev K G nL cn' sn' pc' lv (.int r :: st) u) : Ev K G nL cn sn pc lv pst ws := by
  obtain ⟨p, e, R, s, m, args, below, meth, c, Qf⟩ := K
  intro H ls locs hl hP hD hS
  subst hn; subst h1; subst h2
  exact va_calli (h H ls locs hl hP hD hS) hS (fun q _ h => h) (fun q h => h) (fun r u t H1 locs1 ht hvm hw hB hz1 hk1 hS1 => kk r u hw H1 ls locs1 hl (by rw [← ht]; exact hB.2.1) hB.2.2.2.1 hS1)
theorem e_calll {Q : Int64 → va_W → Prop} (h : Rn K G nL cn sn pc lv pst st ws mc ms as (QtL G Q)) (hn : pc + 3 = pc') (h1 : cn + mc = cn') (h2 : sn + ms = sn') (kk : ∀ r u, Q r u → Ev K G nL cn' sn' pc' lv (.long r :: st) u) : Ev K G nL cn sn pc lv pst ws := by
  obtain ⟨p, e, R, s, m, args, below, meth, c, Qf⟩ := K
  intro H ls locs hl hP hD hS
  subst hn; subst h1; subst h2
  exact va_calll (h H ls locs hl hP hD hS) hS (fun q _ h => h) (fun q h => h) (fun r u t H1 locs1 ht hvm hw hB hz1 hk1 hS1 => kk r u hw H1 ls locs1 hl (by rw [← ht]; exact hB.2.1) hB.2.2.2.1 hS1)
theorem e_callv {Q : va_W → Prop} (h : Rn K G nL cn sn pc lv pst st ws mc ms as (QtV G Q)) (hn : pc + 3 = pc') (h1 : cn + mc = cn') (h2 : sn + ms = sn') (kk : ∀ u, Q u → Ev K G nL cn' sn' pc' lv st u) : Ev K G nL cn sn pc lv pst ws := by
  obtain ⟨p, e, R, s, m, args, below, meth, c, Qf⟩ := K
  intro H ls locs hl hP hD hS
  subst hn; subst h1; subst h2
  exact va_callv (h H ls locs hl hP hD hS) hS (fun q _ h => h) (fun q h => h) (fun u t H1 locs1 ht hvm hw hB hz1 hk1 hS1 => kk u hw H1 ls locs1 hl (by rw [← ht]; exact hB.2.1) hB.2.2.2.1 hS1)
theorem e_xcalli {Q : Int32 → va_W → Prop} (h : Rx K G nL cn sn pc lv pst st ws mc ms as (QtI G Q) X) (hn : pc + 3 = pc') (h1 : cn + mc = cn') (h2 : sn + ms = sn') (kx : ∀ E u, X E u → XEv K G nL cn' sn' pc lv st E u) (kk : ∀ r u, Q r u → Ev K G nL cn' sn' pc' lv (.int r :: st) u) : Ev K G nL cn sn pc lv pst ws := by
  obtain ⟨p, e, R, s, m, args, below, meth, c, Qf⟩ := K
  intro H ls locs hl hP hD hS
  subst hn; subst h1; subst h2
  exact vx_calli (h H ls locs hl hP hD hS) hS (fun q _ h => h) (fun q h => h) (fun q _ h => h) (fun E ce q9 u t H1 locs1 ht hvm _ hB hz1 hk1 hS1 h3 h4 h5 => kx E u hB.1 H1 ls locs1 q9 ce hl (by rw [← ht]; exact hB.2.1) hB.2.2 hS1 h3 h4 h5) (fun r u t H1 locs1 ht hvm hw hB hz1 hk1 hS1 => kk r u hw H1 ls locs1 hl (by rw [← ht]; exact hB.2.1) hB.2.2.2.1 hS1)
theorem e_xcallv {Q : va_W → Prop} (h : Rx K G nL cn sn pc lv pst st ws mc ms as (QtV G Q) X) (hn : pc + 3 = pc') (h1 : cn + mc = cn') (h2 : sn + ms = sn') (kx : ∀ E u, X E u → XEv K G nL cn' sn' pc lv st E u) (kk : ∀ u, Q u → Ev K G nL cn' sn' pc' lv st u) : Ev K G nL cn sn pc lv pst ws := by
  obtain ⟨p, e, R, s, m, args, below, meth, c, Qf⟩ := K
  intro H ls locs hl hP hD hS
  subst hn; subst h1; subst h2
  exact vx_callv (h H ls locs hl hP hD hS) hS (fun q _ h => h) (fun q h => h) (fun q _ h => h) (fun E ce q9 u t H1 locs1 ht hvm _ hB hz1 hk1 hS1 h3 h4 h5 => kx E u hB.1 H1 ls locs1 q9 ce hl (by rw [← ht]; exact hB.2.1) hB.2.2 hS1 h3 h4 h5) (fun u t H1 locs1 ht hvm hw hB hz1 hk1 hS1 => kk u hw H1 ls locs1 hl (by rw [← ht]; exact hB.2.1) hB.2.2.2.1 hS1)
theorem e_xcallr {Q : Nat → va_W → Prop} (h : Rx K G nL cn sn pc lv pst st ws mc ms as (QtR G Q) X) (hn : pc + 3 = pc') (h1 : cn + mc = cn') (h2 : sn + ms = sn') (kx : ∀ E u, X E u → XEv K G nL cn' sn' pc lv st E u) (kk : ∀ r u, Q r u → Ev K G nL cn' sn' pc' lv (.ref r :: st) u) : Ev K G nL cn sn pc lv pst ws := by
  obtain ⟨p, e, R, s, m, args, below, meth, c, Qf⟩ := K
  intro H ls locs hl hP hD hS
  subst hn; subst h1; subst h2
  intro T hT X9
  rcases h H ls locs hl hP hD hS T hT X9 with ⟨v, st₀, t, T', L, h0, X', hL, e1, e2, ⟨⟨u, ra, hv, hp, hb, hB⟩, hF⟩, sts⟩ | ⟨q, st₀, t, T', L, E, ce, h0, X', hL, e1, e2, ⟨u, hp, hb, hF⟩, hce, hcv, hcl, sts⟩
  · cases hv
    subst hb
    obtain ⟨k1, k2, k3⟩ := vx_keep h0 e1 hS (fun q _ h => h) (fun q h => h) hL hF
    obtain ⟨t2, a1, b1⟩ := kk u.1 u.2 hp T'.heap ls (locs ++ L) hl (by rw [e1]; exact hB.2.1) hB.2.2.2.1 k3 T' rfl X'
    exact ⟨t2, sts t2 a1, b1⟩
  · obtain ⟨k1, k2, k3⟩ := vx_keep h0 e1 hS (fun q _ h => h) (fun q h => h) hL hF
    obtain ⟨t2, a1, b1⟩ := kx E u hb.1 T'.heap ls (locs ++ L) q ce hl (by rw [e1]; exact hb.2.1) hb.2.2 k3 (by rw [e1]; exact hce) hcv hcl T' rfl X'
    exact ⟨t2, sts.trans a1, b1⟩
end RUN
end
