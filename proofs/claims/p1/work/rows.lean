section
-- ===== PART A: goes FIRST, ahead of the names: the tables' words, and 'selects' of the private methods out of them =====
/-- a private method of a class that the tables say can be made, by its rows of tables_1 -/
def lw_okq (q : MethodName × Nat) : Prop := (q.1.cls ≠ "java/lang/invoke/MethodHandle" ∧ q.1.cls ≠ "java/lang/invoke/VarHandle") ∧ Cond.instantiable q.1.cls q.2 ∈ tables_1 ∧ Cond.privateMethod q.1 ∈ tables_1 ∧ Cond.instanceMethod q.1 ∈ tables_1
theorem lw_p0 : lw_okq (⟨"java/lang/Throwable", "fillInStackTrace", "(I)Ljava/lang/Throwable;"⟩, 6) := ⟨⟨by decide +kernel, by decide +kernel⟩, List.mem_of_getElem? (i := 363) (by decide +kernel), List.mem_of_getElem? (i := 361) (by decide +kernel), List.mem_of_getElem? (i := 362) (by decide +kernel)⟩
theorem lw_p1 : lw_okq (⟨"BundlePair", "noteChange", "()V"⟩, 9) := ⟨⟨by decide +kernel, by decide +kernel⟩, List.mem_of_getElem? (i := 18) (by decide +kernel), List.mem_of_getElem? (i := 413) (by decide +kernel), List.mem_of_getElem? (i := 414) (by decide +kernel)⟩
theorem lw_p2 : lw_okq (⟨"BundlePair", "countMeantAhead", "(LBundlePair$Cable;)I"⟩, 9) := ⟨⟨by decide +kernel, by decide +kernel⟩, List.mem_of_getElem? (i := 18) (by decide +kernel), List.mem_of_getElem? (i := 432) (by decide +kernel), List.mem_of_getElem? (i := 433) (by decide +kernel)⟩
theorem lw_p3 : lw_okq (⟨"BundlePair", "strongerEnd", "()I"⟩, 9) := ⟨⟨by decide +kernel, by decide +kernel⟩, List.mem_of_getElem? (i := 18) (by decide +kernel), List.mem_of_getElem? (i := 436) (by decide +kernel), List.mem_of_getElem? (i := 437) (by decide +kernel)⟩
theorem lw_p4 : lw_okq (⟨"BundlePair", "takeOut", "(LBundlePair$Cable;)V"⟩, 9) := ⟨⟨by decide +kernel, by decide +kernel⟩, List.mem_of_getElem? (i := 18) (by decide +kernel), List.mem_of_getElem? (i := 495) (by decide +kernel), List.mem_of_getElem? (i := 496) (by decide +kernel)⟩
theorem lw_p5 : lw_okq (⟨"BundlePair", "switchOff", "(LBundlePair$Cable;)V"⟩, 9) := ⟨⟨by decide +kernel, by decide +kernel⟩, List.mem_of_getElem? (i := 18) (by decide +kernel), List.mem_of_getElem? (i := 500) (by decide +kernel), List.mem_of_getElem? (i := 501) (by decide +kernel)⟩
theorem lw_p6 : lw_okq (⟨"BundlePair", "putIn", "(IILBundlePair$Port;)V"⟩, 9) := ⟨⟨by decide +kernel, by decide +kernel⟩, List.mem_of_getElem? (i := 18) (by decide +kernel), List.mem_of_getElem? (i := 525) (by decide +kernel), List.mem_of_getElem? (i := 526) (by decide +kernel)⟩
theorem lw_p7 : lw_okq (⟨"BundlePair", "switchOn", "(LBundlePair$Cable;)V"⟩, 9) := ⟨⟨by decide +kernel, by decide +kernel⟩, List.mem_of_getElem? (i := 18) (by decide +kernel), List.mem_of_getElem? (i := 529) (by decide +kernel), List.mem_of_getElem? (i := 530) (by decide +kernel)⟩
theorem lw_p8 : lw_okq (⟨"BundlePair", "runTick", "()V"⟩, 9) := ⟨⟨by decide +kernel, by decide +kernel⟩, List.mem_of_getElem? (i := 18) (by decide +kernel), List.mem_of_getElem? (i := 570) (by decide +kernel), List.mem_of_getElem? (i := 571) (by decide +kernel)⟩
theorem lw_p9 : lw_okq (⟨"BundlePair", "bringAll", "()V"⟩, 9) := ⟨⟨by decide +kernel, by decide +kernel⟩, List.mem_of_getElem? (i := 18) (by decide +kernel), List.mem_of_getElem? (i := 574) (by decide +kernel), List.mem_of_getElem? (i := 575) (by decide +kernel)⟩
theorem lw_p10 : lw_okq (⟨"BundlePair", "bringNotes", "(LBundlePair$Lane;LBundlePair$Port;)V"⟩, 9) := ⟨⟨by decide +kernel, by decide +kernel⟩, List.mem_of_getElem? (i := 18) (by decide +kernel), List.mem_of_getElem? (i := 578) (by decide +kernel), List.mem_of_getElem? (i := 579) (by decide +kernel)⟩
theorem lw_p11 : lw_okq (⟨"BundlePair", "bringFrames", "(LBundlePair$Lane;LBundlePair$Port;I)V"⟩, 9) := ⟨⟨by decide +kernel, by decide +kernel⟩, List.mem_of_getElem? (i := 18) (by decide +kernel), List.mem_of_getElem? (i := 604) (by decide +kernel), List.mem_of_getElem? (i := 605) (by decide +kernel)⟩
theorem lw_p12 : lw_okq (⟨"BundlePair", "receive", "(LBundlePair$Frame;LBundlePair$Port;I)V"⟩, 9) := ⟨⟨by decide +kernel, by decide +kernel⟩, List.mem_of_getElem? (i := 18) (by decide +kernel), List.mem_of_getElem? (i := 613) (by decide +kernel), List.mem_of_getElem? (i := 614) (by decide +kernel)⟩
theorem lw_p13 : lw_okq (⟨"BundlePair", "ageAll", "()V"⟩, 9) := ⟨⟨by decide +kernel, by decide +kernel⟩, List.mem_of_getElem? (i := 18) (by decide +kernel), List.mem_of_getElem? (i := 630) (by decide +kernel), List.mem_of_getElem? (i := 631) (by decide +kernel)⟩
theorem lw_p14 : lw_okq (⟨"BundlePair", "stepAll", "()V"⟩, 9) := ⟨⟨by decide +kernel, by decide +kernel⟩, List.mem_of_getElem? (i := 18) (by decide +kernel), List.mem_of_getElem? (i := 659) (by decide +kernel), List.mem_of_getElem? (i := 660) (by decide +kernel)⟩
theorem lw_p15 : lw_okq (⟨"BundlePair", "tellAll", "()Z"⟩, 9) := ⟨⟨by decide +kernel, by decide +kernel⟩, List.mem_of_getElem? (i := 18) (by decide +kernel), List.mem_of_getElem? (i := 679) (by decide +kernel), List.mem_of_getElem? (i := 680) (by decide +kernel)⟩
def lw_privs_1 : List (MethodName × Nat) := [(⟨"java/lang/Throwable", "fillInStackTrace", "(I)Ljava/lang/Throwable;"⟩, 6), (⟨"BundlePair", "noteChange", "()V"⟩, 9), (⟨"BundlePair", "countMeantAhead", "(LBundlePair$Cable;)I"⟩, 9), (⟨"BundlePair", "strongerEnd", "()I"⟩, 9), (⟨"BundlePair", "takeOut", "(LBundlePair$Cable;)V"⟩, 9), (⟨"BundlePair", "switchOff", "(LBundlePair$Cable;)V"⟩, 9), (⟨"BundlePair", "putIn", "(IILBundlePair$Port;)V"⟩, 9), (⟨"BundlePair", "switchOn", "(LBundlePair$Cable;)V"⟩, 9), (⟨"BundlePair", "runTick", "()V"⟩, 9), (⟨"BundlePair", "bringAll", "()V"⟩, 9), (⟨"BundlePair", "bringNotes", "(LBundlePair$Lane;LBundlePair$Port;)V"⟩, 9), (⟨"BundlePair", "bringFrames", "(LBundlePair$Lane;LBundlePair$Port;I)V"⟩, 9), (⟨"BundlePair", "receive", "(LBundlePair$Frame;LBundlePair$Port;I)V"⟩, 9), (⟨"BundlePair", "ageAll", "()V"⟩, 9), (⟨"BundlePair", "stepAll", "()V"⟩, 9), (⟨"BundlePair", "tellAll", "()Z"⟩, 9)]
theorem lw_r1 : ∀ q ∈ lw_privs_1, lw_okq q := List.forall_mem_cons.mpr ⟨lw_p0, List.forall_mem_cons.mpr ⟨lw_p1, List.forall_mem_cons.mpr ⟨lw_p2, List.forall_mem_cons.mpr ⟨lw_p3, List.forall_mem_cons.mpr ⟨lw_p4, List.forall_mem_cons.mpr ⟨lw_p5, List.forall_mem_cons.mpr ⟨lw_p6, List.forall_mem_cons.mpr ⟨lw_p7, List.forall_mem_cons.mpr ⟨lw_p8, List.forall_mem_cons.mpr ⟨lw_p9, List.forall_mem_cons.mpr ⟨lw_p10, List.forall_mem_cons.mpr ⟨lw_p11, List.forall_mem_cons.mpr ⟨lw_p12, List.forall_mem_cons.mpr ⟨lw_p13, List.forall_mem_cons.mpr ⟨lw_p14, List.forall_mem_cons.mpr ⟨lw_p15, fun _ h => absurd h List.not_mem_nil⟩⟩⟩⟩⟩⟩⟩⟩⟩⟩⟩⟩⟩⟩⟩⟩
theorem lw_p16 : lw_okq (⟨"BundlePair", "tellFrom", "(ILBundlePair$Port;)Z"⟩, 9) := ⟨⟨by decide +kernel, by decide +kernel⟩, List.mem_of_getElem? (i := 18) (by decide +kernel), List.mem_of_getElem? (i := 688) (by decide +kernel), List.mem_of_getElem? (i := 689) (by decide +kernel)⟩
theorem lw_p17 : lw_okq (⟨"BundlePair", "isSettled", "()Z"⟩, 9) := ⟨⟨by decide +kernel, by decide +kernel⟩, List.mem_of_getElem? (i := 18) (by decide +kernel), List.mem_of_getElem? (i := 701) (by decide +kernel), List.mem_of_getElem? (i := 702) (by decide +kernel)⟩
theorem lw_p18 : lw_okq (⟨"BundlePairModel", "isNotQuiet", "()V"⟩, 51) := ⟨⟨by decide +kernel, by decide +kernel⟩, List.mem_of_getElem? (i := 809) (by decide +kernel), List.mem_of_getElem? (i := 983) (by decide +kernel), List.mem_of_getElem? (i := 984) (by decide +kernel)⟩
theorem lw_p19 : lw_okq (⟨"BundlePairModel", "isAnother", "(II)Z"⟩, 51) := ⟨⟨by decide +kernel, by decide +kernel⟩, List.mem_of_getElem? (i := 809) (by decide +kernel), List.mem_of_getElem? (i := 1010) (by decide +kernel), List.mem_of_getElem? (i := 1011) (by decide +kernel)⟩
theorem lw_p20 : lw_okq (⟨"BundlePairModel", "isPulled", "(I)V"⟩, 51) := ⟨⟨by decide +kernel, by decide +kernel⟩, List.mem_of_getElem? (i := 809) (by decide +kernel), List.mem_of_getElem? (i := 1014) (by decide +kernel), List.mem_of_getElem? (i := 1015) (by decide +kernel)⟩
theorem lw_p21 : lw_okq (⟨"BundlePairModel", "isCut", "(I)V"⟩, 51) := ⟨⟨by decide +kernel, by decide +kernel⟩, List.mem_of_getElem? (i := 809) (by decide +kernel), List.mem_of_getElem? (i := 1018) (by decide +kernel), List.mem_of_getElem? (i := 1019) (by decide +kernel)⟩
theorem lw_p22 : lw_okq (⟨"BundlePairModel", "empties", "(I)V"⟩, 51) := ⟨⟨by decide +kernel, by decide +kernel⟩, List.mem_of_getElem? (i := 809) (by decide +kernel), List.mem_of_getElem? (i := 1022) (by decide +kernel), List.mem_of_getElem? (i := 1023) (by decide +kernel)⟩
theorem lw_p23 : lw_okq (⟨"BundlePairModel", "moves", "(II)V"⟩, 51) := ⟨⟨by decide +kernel, by decide +kernel⟩, List.mem_of_getElem? (i := 809) (by decide +kernel), List.mem_of_getElem? (i := 1026) (by decide +kernel), List.mem_of_getElem? (i := 1027) (by decide +kernel)⟩
theorem lw_p24 : lw_okq (⟨"BundlePairModel", "portAt", "(II)I"⟩, 51) := ⟨⟨by decide +kernel, by decide +kernel⟩, List.mem_of_getElem? (i := 809) (by decide +kernel), List.mem_of_getElem? (i := 1030) (by decide +kernel), List.mem_of_getElem? (i := 1031) (by decide +kernel)⟩
theorem lw_p25 : lw_okq (⟨"BundlePairModel", "isDarkNow", "(I)V"⟩, 51) := ⟨⟨by decide +kernel, by decide +kernel⟩, List.mem_of_getElem? (i := 809) (by decide +kernel), List.mem_of_getElem? (i := 1034) (by decide +kernel), List.mem_of_getElem? (i := 1035) (by decide +kernel)⟩
theorem lw_p26 : lw_okq (⟨"BundlePairModel", "goesTo", "(II)V"⟩, 51) := ⟨⟨by decide +kernel, by decide +kernel⟩, List.mem_of_getElem? (i := 809) (by decide +kernel), List.mem_of_getElem? (i := 1038) (by decide +kernel), List.mem_of_getElem? (i := 1039) (by decide +kernel)⟩
theorem lw_p27 : lw_okq (⟨"BundlePairModel", "forgets", "(I)V"⟩, 51) := ⟨⟨by decide +kernel, by decide +kernel⟩, List.mem_of_getElem? (i := 809) (by decide +kernel), List.mem_of_getElem? (i := 1042) (by decide +kernel), List.mem_of_getElem? (i := 1043) (by decide +kernel)⟩
theorem lw_p28 : lw_okq (⟨"BundlePairModel", "isUp", "(I)V"⟩, 51) := ⟨⟨by decide +kernel, by decide +kernel⟩, List.mem_of_getElem? (i := 809) (by decide +kernel), List.mem_of_getElem? (i := 1046) (by decide +kernel), List.mem_of_getElem? (i := 1047) (by decide +kernel)⟩
theorem lw_p29 : lw_okq (⟨"BundlePairModel", "isLitNow", "(I)V"⟩, 51) := ⟨⟨by decide +kernel, by decide +kernel⟩, List.mem_of_getElem? (i := 809) (by decide +kernel), List.mem_of_getElem? (i := 1050) (by decide +kernel), List.mem_of_getElem? (i := 1051) (by decide +kernel)⟩
theorem lw_p30 : lw_okq (⟨"BundlePairModel", "partnerStops", "(I)V"⟩, 51) := ⟨⟨by decide +kernel, by decide +kernel⟩, List.mem_of_getElem? (i := 809) (by decide +kernel), List.mem_of_getElem? (i := 1054) (by decide +kernel), List.mem_of_getElem? (i := 1055) (by decide +kernel)⟩
theorem lw_p31 : lw_okq (⟨"BundlePairModel", "tick", "()I"⟩, 51) := ⟨⟨by decide +kernel, by decide +kernel⟩, List.mem_of_getElem? (i := 809) (by decide +kernel), List.mem_of_getElem? (i := 1074) (by decide +kernel), List.mem_of_getElem? (i := 1075) (by decide +kernel)⟩
def lw_privs_2 : List (MethodName × Nat) := [(⟨"BundlePair", "tellFrom", "(ILBundlePair$Port;)Z"⟩, 9), (⟨"BundlePair", "isSettled", "()Z"⟩, 9), (⟨"BundlePairModel", "isNotQuiet", "()V"⟩, 51), (⟨"BundlePairModel", "isAnother", "(II)Z"⟩, 51), (⟨"BundlePairModel", "isPulled", "(I)V"⟩, 51), (⟨"BundlePairModel", "isCut", "(I)V"⟩, 51), (⟨"BundlePairModel", "empties", "(I)V"⟩, 51), (⟨"BundlePairModel", "moves", "(II)V"⟩, 51), (⟨"BundlePairModel", "portAt", "(II)I"⟩, 51), (⟨"BundlePairModel", "isDarkNow", "(I)V"⟩, 51), (⟨"BundlePairModel", "goesTo", "(II)V"⟩, 51), (⟨"BundlePairModel", "forgets", "(I)V"⟩, 51), (⟨"BundlePairModel", "isUp", "(I)V"⟩, 51), (⟨"BundlePairModel", "isLitNow", "(I)V"⟩, 51), (⟨"BundlePairModel", "partnerStops", "(I)V"⟩, 51), (⟨"BundlePairModel", "tick", "()I"⟩, 51)]
theorem lw_r2 : ∀ q ∈ lw_privs_2, lw_okq q := List.forall_mem_cons.mpr ⟨lw_p16, List.forall_mem_cons.mpr ⟨lw_p17, List.forall_mem_cons.mpr ⟨lw_p18, List.forall_mem_cons.mpr ⟨lw_p19, List.forall_mem_cons.mpr ⟨lw_p20, List.forall_mem_cons.mpr ⟨lw_p21, List.forall_mem_cons.mpr ⟨lw_p22, List.forall_mem_cons.mpr ⟨lw_p23, List.forall_mem_cons.mpr ⟨lw_p24, List.forall_mem_cons.mpr ⟨lw_p25, List.forall_mem_cons.mpr ⟨lw_p26, List.forall_mem_cons.mpr ⟨lw_p27, List.forall_mem_cons.mpr ⟨lw_p28, List.forall_mem_cons.mpr ⟨lw_p29, List.forall_mem_cons.mpr ⟨lw_p30, List.forall_mem_cons.mpr ⟨lw_p31, fun _ h => absurd h List.not_mem_nil⟩⟩⟩⟩⟩⟩⟩⟩⟩⟩⟩⟩⟩⟩⟩⟩
theorem lw_p32 : lw_okq (⟨"BundlePairModel", "comes", "()I"⟩, 51) := ⟨⟨by decide +kernel, by decide +kernel⟩, List.mem_of_getElem? (i := 809) (by decide +kernel), List.mem_of_getElem? (i := 1078) (by decide +kernel), List.mem_of_getElem? (i := 1079) (by decide +kernel)⟩
theorem lw_p33 : lw_okq (⟨"BundlePairModel", "frameComes", "(II)V"⟩, 51) := ⟨⟨by decide +kernel, by decide +kernel⟩, List.mem_of_getElem? (i := 809) (by decide +kernel), List.mem_of_getElem? (i := 1082) (by decide +kernel), List.mem_of_getElem? (i := 1083) (by decide +kernel)⟩
theorem lw_p34 : lw_okq (⟨"BundlePairModel", "noteComes", "(II)V"⟩, 51) := ⟨⟨by decide +kernel, by decide +kernel⟩, List.mem_of_getElem? (i := 809) (by decide +kernel), List.mem_of_getElem? (i := 1086) (by decide +kernel), List.mem_of_getElem? (i := 1087) (by decide +kernel)⟩
theorem lw_p35 : lw_okq (⟨"BundlePairModel", "own", "(II)I"⟩, 51) := ⟨⟨by decide +kernel, by decide +kernel⟩, List.mem_of_getElem? (i := 809) (by decide +kernel), List.mem_of_getElem? (i := 1090) (by decide +kernel), List.mem_of_getElem? (i := 1091) (by decide +kernel)⟩
theorem lw_p36 : lw_okq (⟨"BundlePairModel", "bits", "(I)I"⟩, 51) := ⟨⟨by decide +kernel, by decide +kernel⟩, List.mem_of_getElem? (i := 809) (by decide +kernel), List.mem_of_getElem? (i := 1094) (by decide +kernel), List.mem_of_getElem? (i := 1095) (by decide +kernel)⟩
theorem lw_p37 : lw_okq (⟨"BundlePairModel", "ages", "(I)V"⟩, 51) := ⟨⟨by decide +kernel, by decide +kernel⟩, List.mem_of_getElem? (i := 809) (by decide +kernel), List.mem_of_getElem? (i := 1098) (by decide +kernel), List.mem_of_getElem? (i := 1099) (by decide +kernel)⟩
theorem lw_p38 : lw_okq (⟨"BundlePairModel", "chooses", "(I)V"⟩, 51) := ⟨⟨by decide +kernel, by decide +kernel⟩, List.mem_of_getElem? (i := 809) (by decide +kernel), List.mem_of_getElem? (i := 1102) (by decide +kernel), List.mem_of_getElem? (i := 1103) (by decide +kernel)⟩
theorem lw_p39 : lw_okq (⟨"BundlePairModel", "fits", "(I)Z"⟩, 51) := ⟨⟨by decide +kernel, by decide +kernel⟩, List.mem_of_getElem? (i := 809) (by decide +kernel), List.mem_of_getElem? (i := 1106) (by decide +kernel), List.mem_of_getElem? (i := 1107) (by decide +kernel)⟩
theorem lw_p40 : lw_okq (⟨"BundlePairModel", "isPartner", "(II)Z"⟩, 51) := ⟨⟨by decide +kernel, by decide +kernel⟩, List.mem_of_getElem? (i := 809) (by decide +kernel), List.mem_of_getElem? (i := 1110) (by decide +kernel), List.mem_of_getElem? (i := 1111) (by decide +kernel)⟩
theorem lw_p41 : lw_okq (⟨"BundlePairModel", "areLike", "(II)Z"⟩, 51) := ⟨⟨by decide +kernel, by decide +kernel⟩, List.mem_of_getElem? (i := 809) (by decide +kernel), List.mem_of_getElem? (i := 1114) (by decide +kernel), List.mem_of_getElem? (i := 1115) (by decide +kernel)⟩
theorem lw_p42 : lw_okq (⟨"BundlePairModel", "isAhead", "(II)Z"⟩, 51) := ⟨⟨by decide +kernel, by decide +kernel⟩, List.mem_of_getElem? (i := 809) (by decide +kernel), List.mem_of_getElem? (i := 1118) (by decide +kernel), List.mem_of_getElem? (i := 1119) (by decide +kernel)⟩
theorem lw_p43 : lw_okq (⟨"BundlePairModel", "stronger", "()I"⟩, 51) := ⟨⟨by decide +kernel, by decide +kernel⟩, List.mem_of_getElem? (i := 809) (by decide +kernel), List.mem_of_getElem? (i := 1122) (by decide +kernel), List.mem_of_getElem? (i := 1123) (by decide +kernel)⟩
theorem lw_p44 : lw_okq (⟨"BundlePairModel", "steps", "(I)V"⟩, 51) := ⟨⟨by decide +kernel, by decide +kernel⟩, List.mem_of_getElem? (i := 809) (by decide +kernel), List.mem_of_getElem? (i := 1126) (by decide +kernel), List.mem_of_getElem? (i := 1127) (by decide +kernel)⟩
theorem lw_p45 : lw_okq (⟨"BundlePairModel", "isLit", "(I)Z"⟩, 51) := ⟨⟨by decide +kernel, by decide +kernel⟩, List.mem_of_getElem? (i := 809) (by decide +kernel), List.mem_of_getElem? (i := 1130) (by decide +kernel), List.mem_of_getElem? (i := 1131) (by decide +kernel)⟩
theorem lw_p46 : lw_okq (⟨"BundlePairModel", "isOther", "(I)Z"⟩, 51) := ⟨⟨by decide +kernel, by decide +kernel⟩, List.mem_of_getElem? (i := 809) (by decide +kernel), List.mem_of_getElem? (i := 1134) (by decide +kernel), List.mem_of_getElem? (i := 1135) (by decide +kernel)⟩
theorem lw_p47 : lw_okq (⟨"BundlePairModel", "puts", "(I)V"⟩, 51) := ⟨⟨by decide +kernel, by decide +kernel⟩, List.mem_of_getElem? (i := 809) (by decide +kernel), List.mem_of_getElem? (i := 1138) (by decide +kernel), List.mem_of_getElem? (i := 1139) (by decide +kernel)⟩
def lw_privs_3 : List (MethodName × Nat) := [(⟨"BundlePairModel", "comes", "()I"⟩, 51), (⟨"BundlePairModel", "frameComes", "(II)V"⟩, 51), (⟨"BundlePairModel", "noteComes", "(II)V"⟩, 51), (⟨"BundlePairModel", "own", "(II)I"⟩, 51), (⟨"BundlePairModel", "bits", "(I)I"⟩, 51), (⟨"BundlePairModel", "ages", "(I)V"⟩, 51), (⟨"BundlePairModel", "chooses", "(I)V"⟩, 51), (⟨"BundlePairModel", "fits", "(I)Z"⟩, 51), (⟨"BundlePairModel", "isPartner", "(II)Z"⟩, 51), (⟨"BundlePairModel", "areLike", "(II)Z"⟩, 51), (⟨"BundlePairModel", "isAhead", "(II)Z"⟩, 51), (⟨"BundlePairModel", "stronger", "()I"⟩, 51), (⟨"BundlePairModel", "steps", "(I)V"⟩, 51), (⟨"BundlePairModel", "isLit", "(I)Z"⟩, 51), (⟨"BundlePairModel", "isOther", "(I)Z"⟩, 51), (⟨"BundlePairModel", "puts", "(I)V"⟩, 51)]
theorem lw_r3 : ∀ q ∈ lw_privs_3, lw_okq q := List.forall_mem_cons.mpr ⟨lw_p32, List.forall_mem_cons.mpr ⟨lw_p33, List.forall_mem_cons.mpr ⟨lw_p34, List.forall_mem_cons.mpr ⟨lw_p35, List.forall_mem_cons.mpr ⟨lw_p36, List.forall_mem_cons.mpr ⟨lw_p37, List.forall_mem_cons.mpr ⟨lw_p38, List.forall_mem_cons.mpr ⟨lw_p39, List.forall_mem_cons.mpr ⟨lw_p40, List.forall_mem_cons.mpr ⟨lw_p41, List.forall_mem_cons.mpr ⟨lw_p42, List.forall_mem_cons.mpr ⟨lw_p43, List.forall_mem_cons.mpr ⟨lw_p44, List.forall_mem_cons.mpr ⟨lw_p45, List.forall_mem_cons.mpr ⟨lw_p46, List.forall_mem_cons.mpr ⟨lw_p47, fun _ h => absurd h List.not_mem_nil⟩⟩⟩⟩⟩⟩⟩⟩⟩⟩⟩⟩⟩⟩⟩⟩
theorem lw_p48 : lw_okq (⟨"BundlePairModel", "isTold", "(I)Z"⟩, 51) := ⟨⟨by decide +kernel, by decide +kernel⟩, List.mem_of_getElem? (i := 809) (by decide +kernel), List.mem_of_getElem? (i := 1142) (by decide +kernel), List.mem_of_getElem? (i := 1143) (by decide +kernel)⟩
theorem lw_p49 : lw_okq (⟨"BundlePairModel", "comesOn", "(III)V"⟩, 51) := ⟨⟨by decide +kernel, by decide +kernel⟩, List.mem_of_getElem? (i := 809) (by decide +kernel), List.mem_of_getElem? (i := 1146) (by decide +kernel), List.mem_of_getElem? (i := 1147) (by decide +kernel)⟩
theorem lw_p50 : lw_okq (⟨"BundlePairModel", "isAsMeant", "()Z"⟩, 51) := ⟨⟨by decide +kernel, by decide +kernel⟩, List.mem_of_getElem? (i := 809) (by decide +kernel), List.mem_of_getElem? (i := 1150) (by decide +kernel), List.mem_of_getElem? (i := 1151) (by decide +kernel)⟩
theorem lw_p51 : lw_okq (⟨"BundlePairModel", "isMeant", "(I)Z"⟩, 51) := ⟨⟨by decide +kernel, by decide +kernel⟩, List.mem_of_getElem? (i := 809) (by decide +kernel), List.mem_of_getElem? (i := 1154) (by decide +kernel), List.mem_of_getElem? (i := 1155) (by decide +kernel)⟩
theorem lw_p52 : lw_okq (⟨"BundlePairModel", "agrees", "(I)Z"⟩, 51) := ⟨⟨by decide +kernel, by decide +kernel⟩, List.mem_of_getElem? (i := 809) (by decide +kernel), List.mem_of_getElem? (i := 1158) (by decide +kernel), List.mem_of_getElem? (i := 1159) (by decide +kernel)⟩
theorem lw_p53 : lw_okq (⟨"BundlePairModel", "on", "(IIZ)I"⟩, 51) := ⟨⟨by decide +kernel, by decide +kernel⟩, List.mem_of_getElem? (i := 809) (by decide +kernel), List.mem_of_getElem? (i := 1167) (by decide +kernel), List.mem_of_getElem? (i := 1168) (by decide +kernel)⟩
def lw_privs_4 : List (MethodName × Nat) := [(⟨"BundlePairModel", "isTold", "(I)Z"⟩, 51), (⟨"BundlePairModel", "comesOn", "(III)V"⟩, 51), (⟨"BundlePairModel", "isAsMeant", "()Z"⟩, 51), (⟨"BundlePairModel", "isMeant", "(I)Z"⟩, 51), (⟨"BundlePairModel", "agrees", "(I)Z"⟩, 51), (⟨"BundlePairModel", "on", "(IIZ)I"⟩, 51)]
theorem lw_r4 : ∀ q ∈ lw_privs_4, lw_okq q := List.forall_mem_cons.mpr ⟨lw_p48, List.forall_mem_cons.mpr ⟨lw_p49, List.forall_mem_cons.mpr ⟨lw_p50, List.forall_mem_cons.mpr ⟨lw_p51, List.forall_mem_cons.mpr ⟨lw_p52, List.forall_mem_cons.mpr ⟨lw_p53, fun _ h => absurd h List.not_mem_nil⟩⟩⟩⟩⟩⟩
def lw_privs : List (MethodName × Nat) := lw_privs_1 ++ (lw_privs_2 ++ (lw_privs_3 ++ (lw_privs_4)))
def lw_tbl : List Cond := k2_sels lw_privs ++ tables_1
theorem lw_privs_ok : ∀ q ∈ lw_privs, lw_okq q := by
  show ∀ q ∈ lw_privs_1 ++ (lw_privs_2 ++ (lw_privs_3 ++ (lw_privs_4))), lw_okq q
  exact List.forall_mem_append.mpr ⟨lw_r1, List.forall_mem_append.mpr ⟨lw_r2, List.forall_mem_append.mpr ⟨lw_r3, lw_r4⟩⟩⟩
-- ===== end of PART A; then your names; then what follows =====
end
section
/-! ===== BEGIN words of one list among another's, by their places ===== -/
theorem goodIn_r {big : List Cond} (ws : List Cond) (ps : List Nat) (hp : ws = ps.filterMap (fun i => big[i]?)) (h : ws.all goodWord = true) : GoodIn big ws := by
  intro w hw
  have h1 := List.all_eq_true.mp h w hw
  rw [hp] at hw
  obtain ⟨i, -, hi⟩ := List.mem_filterMap.mp hw
  have hm : w ∈ big := by first | exact List.mem_of_getElem? hi | exact List.getElem?_mem hi
  exact ⟨hm, good_of_word h1⟩
theorem goodIn_app {big a b : List Cond} (ha : GoodIn big a) (hb : GoodIn big b) : GoodIn big (a ++ b) := fun w h => (List.mem_append.mp h).elim (ha w) (hb w)
theorem goodIn_ca {big a b : List Cond} {c : Cond} (ha : GoodIn big (c :: a)) (hb : GoodIn big b) : GoodIn big (c :: (a ++ b)) := fun w h => (List.mem_cons.mp h).elim (fun e => ha w (List.mem_cons.mpr (Or.inl e))) (fun h => (List.mem_append.mp h).elim (fun h => ha w (List.mem_cons.mpr (Or.inr h))) (hb w))
theorem goodIn_sub {big ws : List Cond} (hm : ∀ w ∈ ws, w ∈ big) (h : ws.all goodWord = true) : GoodIn big ws := fun w hw => ⟨hm w hw, good_of_word (List.all_eq_true.mp h w hw)⟩
/-! ===== END ===== -/

/-! ===== BEGIN exceptions that leave a method, and their catching by the caller (launches without stack traces) ===== -/
section VXA
/-! The laws vx_back, vx_callV, vx_callS, vx_callSW, vx_throw0, vx_throwS follow proofs of the library, with one case more: JvmDerived/Free/Laws.lean (Back.of_free), Shelf42/LK1.lean (callV, callS), Shelf/KitTraced.lean (throwNew0V, throwNewS). -/
/-- where a method has thrown q: the class by its name, the cell, what was written, the world -/
def vx_T (XC : String → State → State → Prop) (st : State) (q : Addr) (t : State) (mc ms : Nat) (free : Addr → Prop) : Prop :=
  ∃ (E : String) (ce : Cell) (L : List Loc), XC E st t ∧ t.heap[q]? = some ce ∧ ce.vm = .none ∧ st.vm.findClass E = some ce.cls ∧ st.WarmedH t.vm ∧ st.sameButNew ({ t with vm := st.vm } : State) L mc ms ∧ ∀ z ∈ L, free z.base
def vx_Q (Qc : Array Value → State → Outcome → State → Prop) (XC : String → State → State → Prop) (mc ms : Nat) (free : Addr → Prop) : Array Value → State → Outcome → State → Prop := fun a st o t =>
  (Qc a st o t ∧ ∃ L, FrameEnd st o t L mc ms ∧ ∀ q ∈ L, free q.base) ∨ ∃ q, o = .threw q ∧ vx_T XC st q t mc ms free
/-- a callee that returns or throws -/
def vx_Met (l : Launch) (y : MethodName) (ws : List Cond) (rm : Room) (Pc : Array Value → State → Prop) (Qc : Array Value → State → Outcome → State → Prop) (XC : String → State → State → Prop) (mc ms : Nat) (free : Addr → Prop) : Prop :=
  MetFree l y (headSpec ws rm) Pc (fun _ _ _ _ _ => True) (vx_Q Qc XC mc ms free)
def vx_Post (XC : String → State → State → Prop) (mc ms : Nat) (free : Addr → Prop) : Pt → Array Value → Addr → Pt → Prop := fun A a q B =>
  ∃ (g : JFrame) (mk : MethodId) (t : State) (L : List Loc) (E : String) (ce : Cell), B.U.heap = t.heap ∧ B.U.vm = t.vm ∧ XC E (A.U.calling g mk a) t ∧ t.heap[q]? = some ce ∧ ce.vm = .none ∧ A.U.vm.findClass E = some ce.cls ∧ B.locs = A.locs ++ L ∧ (∀ z ∈ L, free z.base) ∧ B.cells = A.cells + mc ∧ B.slots = A.slots + ms
def vx_Back (l : Launch) (R : Room) (p : Program) (e : Env) (below : List Frame) (s : State) (sargs : Array Value) (y : MethodName) (len W9 : Nat)
    (Pre : Pt → Array Value → Prop) (Post : Pt → Array Value → Option Value → Pt → Prop) (PostX : Pt → Array Value → Addr → Pt → Prop) : Prop :=
  ∀ (m : MethodId) (meth : Method) (c : Code) (A : Pt) (g : JFrame) (ig : Instr) (mk : MethodId) (a : Array Value),
    Stand p l e R s m sargs below meth c A.U A.locs A.cells A.slots → g.method = m → g.locals.size = c.maxLocals → decode c.code g.pc = .ok (ig, len) →
    2 * g.monitorRoom + (g.stack.map fun v => v.category).sum ≤ W9 → A.U.methodNamed? y = some mk → Pre A a →
    (∃ (v : Option Value) (B : Pt), Stand p l e R s m sargs below meth c B.U B.locs B.cells B.slots ∧ Post A a v B ∧
      Steps p.tables e below (doInvoke e (A.U.setTop g) [] mk a).1 (B.U.setTop { g with pc := g.pc + len, stack := v.toList ++ g.stack })) ∨
    (∃ (q : Addr) (B : Pt), Stand p l e R s m sargs below meth c B.U B.locs B.cells B.slots ∧ PostX A a q B ∧
      Steps p.tables e below (doInvoke e (A.U.setTop g) [] mk a).1 ((B.U.setTop g).pushFrame (.throwing q)))
section Payer
variable {l : Launch} {R : Room} {p : Program} {e : Env} {below : List Frame} {s : State} {sargs : Array Value} {y : MethodName} {len W9 : Nat}
theorem vx_back {ws : List Cond} {rm : Room} {Pc : Array Value → State → Prop} {Qc : Array Value → State → Outcome → State → Prop} {XC : String → State → State → Prop} {mc ms : Nat} {free : Addr → Prop} {bytes : ByteArray} {maxL : Nat} {ret : Option FieldType}
    (hM : vx_Met l y ws rm Pc Qc XC mc ms free) (hblind : FrameBlind Pc) (hrc : rm.cells = mc) (hrs : rm.slots = ms)
    (hframes : rm.frames + 1 ≤ R.frames) (hlocals : W9 + (maxL + 11) + rm.locals ≤ R.locals)
    (hws : ∀ w ∈ ws, ∀ a' U, s.WarmedH U.vm → w.before a' U = true) (hcode : Cond.code y bytes maxL ret ∈ ws) (hinit : ∀ a' U, s.WarmedH U.vm → (Cond.initialized y.cls).before a' U = true) :
    vx_Back l R p e below s sargs y len W9 (PreOf R mc ms Pc) (PostOf Qc mc ms free) (vx_Post XC mc ms free) := by
  intro m meth c A g ig mk a X hg hsize hdg hW hn hp
  have h1 : (headSpec ws rm).pre.before a A.U = true := atoms_intro fun w hw => hws w hw _ _ X.warmed
  have h2 : (Cond.code y bytes maxL ret).before a A.U = true := hws _ hcode _ _ X.warmed
  have h3 : (Cond.initialized y.cls).before a A.U = true := hinit _ _ X.warmed
  have h4 : A.cells + (headSpec ws rm).room.cells ≤ R.cells := by rw [show (headSpec ws rm).room.cells = mc from hrc]; exact hp.1
  have h5 : A.slots + (headSpec ws rm).room.slots ≤ R.slots := by rw [show (headSpec ws rm).room.slots = ms from hrs]; exact hp.2.1
  have hPc : Pc a (A.U.calling g mk a) := hblind _ _ _ _ hp.2.2
  obtain ⟨U, Ls, c0, s0⟩ := A
  dsimp only [Pt.U, Pt.locs, Pt.cells, Pt.slots] at h1 h2 h3 h4 h5 X hn hPc ⊢
  obtain ⟨methY, cY, hmY, hcY, -, hlY, -, -, -, -⟩ := Cond.code_spec hn h2
  obtain ⟨kY, hkY, -⟩ := className_of_methodNamed hn
  have hinitY : kY.init = .initialized := Cond.initialized_spec (findClass_of_methodNamed hn) hkY h3
  have h : At U g.method c below := by rw [hg]; exact X.here
  have hlocals9 : W9 + (maxL + 11) + (headSpec ws rm).room.locals ≤ R.locals := hlocals
  have happ : (headSpec ws rm).appliesLoose y e.platform (U.calling g mk a) = true :=
    Spec.appliesLoose_calling (g := g) h hdg hn hkY hinitY
      (X.room_calling (g := g) (R' := (headSpec ws rm).room) hsize hmY hcY hframes (by rw [hlY]; omega) h4 h5) h1
  obtain ⟨mid, hmid⟩ := h.above
  have hfr : (U.setTop g).frames = (.java g :: mid) ++ below := by rw [State.frames_setTop' g h.top, hmid]; rfl
  obtain ⟨o, s₂, hsteps, -, hend, hq⟩ := Steps.callFree hM p X.admits X.cas X.clock (acts := []) hfr happ hPc trivial
  have hq' : vx_Q Qc XC mc ms free a (U.calling g mk a) o s₂ := hq
  rw [State.frames_setTop' g h.top] at hend
  obtain ⟨g₀, hg0⟩ := Option.isSome_iff_exists.mp h.top
  obtain ⟨r, hr⟩ := State.topJava?_eq_some.mp hg0
  have hr' : (({ U with heap := s₂.heap, slotsUsed := s₂.slotsUsed } : State).setVm s₂.vm).frames = .java g₀ :: r := hr
  rcases hq' with ⟨hqc, L, hfe, hL⟩ | ⟨q, rfl, E, ce, L, hx, hce, hcv, hcl, hW₂, hsm, hL⟩
  · obtain ⟨⟨v, rfl⟩, hW₂, e2, q2, q3, q4, q5, q6⟩ := id hfe
    have e3 : s₂ = ({ (U.calling g mk a).setFrames s₂.frames with heap := s₂.heap, slotsUsed := s₂.slotsUsed } : State).setVm s₂.vm := by
      have : s₂ = ({ s₂ with vm := (U.calling g mk a).vm } : State).setVm s₂.vm := rfl
      rw [e2] at this
      exact this
    obtain ⟨c₂, i₂, len₂, hc₂, hd₂, hf₂⟩ := hend
    have hW' : U.WarmedH s₂.vm := hW₂
    have hcc : c₂ = c := by
      have h1 : s₂.code? g.method = U.code? g.method := by
        rw [State.code?_eq, State.code?_eq, hW'.alike.method?]
      exact Option.some.inj (hc₂.symm.trans (h1.trans h.code))
    subst hcc
    have hlen : len₂ = len := by rw [hdg] at hd₂; cases hd₂; rfl
    subst hlen
    have hs₂ : s₂ = (({ U with heap := s₂.heap, slotsUsed := s₂.slotsUsed } : State).setVm s₂.vm).setTop { g with pc := g.pc + len₂, stack := v.toList ++ g.stack } := by
      refine e3.trans ?_
      rw [hf₂, State.calling_eq h.top, State.setFrames_setFrames, State.setTop_of_frames _ hr', hr]
      rfl
    have hsame : U.sameButNew ({ U with heap := s₂.heap, slotsUsed := s₂.slotsUsed } : State) L mc ms := by
      refine ⟨?_, q2, q3, q4, q5, q6⟩
      obtain ⟨t, ht, -⟩ := State.frames_cons hr
      show ({ U with heap := s₂.heap, slotsUsed := s₂.slotsUsed } : State) = { U.setFrames U.frames with heap := s₂.heap, slotsUsed := s₂.slotsUsed }
      rw [State.setFrames_self ht]
    subst hg
    refine Or.inl ⟨v, ⟨(({ U with heap := s₂.heap, slotsUsed := s₂.slotsUsed } : State).setVm s₂.vm), Ls ++ L, c0 + mc, s0 + ms⟩,
      ⟨X.admits, X.cas, X.clock, X.frames, X.room, X.hears, X.method, X.code, (X.here.setHeapUsed s₂.heap s₂.slotsUsed).setVm hW'.alike, X.tail, State.WarmedH.trans X.warmed hW', X.limits, X.bytes, X.same.trans (hsame.setVm s.vm)⟩,
      ⟨g, mk, s₂, L, rfl, rfl, hqc, rfl, hL, rfl, rfl⟩, ?_⟩
    show Steps p.tables e below _ ((({ U with heap := s₂.heap, slotsUsed := s₂.slotsUsed } : State).setVm s₂.vm).setTop { g with pc := g.pc + len₂, stack := v.toList ++ g.stack })
    rw [← hs₂]
    exact hsteps
  · obtain ⟨e2, q2, q3, q4, q5, q6⟩ := id hsm
    have e3 : s₂ = ({ (U.calling g mk a).setFrames s₂.frames with heap := s₂.heap, slotsUsed := s₂.slotsUsed } : State).setVm s₂.vm := by
      have : s₂ = ({ s₂ with vm := (U.calling g mk a).vm } : State).setVm s₂.vm := rfl
      rw [e2] at this
      exact this
    have hf₂ : s₂.frames = .throwing q :: .java g :: U.frames.tail := hend
    have hW' : U.WarmedH s₂.vm := hW₂
    have hs₂ : s₂ = ((({ U with heap := s₂.heap, slotsUsed := s₂.slotsUsed } : State).setVm s₂.vm).setTop g).pushFrame (.throwing q) := by
      refine e3.trans ?_
      rw [hf₂, State.calling_eq h.top, State.setFrames_setFrames, State.pushFrame, State.frames_setTop _ hr', State.setTop_of_frames _ hr', State.setFrames_setFrames, hr]
      rfl
    have hsame : U.sameButNew ({ U with heap := s₂.heap, slotsUsed := s₂.slotsUsed } : State) L mc ms := by
      refine ⟨?_, q2, q3, q4, q5, q6⟩
      obtain ⟨t, ht, -⟩ := State.frames_cons hr
      show ({ U with heap := s₂.heap, slotsUsed := s₂.slotsUsed } : State) = { U.setFrames U.frames with heap := s₂.heap, slotsUsed := s₂.slotsUsed }
      rw [State.setFrames_self ht]
    subst hg
    refine Or.inr ⟨q, ⟨(({ U with heap := s₂.heap, slotsUsed := s₂.slotsUsed } : State).setVm s₂.vm), Ls ++ L, c0 + mc, s0 + ms⟩,
      ⟨X.admits, X.cas, X.clock, X.frames, X.room, X.hears, X.method, X.code, (X.here.setHeapUsed s₂.heap s₂.slotsUsed).setVm hW'.alike, X.tail, State.WarmedH.trans X.warmed hW', X.limits, X.bytes, X.same.trans (hsame.setVm s.vm)⟩,
      ⟨g, mk, s₂, L, E, ce, rfl, rfl, hx, hce, hcv, hcl, rfl, hL, rfl, rfl⟩, ?_⟩
    show Steps p.tables e below _ (((({ U with heap := s₂.heap, slotsUsed := s₂.slotsUsed } : State).setVm s₂.vm).setTop g).pushFrame (.throwing q))
    rw [← hs₂]
    exact hsteps
end Payer
section Calls
variable {p : Program} {l : Launch} {e : Env} {R : Room} {s : State} {m : MethodId} {args : Array Value} {below : List Frame} {meth : Method} {c : Code} {T : State} {locs : List Loc} {cells slots : Nat}
theorem vx_callV (X : Stand p l e R s m args below meth c T locs cells slots) (hexec : p.tables.exec = Jvm.exec) {own C : String} {index : Nat} {y : MethodName} {bytes : ByteArray} {maxL : Nat} {ret : Option FieldType}
    (hown : s.vm.findClass own = some m.cls) (hlink : (Cond.methodLink own index y).before args s = true) (hinst : (Cond.instanceMethod y).before args s = true) (hsel : (Cond.selects C y y).before args s = true)
    (hcode : (Cond.code y bytes maxL ret).before args s = true) (hy : y.cls ≠ "java/lang/invoke/MethodHandle" ∧ y.cls ≠ "java/lang/invoke/VarHandle")
    {W9 : Nat} {Pre : Pt → Array Value → Prop} {Post : Pt → Array Value → Option Value → Pt → Prop} {PostX : Pt → Array Value → Addr → Pt → Prop} (hK : vx_Back l R p e below s args y 3 W9 Pre Post PostX)
    {b : Addr} {cellB : Cell} (hcell : T.heap[b]? = some cellB) (hobj : cellB.vm.isStatics = false) (hcls : s.vm.findClass C = some cellB.cls)
    {g : JFrame} (hg : g.method = m) (hsize : g.locals.size = c.maxLocals) {argsL rest : List Value} (hlen : ∀ sig, parseMethodDescriptor y.desc = some sig → argsL.length = sig.parameters.length)
    (hstack : g.stack = argsL.reverse ++ .ref b :: rest) (hW : 2 * g.monitorRoom + (rest.map fun v => v.category).sum ≤ W9) (hdg : decode c.code g.pc = .ok (.invokevirtual index, 3))
    (hpre : ∀ vm₁, s.WarmedH vm₁ → Pre ⟨T.setVm vm₁, locs, cells, slots⟩ (Value.ref b :: argsL).toArray) :
    (∃ (v : Option Value) (vm₁ : Vm) (B : Pt), s.WarmedH vm₁ ∧ Stand p l e R s m args below meth c B.U B.locs B.cells B.slots ∧ Post ⟨T.setVm vm₁, locs, cells, slots⟩ (Value.ref b :: argsL).toArray v B ∧
      ∀ target, Steps p.tables e below (B.U.setTop { g with pc := g.pc + 3, stack := v.toList ++ rest }) target → Steps p.tables e below (T.setTop g) target) ∨
    (∃ (q : Addr) (vm₁ : Vm) (B : Pt), s.WarmedH vm₁ ∧ Stand p l e R s m args below meth c B.U B.locs B.cells B.slots ∧ PostX ⟨T.setVm vm₁, locs, cells, slots⟩ (Value.ref b :: argsL).toArray q B ∧
      Steps p.tables e below (T.setTop g) ((B.U.setTop { g with stack := rest }).pushFrame (.throwing q))) := by
  obtain ⟨mk, methM, hnamed, hmethM, hstM, habM⟩ := Cond.instanceMethod_spec hinst
  obtain ⟨methM', cM, hmethM', -, -, -, -, -, -, hsigM⟩ := Cond.code_spec hnamed hcode
  cases hmethM.symm.trans hmethM'
  obtain ⟨c2, r2, m2, q1, q2, q3, q4, kP, hkP, hkPi⟩ := Cond.selects_spec hsel
  cases hcls.symm.trans q1
  cases (State.methodFound?_of_named hnamed hy).symm.trans q2
  cases hnamed.symm.trans q3
  have hselP : selectMethod e.platform s.vm cellB.cls mk = .method mk := by rw [Launch.admits_selectMethod X.admits]; exact q4
  obtain ⟨vm₁, X₁, hstep₁⟩ := X.invokevirtual hexec hown hlink hnamed hmethM hstM hkP hkPi hy (a := b) (cell := cellB) hcell
    (fun z h => by rw [h] at hobj; cases hobj) hselP hmethM habM hkP hkPi (g := g) hg (argsL := argsL) (rest := rest) (hlen _ hsigM) hstack hdg
  rcases hK m meth c ⟨T.setVm vm₁, locs, cells, slots⟩ { g with stack := rest } (.invokevirtual index) mk (Value.ref b :: argsL).toArray X₁ hg hsize hdg hW (X₁.named hnamed) (hpre vm₁ X₁.warmed) with ⟨v, B, X', hpost, hsteps⟩ | ⟨q, B, X', hpost, hsteps⟩
  · exact Or.inl ⟨v, vm₁, B, X₁.warmed, X', hpost, fun target h => hstep₁ _ fun acts => by rw [doInvoke_state]; exact hsteps.trans h⟩
  · exact Or.inr ⟨q, vm₁, B, X₁.warmed, X', hpost, hstep₁ _ fun acts => by rw [doInvoke_state]; exact hsteps⟩
theorem vx_callS (X : Stand p l e R s m args below meth c T locs cells slots) (hexec : p.tables.exec = Jvm.exec) {own : String} {index : Nat} {y : MethodName} {bytes : ByteArray} {maxL : Nat} {ret : Option FieldType}
    (hown : s.vm.findClass own = some m.cls) (hlink : (Cond.methodLink own index y).before args s = true) (hstat : (Cond.static y).before args s = true) (hinit : (Cond.initialized y.cls).before args s = true)
    (hcode : (Cond.code y bytes maxL ret).before args s = true) (hy : y.cls ≠ "java/lang/invoke/MethodHandle" ∧ y.cls ≠ "java/lang/invoke/VarHandle")
    {W9 : Nat} {Pre : Pt → Array Value → Prop} {Post : Pt → Array Value → Option Value → Pt → Prop} {PostX : Pt → Array Value → Addr → Pt → Prop} (hK : vx_Back l R p e below s args y 3 W9 Pre Post PostX)
    {g : JFrame} (hg : g.method = m) (hsize : g.locals.size = c.maxLocals) {argsL rest : List Value} (hlen : ∀ sig, parseMethodDescriptor y.desc = some sig → argsL.length = sig.parameters.length)
    (hstack : g.stack = argsL.reverse ++ rest) (hW : 2 * g.monitorRoom + (rest.map fun v => v.category).sum ≤ W9) (hdg : decode c.code g.pc = .ok (.invokestatic index, 3))
    (hpre : ∀ vm₁, s.WarmedH vm₁ → Pre ⟨T.setVm vm₁, locs, cells, slots⟩ argsL.toArray) :
    (∃ (v : Option Value) (vm₁ : Vm) (B : Pt), s.WarmedH vm₁ ∧ Stand p l e R s m args below meth c B.U B.locs B.cells B.slots ∧ Post ⟨T.setVm vm₁, locs, cells, slots⟩ argsL.toArray v B ∧
      ∀ target, Steps p.tables e below (B.U.setTop { g with pc := g.pc + 3, stack := v.toList ++ rest }) target → Steps p.tables e below (T.setTop g) target) ∨
    (∃ (q : Addr) (vm₁ : Vm) (B : Pt), s.WarmedH vm₁ ∧ Stand p l e R s m args below meth c B.U B.locs B.cells B.slots ∧ PostX ⟨T.setVm vm₁, locs, cells, slots⟩ argsL.toArray q B ∧
      Steps p.tables e below (T.setTop g) ((B.U.setTop { g with stack := rest }).pushFrame (.throwing q))) := by
  obtain ⟨mk, hnamed⟩ := Cond.code_named hcode
  obtain ⟨methM, cM, hmethM, -, -, -, -, -, -, hsigM⟩ := Cond.code_spec hnamed hcode
  have hstatic : methM.isStatic = true := Cond.static_spec hnamed hmethM hstat
  obtain ⟨kP, hkP, -⟩ := className_of_methodNamed hnamed
  have hinitP : kP.init = .initialized := Cond.initialized_spec (findClass_of_methodNamed hnamed) hkP hinit
  obtain ⟨vm₁, X₁, hstep₁⟩ := X.invokestatic hexec hown hlink hnamed hmethM hstatic hkP hinitP hy (g := g) hg (argsL := argsL) (rest := rest) (hlen _ hsigM) hstack hdg
  rcases hK m meth c ⟨T.setVm vm₁, locs, cells, slots⟩ { g with stack := rest } (.invokestatic index) mk argsL.toArray X₁ hg hsize hdg hW (X₁.named hnamed) (hpre vm₁ X₁.warmed) with ⟨v, B, X', hpost, hsteps⟩ | ⟨q, B, X', hpost, hsteps⟩
  · exact Or.inl ⟨v, vm₁, B, X₁.warmed, X', hpost, fun target h => hstep₁ _ fun acts => by rw [doInvoke_state]; exact hsteps.trans h⟩
  · exact Or.inr ⟨q, vm₁, B, X₁.warmed, X', hpost, hstep₁ _ fun acts => by rw [doInvoke_state]; exact hsteps⟩
end Calls
theorem vx_cls {s : State} {T : State} {vm₁ : Vm} {E : String} {k : ClassId} (hW : s.WarmedH vm₁) (h : (T.setVm vm₁).vm.findClass E = some k) : s.vm.findClass E = some k := by
  have h1 : vm₁.findClass E = some k := h
  rw [hW.alike.findClass] at h1
  exact h1
/-- the method's frame g, with q thrown over it -/
def vx_W (p : Program) (l : Launch) (e : Env) (R : Room) (s : State) (m : MethodId) (args : Array Value) (below : List Frame) (meth : Method) (c : Code) (H : Heap) (locs : List Loc) (cells slots : Nat) (Q : State → Prop) (g : JFrame) (q : Addr) : Prop :=
  ∀ T : State, T.heap = H → Stand p l e R s m args below meth c T locs cells slots → ∃ t, Steps p.tables e below ((T.setTop g).pushFrame (.throwing q)) t ∧ Q t
def vx_Run (p : Program) (l : Launch) (e : Env) (R : Room) (s : State) (m : MethodId) (args : Array Value) (below : List Frame) (meth : Method) (c : Code) (H : Heap) (locs : List Loc) (cells slots mc ms : Nat) (g : JFrame) (rest : List Value) (Qa : State → Outcome → State → Prop) (XC : String → State → State → Prop) (free : Addr → Prop) : Prop :=
  ∀ T : State, T.heap = H → Stand p l e R s m args below meth c T locs cells slots →
    (∃ (v : Option Value) (st₀ t T' : State) (L : List Loc), st₀.heap = H ∧ Stand p l e R s m args below meth c T' (locs ++ L) (cells + mc) (slots + ms) ∧ (∀ q ∈ L, free q.base) ∧ T'.heap = t.heap ∧ T'.vm = t.vm ∧ Qa st₀ (.returned v) t ∧
      Goes p e below T g T' { g with pc := g.pc + 3, stack := v.toList ++ rest }) ∨
    (∃ (q : Addr) (st₀ t T' : State) (L : List Loc) (E : String) (ce : Cell), st₀.heap = H ∧ Stand p l e R s m args below meth c T' (locs ++ L) (cells + mc) (slots + ms) ∧ (∀ z ∈ L, free z.base) ∧ T'.heap = t.heap ∧ T'.vm = t.vm ∧ XC E st₀ t ∧ t.heap[q]? = some ce ∧ ce.vm = .none ∧ s.vm.findClass E = some ce.cls ∧
      Steps p.tables e below (T.setTop g) ((T'.setTop { g with stack := rest }).pushFrame (.throwing q)))
def vx_X {S : Type} (px : S → Prop) (B : String → S → State → Prop) (A : Nat → Prop) : String → State → State → Prop := fun E st t => ∃ u : S, px u ∧ B E u t ∧ va_F A st t
section Runs
variable {p : Program} {l : Launch} {e : Env} {R : Room} {s : State} {m : MethodId} {args : Array Value} {below : List Frame} {meth : Method} {c : Code} {H : Heap} {locs : List Loc} {cells slots : Nat}
variable {y : MethodName} {bytes cc : ByteArray} {maxL nL mc ms n index : Nat} {ret : Option FieldType} {ws : List Cond} {rm : Room} {Pc : Array Value → State → Prop} {Qc : Array Value → State → Outcome → State → Prop} {XC : String → State → State → Prop} {free : Addr → Prop} {Ts : List Cond} {own C : String} {b : Addr} {As rest : List Value} {g : JFrame}
theorem vx_callBack (cb : CallB R s args own index y bytes maxL ret ws rm mc ms n) (hM : vx_Met l y ws rm Pc Qc XC mc ms free) (hbl : FrameBlind Pc) : vx_Back l R p e below s args y 3 8 (PreOf R mc ms Pc) (PostOf Qc mc ms free) (vx_Post XC mc ms free) := by
  obtain ⟨hrc, hrs, hfr, hlo, hws, hcw, -, hini, -⟩ := cb
  exact vx_back (bytes := bytes) (maxL := maxL) (ret := ret) hM hbl hrc hrs hfr hlo hws hcw (fun a' U hW => word_at hW (Or.inl (by first | rfl | simp [Cond.onTables, Cond.keeps, Cond.steady])) hini)
theorem vx_runV (S : CallFix p m c cc nL s args Ts own) (hM : vx_Met l y ws rm Pc Qc XC mc ms free) (cw : CallW R s args own C index y bytes maxL ret ws rm mc ms n) (hp : PreV s H C b Pc As)
    (hg : g.method = m) (hn : As.length = n) (hsize : g.locals.size = nL) (hstack : g.stack = As.reverse ++ .ref b :: rest) (hW : 2 * g.monitorRoom + (rest.map fun v => v.category).sum ≤ 8) (hdg : decode cc g.pc = .ok (.invokevirtual index, 3)) (hf : cells + mc ≤ R.cells ∧ slots + ms ≤ R.slots) :
    vx_Run p l e R s m args below meth c H locs cells slots mc ms g rest (Qc (Value.ref b :: As).toArray) XC free := by
  have hK : vx_Back l R p e below s args y 3 8 (PreOf R mc ms Pc) (PostOf Qc mc ms free) (vx_Post XC mc ms free) := vx_callBack cw.1 hM hp.1
  obtain ⟨⟨-, -, -, -, -, -, hcode, -, hy, hlen, hl⟩, hin, hse⟩ := cw
  obtain ⟨hx, hb, hml, ho, -⟩ := S
  obtain ⟨-, ⟨cellB, hcB, hoB, hclB⟩, hPc⟩ := hp
  intro T hT X
  rcases vx_callV X hx (C := C) (bytes := bytes) (maxL := maxL) (ret := ret) ho hl hin hse hcode hy hK (by rw [hT]; exact hcB) hoB hclB hg (hsize.trans hml.symm) (argsL := As) (rest := rest) (fun sig h => hn.trans (hlen sig h)) hstack hW (by rw [hb]; exact hdg)
    (fun vm₁ hW₁ => ⟨hf.1, hf.2, hPc (T.setVm vm₁) hT hW₁⟩) with ⟨v, vm₁, ⟨U', l2, c2, s2⟩, hW₁, X', ⟨g', mk, t, L, e1, e2, hq, h1, hL, h2, h3⟩, st⟩ | ⟨q, vm₁, ⟨U', l2, c2, s2⟩, hW₁, X', ⟨g', mk, t, L, E, ce, e1, e2, hq, hce, hcv, hcl, h1, hL, h2, h3⟩, st⟩
  · dsimp only [Pt.U, Pt.locs, Pt.cells, Pt.slots] at X' e1 e2 h1 h2 h3 st
    subst h1; subst h2; subst h3
    exact Or.inl ⟨v, (T.setVm vm₁).calling g' mk (Value.ref b :: As).toArray, t, U', L, hT, X', hL, e1, e2, hq, st⟩
  · dsimp only [Pt.U, Pt.locs, Pt.cells, Pt.slots] at X' e1 e2 h1 h2 h3 st hcl
    subst h1; subst h2; subst h3
    exact Or.inr ⟨q, (T.setVm vm₁).calling g' mk (Value.ref b :: As).toArray, t, U', L, E, ce, hT, X', hL, e1, e2, hq, hce, hcv, vx_cls hW₁ hcl, st⟩
theorem vx_runS (S : CallFix p m c cc nL s args Ts own) (hM : vx_Met l y ws rm Pc Qc XC mc ms free) (cw : CallB R s args own index y bytes maxL ret ws rm mc ms n ∧ (Cond.static y).before args s = true) (hp : PreS s H Pc As)
    (hg : g.method = m) (hn : As.length = n) (hsize : g.locals.size = nL) (hstack : g.stack = As.reverse ++ rest) (hW : 2 * g.monitorRoom + (rest.map fun v => v.category).sum ≤ 8) (hdg : decode cc g.pc = .ok (.invokestatic index, 3)) (hf : cells + mc ≤ R.cells ∧ slots + ms ≤ R.slots) :
    vx_Run p l e R s m args below meth c H locs cells slots mc ms g rest (Qc As.toArray) XC free := by
  have hK : vx_Back l R p e below s args y 3 8 (PreOf R mc ms Pc) (PostOf Qc mc ms free) (vx_Post XC mc ms free) := vx_callBack cw.1 hM hp.1
  obtain ⟨⟨-, -, -, -, -, -, hcode, hini, hy, hlen, hl⟩, hstt⟩ := cw
  obtain ⟨hx, hb, hml, ho, -⟩ := S
  intro T hT X
  rcases vx_callS X hx (bytes := bytes) (maxL := maxL) (ret := ret) ho hl hstt hini hcode hy hK hg (hsize.trans hml.symm) (argsL := As) (rest := rest) (fun sig h => hn.trans (hlen sig h)) hstack hW (by rw [hb]; exact hdg)
    (fun vm₁ hW₁ => ⟨hf.1, hf.2, hp.2 (T.setVm vm₁) hT hW₁⟩) with ⟨v, vm₁, ⟨U', l2, c2, s2⟩, hW₁, X', ⟨g', mk, t, L, e1, e2, hq, h1, hL, h2, h3⟩, st⟩ | ⟨q, vm₁, ⟨U', l2, c2, s2⟩, hW₁, X', ⟨g', mk, t, L, E, ce, e1, e2, hq, hce, hcv, hcl, h1, hL, h2, h3⟩, st⟩
  · dsimp only [Pt.U, Pt.locs, Pt.cells, Pt.slots] at X' e1 e2 h1 h2 h3 st
    subst h1; subst h2; subst h3
    exact Or.inl ⟨v, (T.setVm vm₁).calling g' mk As.toArray, t, U', L, hT, X', hL, e1, e2, hq, st⟩
  · dsimp only [Pt.U, Pt.locs, Pt.cells, Pt.slots] at X' e1 e2 h1 h2 h3 st hcl
    subst h1; subst h2; subst h3
    exact Or.inr ⟨q, (T.setVm vm₁).calling g' mk As.toArray, t, U', L, E, ce, hT, X', hL, e1, e2, hq, hce, hcv, vx_cls hW₁ hcl, st⟩
end Runs
section Rows
variable {p : Program} {l : Launch} {e : Env} {R : Room} {s : State} {m : MethodId} {args : Array Value} {below : List Frame} {meth : Method} {c : Code} {H : Heap} {locs : List Loc} {cells slots : Nat} {Q : State → Prop}
variable {mc ms : Nat} {free : Addr → Prop} {A0 A1 : Nat → Prop} {H0 : Heap} {a : Array Value} {pc : Nat} {ls : Array Slot} {st0 rest : List Value}
theorem vx_keep {st₀ t T' : State} {L : List Loc} (h0 : st₀.heap = H) (e1 : T'.heap = t.heap) (hS : va_S A0 H0 H locs) (hA : ∀ q, q < H.size → A1 q → A0 q) (hf : ∀ q, free q → A0 q) (hL : ∀ q ∈ L, free q.base) (hF : va_F A1 st₀ t) :
    H.size ≤ T'.heap.size ∧ (∀ q : Nat, q < H.size → ¬ A1 q → T'.heap[q]? = H[q]?) ∧ va_S A0 H0 T'.heap (locs ++ L) := by
  obtain ⟨hz, hk⟩ := hF
  rw [h0] at hz hk
  exact ⟨by rw [e1]; exact hz, fun q h1 h2 => by rw [e1]; exact hk q h1 h2,
    ⟨Nat.le_trans hS.1 (by rw [e1]; exact hz), fun q h1 h2 => by rw [e1, hk q (Nat.lt_of_lt_of_le h1 hS.1) (fun z => h2 (hA q (Nat.lt_of_lt_of_le h1 hS.1) z))]; exact hS.2.1 q h1 h2, fun q hq => by
      rcases List.mem_append.mp hq with h | h
      · exact hS.2.2 q h
      · exact hf _ (hL q h)⟩⟩
theorem vx_calli {S SX : Type} {post : Int32 → S → Prop} {px : SX → Prop} {B : S → State → Prop} {BX : String → SX → State → Prop} {AX : Nat → Prop} (hr : vx_Run p l e R s m args below meth c H locs cells slots mc ms (F0 m pc ls st0) rest (va_Qi post B A1 a) (vx_X px BX AX) free) (hS : va_S A0 H0 H locs) (hA : ∀ q, q < H.size → A1 q → A0 q) (hf : ∀ q, free q → A0 q) (hAX : ∀ q, q < H.size → AX q → A0 q)
    (kx : ∀ (E : String) (ce : Cell) (q9 : Addr) (u : SX) (t : State) (H1 : Heap) (locs1 : List Loc), t.heap = H1 → s.vm.Alike t.vm → px u → BX E u t → H.size ≤ H1.size → (∀ q : Nat, q < H.size → ¬ AX q → H1[q]? = H[q]?) → va_S A0 H0 H1 locs1 → H1[q9]? = some ce → ce.vm = .none → s.vm.findClass E = some ce.cls → vx_W p l e R s m args below meth c H1 locs1 (cells + mc) (slots + ms) Q (F0 m pc ls rest) q9)
    (kk : ∀ (r : Int32) (u : S) (t : State) (H1 : Heap) (locs1 : List Loc), t.heap = H1 → s.vm.Alike t.vm → post r u → B u t → H.size ≤ H1.size → (∀ q : Nat, q < H.size → ¬ A1 q → H1[q]? = H[q]?) → va_S A0 H0 H1 locs1 → W p l e R s m args below meth c H1 locs1 (cells + mc) (slots + ms) Q (F0 m (pc + 3) ls (.int r :: rest))) : W p l e R s m args below meth c H locs cells slots Q (F0 m pc ls st0) := by
  intro T hT X
  rcases hr T hT X with ⟨v, st₀, t, T', L, h0, X', hL, e1, e2, ⟨⟨r, u, hv, hp, hb⟩, hF⟩, st⟩ | ⟨q, st₀, t, T', L, E, ce, h0, X', hL, e1, e2, ⟨u, hp, hb, hF⟩, hce, hcv, hcl, st⟩
  · cases hv
    obtain ⟨k1, k2, k3⟩ := vx_keep h0 e1 hS hA hf hL hF
    obtain ⟨t2, a1, b1⟩ := kk r u t T'.heap (locs ++ L) e1.symm (by rw [← e2]; exact X'.warmed.alike) hp hb k1 k2 k3 T' rfl X'
    exact ⟨t2, st t2 a1, b1⟩
  · obtain ⟨k1, k2, k3⟩ := vx_keep h0 e1 hS hAX hf hL hF
    obtain ⟨t2, a1, b1⟩ := kx E ce q u t T'.heap (locs ++ L) e1.symm (by rw [← e2]; exact X'.warmed.alike) hp hb k1 k2 k3 (by rw [e1]; exact hce) hcv hcl T' rfl X'
    exact ⟨t2, st.trans a1, b1⟩
theorem vx_calll {S SX : Type} {post : Int64 → S → Prop} {px : SX → Prop} {B : S → State → Prop} {BX : String → SX → State → Prop} {AX : Nat → Prop} (hr : vx_Run p l e R s m args below meth c H locs cells slots mc ms (F0 m pc ls st0) rest (va_Ql post B A1 a) (vx_X px BX AX) free) (hS : va_S A0 H0 H locs) (hA : ∀ q, q < H.size → A1 q → A0 q) (hf : ∀ q, free q → A0 q) (hAX : ∀ q, q < H.size → AX q → A0 q)
    (kx : ∀ (E : String) (ce : Cell) (q9 : Addr) (u : SX) (t : State) (H1 : Heap) (locs1 : List Loc), t.heap = H1 → s.vm.Alike t.vm → px u → BX E u t → H.size ≤ H1.size → (∀ q : Nat, q < H.size → ¬ AX q → H1[q]? = H[q]?) → va_S A0 H0 H1 locs1 → H1[q9]? = some ce → ce.vm = .none → s.vm.findClass E = some ce.cls → vx_W p l e R s m args below meth c H1 locs1 (cells + mc) (slots + ms) Q (F0 m pc ls rest) q9)
    (kk : ∀ (r : Int64) (u : S) (t : State) (H1 : Heap) (locs1 : List Loc), t.heap = H1 → s.vm.Alike t.vm → post r u → B u t → H.size ≤ H1.size → (∀ q : Nat, q < H.size → ¬ A1 q → H1[q]? = H[q]?) → va_S A0 H0 H1 locs1 → W p l e R s m args below meth c H1 locs1 (cells + mc) (slots + ms) Q (F0 m (pc + 3) ls (.long r :: rest))) : W p l e R s m args below meth c H locs cells slots Q (F0 m pc ls st0) := by
  intro T hT X
  rcases hr T hT X with ⟨v, st₀, t, T', L, h0, X', hL, e1, e2, ⟨⟨r, u, hv, hp, hb⟩, hF⟩, st⟩ | ⟨q, st₀, t, T', L, E, ce, h0, X', hL, e1, e2, ⟨u, hp, hb, hF⟩, hce, hcv, hcl, st⟩
  · cases hv
    obtain ⟨k1, k2, k3⟩ := vx_keep h0 e1 hS hA hf hL hF
    obtain ⟨t2, a1, b1⟩ := kk r u t T'.heap (locs ++ L) e1.symm (by rw [← e2]; exact X'.warmed.alike) hp hb k1 k2 k3 T' rfl X'
    exact ⟨t2, st t2 a1, b1⟩
  · obtain ⟨k1, k2, k3⟩ := vx_keep h0 e1 hS hAX hf hL hF
    obtain ⟨t2, a1, b1⟩ := kx E ce q u t T'.heap (locs ++ L) e1.symm (by rw [← e2]; exact X'.warmed.alike) hp hb k1 k2 k3 (by rw [e1]; exact hce) hcv hcl T' rfl X'
    exact ⟨t2, st.trans a1, b1⟩
theorem vx_callf {S SX : Type} {post : UInt32 → S → Prop} {px : SX → Prop} {B : S → State → Prop} {BX : String → SX → State → Prop} {AX : Nat → Prop} (hr : vx_Run p l e R s m args below meth c H locs cells slots mc ms (F0 m pc ls st0) rest (va_Qf post B A1 a) (vx_X px BX AX) free) (hS : va_S A0 H0 H locs) (hA : ∀ q, q < H.size → A1 q → A0 q) (hf : ∀ q, free q → A0 q) (hAX : ∀ q, q < H.size → AX q → A0 q)
    (kx : ∀ (E : String) (ce : Cell) (q9 : Addr) (u : SX) (t : State) (H1 : Heap) (locs1 : List Loc), t.heap = H1 → s.vm.Alike t.vm → px u → BX E u t → H.size ≤ H1.size → (∀ q : Nat, q < H.size → ¬ AX q → H1[q]? = H[q]?) → va_S A0 H0 H1 locs1 → H1[q9]? = some ce → ce.vm = .none → s.vm.findClass E = some ce.cls → vx_W p l e R s m args below meth c H1 locs1 (cells + mc) (slots + ms) Q (F0 m pc ls rest) q9)
    (kk : ∀ (r : UInt32) (u : S) (t : State) (H1 : Heap) (locs1 : List Loc), t.heap = H1 → s.vm.Alike t.vm → post r u → B u t → H.size ≤ H1.size → (∀ q : Nat, q < H.size → ¬ A1 q → H1[q]? = H[q]?) → va_S A0 H0 H1 locs1 → W p l e R s m args below meth c H1 locs1 (cells + mc) (slots + ms) Q (F0 m (pc + 3) ls (.float r :: rest))) : W p l e R s m args below meth c H locs cells slots Q (F0 m pc ls st0) := by
  intro T hT X
  rcases hr T hT X with ⟨v, st₀, t, T', L, h0, X', hL, e1, e2, ⟨⟨r, u, hv, hp, hb⟩, hF⟩, st⟩ | ⟨q, st₀, t, T', L, E, ce, h0, X', hL, e1, e2, ⟨u, hp, hb, hF⟩, hce, hcv, hcl, st⟩
  · cases hv
    obtain ⟨k1, k2, k3⟩ := vx_keep h0 e1 hS hA hf hL hF
    obtain ⟨t2, a1, b1⟩ := kk r u t T'.heap (locs ++ L) e1.symm (by rw [← e2]; exact X'.warmed.alike) hp hb k1 k2 k3 T' rfl X'
    exact ⟨t2, st t2 a1, b1⟩
  · obtain ⟨k1, k2, k3⟩ := vx_keep h0 e1 hS hAX hf hL hF
    obtain ⟨t2, a1, b1⟩ := kx E ce q u t T'.heap (locs ++ L) e1.symm (by rw [← e2]; exact X'.warmed.alike) hp hb k1 k2 k3 (by rw [e1]; exact hce) hcv hcl T' rfl X'
    exact ⟨t2, st.trans a1, b1⟩
theorem vx_calld {S SX : Type} {post : UInt64 → S → Prop} {px : SX → Prop} {B : S → State → Prop} {BX : String → SX → State → Prop} {AX : Nat → Prop} (hr : vx_Run p l e R s m args below meth c H locs cells slots mc ms (F0 m pc ls st0) rest (va_Qd post B A1 a) (vx_X px BX AX) free) (hS : va_S A0 H0 H locs) (hA : ∀ q, q < H.size → A1 q → A0 q) (hf : ∀ q, free q → A0 q) (hAX : ∀ q, q < H.size → AX q → A0 q)
    (kx : ∀ (E : String) (ce : Cell) (q9 : Addr) (u : SX) (t : State) (H1 : Heap) (locs1 : List Loc), t.heap = H1 → s.vm.Alike t.vm → px u → BX E u t → H.size ≤ H1.size → (∀ q : Nat, q < H.size → ¬ AX q → H1[q]? = H[q]?) → va_S A0 H0 H1 locs1 → H1[q9]? = some ce → ce.vm = .none → s.vm.findClass E = some ce.cls → vx_W p l e R s m args below meth c H1 locs1 (cells + mc) (slots + ms) Q (F0 m pc ls rest) q9)
    (kk : ∀ (r : UInt64) (u : S) (t : State) (H1 : Heap) (locs1 : List Loc), t.heap = H1 → s.vm.Alike t.vm → post r u → B u t → H.size ≤ H1.size → (∀ q : Nat, q < H.size → ¬ A1 q → H1[q]? = H[q]?) → va_S A0 H0 H1 locs1 → W p l e R s m args below meth c H1 locs1 (cells + mc) (slots + ms) Q (F0 m (pc + 3) ls (.double r :: rest))) : W p l e R s m args below meth c H locs cells slots Q (F0 m pc ls st0) := by
  intro T hT X
  rcases hr T hT X with ⟨v, st₀, t, T', L, h0, X', hL, e1, e2, ⟨⟨r, u, hv, hp, hb⟩, hF⟩, st⟩ | ⟨q, st₀, t, T', L, E, ce, h0, X', hL, e1, e2, ⟨u, hp, hb, hF⟩, hce, hcv, hcl, st⟩
  · cases hv
    obtain ⟨k1, k2, k3⟩ := vx_keep h0 e1 hS hA hf hL hF
    obtain ⟨t2, a1, b1⟩ := kk r u t T'.heap (locs ++ L) e1.symm (by rw [← e2]; exact X'.warmed.alike) hp hb k1 k2 k3 T' rfl X'
    exact ⟨t2, st t2 a1, b1⟩
  · obtain ⟨k1, k2, k3⟩ := vx_keep h0 e1 hS hAX hf hL hF
    obtain ⟨t2, a1, b1⟩ := kx E ce q u t T'.heap (locs ++ L) e1.symm (by rw [← e2]; exact X'.warmed.alike) hp hb k1 k2 k3 (by rw [e1]; exact hce) hcv hcl T' rfl X'
    exact ⟨t2, st.trans a1, b1⟩
theorem vx_callv {S SX : Type} {post : S → Prop} {px : SX → Prop} {B : S → State → Prop} {BX : String → SX → State → Prop} {AX : Nat → Prop} (hr : vx_Run p l e R s m args below meth c H locs cells slots mc ms (F0 m pc ls st0) rest (va_Qv post B A1 a) (vx_X px BX AX) free) (hS : va_S A0 H0 H locs) (hA : ∀ q, q < H.size → A1 q → A0 q) (hf : ∀ q, free q → A0 q) (hAX : ∀ q, q < H.size → AX q → A0 q)
    (kx : ∀ (E : String) (ce : Cell) (q9 : Addr) (u : SX) (t : State) (H1 : Heap) (locs1 : List Loc), t.heap = H1 → s.vm.Alike t.vm → px u → BX E u t → H.size ≤ H1.size → (∀ q : Nat, q < H.size → ¬ AX q → H1[q]? = H[q]?) → va_S A0 H0 H1 locs1 → H1[q9]? = some ce → ce.vm = .none → s.vm.findClass E = some ce.cls → vx_W p l e R s m args below meth c H1 locs1 (cells + mc) (slots + ms) Q (F0 m pc ls rest) q9)
    (kk : ∀ (u : S) (t : State) (H1 : Heap) (locs1 : List Loc), t.heap = H1 → s.vm.Alike t.vm → post u → B u t → H.size ≤ H1.size → (∀ q : Nat, q < H.size → ¬ A1 q → H1[q]? = H[q]?) → va_S A0 H0 H1 locs1 → W p l e R s m args below meth c H1 locs1 (cells + mc) (slots + ms) Q (F0 m (pc + 3) ls (rest))) : W p l e R s m args below meth c H locs cells slots Q (F0 m pc ls st0) := by
  intro T hT X
  rcases hr T hT X with ⟨v, st₀, t, T', L, h0, X', hL, e1, e2, ⟨⟨u, hv, hp, hb⟩, hF⟩, st⟩ | ⟨q, st₀, t, T', L, E, ce, h0, X', hL, e1, e2, ⟨u, hp, hb, hF⟩, hce, hcv, hcl, st⟩
  · cases hv
    obtain ⟨k1, k2, k3⟩ := vx_keep h0 e1 hS hA hf hL hF
    obtain ⟨t2, a1, b1⟩ := kk u t T'.heap (locs ++ L) e1.symm (by rw [← e2]; exact X'.warmed.alike) hp hb k1 k2 k3 T' rfl X'
    exact ⟨t2, st t2 a1, b1⟩
  · obtain ⟨k1, k2, k3⟩ := vx_keep h0 e1 hS hAX hf hL hF
    obtain ⟨t2, a1, b1⟩ := kx E ce q u t T'.heap (locs ++ L) e1.symm (by rw [← e2]; exact X'.warmed.alike) hp hb k1 k2 k3 (by rw [e1]; exact hce) hcv hcl T' rfl X'
    exact ⟨t2, st.trans a1, b1⟩
/-- caught by the row x of this method's table; the rows ahead don't take it -/
theorem vx_catch {own name : String} {E : String} {ce : Cell} {q : Addr} (hown : s.vm.findClass own = some m.cls) (pre : List ExceptionTableEntry) (x : ExceptionTableEntry) (suf : List ExceptionTableEntry) (hsplit : c.exceptionTable.toList = pre ++ x :: suf)
    (hpass : ∀ z ∈ pre, covers z pc = false ∨ (z.catchType ≠ 0 ∧ ∃ nm : String, (Cond.classLink own z.catchType nm).before args s = true ∧ va_Nc E nm s)) (hx : covers x pc = true) (h0 : x.catchType ≠ 0)
    (hlink : (Cond.classLink own x.catchType name).before args s = true) (hcast : (Cond.castable E name).before args s = true) (hcell : H[q]? = some ce) (hv : ce.vm = .none) (hcl : s.vm.findClass E = some ce.cls)
    (kk : W p l e R s m args below meth c H locs cells slots Q (F0 m x.handlerPc ls [.ref q])) : vx_W p l e R s m args below meth c H locs cells slots Q (F0 m pc ls rest) q := by
  intro T hT X
  have hpl : e.platform.magicAccessors = ({} : Platform).magicAccessors := by rw [X.admits.platform]
  obtain ⟨c3, c4, hc3, hc4, hasg⟩ := Cond.castable_spec hcast
  cases Option.some.inj (hc3.symm.trans hcl)
  obtain ⟨c5, hc5, hcl5⟩ := Cond.classLink_spec hown hlink e.platform hpl
  cases Option.some.inj (hc4.symm.trans hc5)
  obtain ⟨vm', X', st⟩ := X.thenCaughtThrough q (g := F0 m pc ls rest) rfl (Steps.refl _) (by rw [hT]; exact hcell) (by rw [hv]; rfl) (by obtain ⟨k9, h9, -⟩ := Vm.findClass_spec hcl; exact ⟨k9, h9⟩) pre x suf hsplit
    (fun z hz => by
      rcases hpass z hz with h | ⟨hz0, nm, hl1, hn1⟩
      · exact Or.inl h
      · obtain ⟨c6, hc6, hcl6⟩ := Cond.classLink_spec hown hl1 e.platform hpl
        obtain ⟨a8, b8, h1, h2, h3⟩ := hn1
        cases Option.some.inj (h1.symm.trans hcl)
        cases Option.some.inj (h2.symm.trans hc6)
        exact Or.inr ⟨hz0, _, hcl6, h3⟩) hx (Or.inr ⟨h0, c4, hcl5, hasg⟩)
  obtain ⟨t, a1, b1⟩ := kk (T.setVm vm') hT X'
  exact ⟨t, st.trans a1, b1⟩
end Rows
section Ends
variable {p : Program} {l : Launch} {e : Env} {R : Room} {s : State} {m : MethodId} {args : Array Value} {below : List Frame} {meth : Method} {c : Code} {H : Heap} {locs : List Loc} {cells slots : Nat} {Q : State → Prop}
variable {mc ms : Nat} {free : Addr → Prop} {A0 A1 : Nat → Prop} {H0 : Heap} {a : Array Value} {ls : Array Slot} {st0 rest : List Value}
variable {Qc : Array Value → State → Outcome → State → Prop} {XC : String → State → State → Prop}
/-- what a body that may throw owes at its end -/
def vx_MQ (below : List Frame) (Qc : Array Value → State → Outcome → State → Prop) (XC : String → State → State → Prop) (a : Array Value) (s : State) (mc ms : Nat) (free : Addr → Prop) : State → Prop := fun t =>
  ∃ o, t.status = .running ∧ Ended t below o ∧ vx_Q Qc XC mc ms free a s o t
theorem vx_ret {g : JFrame} {mc ms : Nat} (k : W p l e R s m args below meth c H locs cells slots (MQ below Qc args s mc ms free) g) : W p l e R s m args below meth c H locs cells slots (vx_MQ below Qc XC args s mc ms free) g := by
  intro T hT X
  obtain ⟨t, a1, o, b1, b2, b3, b4⟩ := k T hT X
  exact ⟨t, a1, o, b1, b2, Or.inl ⟨b3, b4⟩⟩
/-- not caught here: it goes on to the caller -/
theorem vx_widen {g : JFrame} {q : Addr} {k n : Nat} (h1 : cells ≤ k) (h2 : slots ≤ n) (kk : vx_W p l e R s m args below meth c H locs k n Q g q) : vx_W p l e R s m args below meth c H locs cells slots Q g q := fun T hT X => kk T hT (stand_widen X h1 h2)
theorem vx_out {pc : Nat} {E : String} {ce : Cell} {q : Addr} {mc ms : Nat} (hout : ∀ x ∈ c.exceptionTable.toList, covers x pc = false) (hlocks : meth.locks = false) (hcell : H[q]? = some ce) (hv : ce.vm = .none) (hcl : s.vm.findClass E = some ce.cls)
    (hx : ∀ t : State, t.heap = H → s.vm.Alike t.vm → XC E s t) (hf : ∀ z ∈ locs, free z.base) (hc : cells ≤ mc) (hs : slots ≤ ms) :
    vx_W p l e R s m args below meth c H locs cells slots (vx_MQ below Qc XC args s mc ms free) (F0 m pc ls rest) q := by
  intro T hT X
  obtain ⟨st1, hrun, hend, hW, hsm⟩ := X.leaveThrown q (g := F0 m pc ls rest) rfl rfl rfl hout hlocks
  have hcell9 : (T.setFrames (.throwing q :: below)).heap[q]? = some ce := by
    show T.heap[q]? = some ce
    rw [hT]; exact hcell
  exact ⟨_, st1, .threw q, hrun, hend, Or.inr ⟨q, rfl, E, ce, locs, hx _ hT hW.alike, hcell9, hv, hcl, hW, hsm.mono hc hs, hf⟩⟩
theorem vx_frame {U : State} {k n : Nat} (h : s.sameButNew ({ U with vm := s.vm } : State) locs k n) : s.heap.size ≤ U.heap.size ∧ ∀ q : Nat, q < s.heap.size → (∀ z ∈ locs, z.base ≠ q) → U.heap[q]? = s.heap[q]? := by
  obtain ⟨-, h2, -, -, -, h6⟩ := h
  refine ⟨h2, fun q hq hz => ?_⟩
  obtain ⟨c9, e1, e2, e3, e4⟩ := h6 q _ (Array.getElem?_eq_getElem hq)
  have hs : c9.slots = (s.heap[q]).slots := Array.ext_getElem? fun i => e4 i fun hm => hz _ hm rfl
  have h9 : c9 = s.heap[q] := by
    rw [hs] at e2
    exact e2
  have e5 : U.heap[q]? = some c9 := e1
  rw [e5, h9, Array.getElem?_eq_getElem hq]
/-- the words of a throw but the four that speak of the heap -/
def vx_no (w : Cond) : Bool := decide (w ≠ .isRef (.static Bundle.tN "UNASSIGNED_STACK" Bundle.steD)) && decide (w ≠ .isRef (.static Bundle.tN "SUPPRESSED_SENTINEL" Bundle.listD)) && decide (w ≠ .laysStatic Bundle.tN "UNASSIGNED_STACK" Bundle.steD) && decide (w ≠ .laysStatic Bundle.tN "SUPPRESSED_SENTINEL" Bundle.listD)
def vx_at0 (own : String) (ic : Nat) (X : String) (names : List String) : List Cond := (Bundle.ownAtoms0 own ic X names).filter vx_no
def vx_atS (own : String) (ic : Nat) (X : String) (names : List String) : List Cond := (Bundle.ownAtoms own ic X names).filter vx_no
/-- a word that the tables alone decide, or a good one -/
def vx_ot (w : Cond) : Bool := w.onTables || goodWord w
theorem vx_ot_at {args a' : Array Value} {s U : State} {w : Cond} (hW : s.WarmedH U.vm) (hvm : s.vm = U.vm) (hg : vx_ot w = true) (h : w.before args s = true) : w.before a' U = true := by
  simp only [vx_ot, Bool.or_eq_true] at hg
  rcases hg with hg | hg
  · exact va_tabs hg hvm h
  · exact word_at hW (good_of_word hg) h
/-- a list's words: the good ones out of the method's own list, the others by premises of their own -/
theorem vx_hat {args : Array Value} {s : State} {L B : List Cond} (h1 : ∀ w ∈ L.filter goodWord, w.before args s = true) (h2 : ∀ w ∈ L.filter (fun w => !goodWord w), w ∈ B) (h3 : ∀ w ∈ B, w.before args s = true) : ∀ w ∈ L, w.before args s = true := by
  intro w hw
  by_cases g : goodWord w = true
  · exact h1 w (List.mem_filter.mpr ⟨hw, g⟩)
  · refine h3 w (h2 w (List.mem_filter.mpr ⟨hw, ?_⟩))
    show (!goodWord w) = true
    cases hgw : goodWord w
    · rfl
    · exact absurd hgw g
theorem vx_c {args : Array Value} {s : State} {w : Cond} {B : List Cond} (h : w.before args s = true) (t : ∀ w ∈ B, w.before args s = true) : ∀ w' ∈ w :: B, w'.before args s = true := fun w' h' => (List.mem_cons.mp h').elim (fun e => by rw [e]; exact h) (t w')
theorem vx_n {args : Array Value} {s : State} : ∀ w ∈ ([] : List Cond), w.before args s = true := fun _ h => nomatch h
theorem vx_own {args : Array Value} {s : State} {L : List Cond} (h1 : ∀ w ∈ L.filter vx_no, w.before args s = true)
    (hU : (Cond.isRef (.static Bundle.tN "UNASSIGNED_STACK" Bundle.steD)).before args s = true) (hN : (Cond.isRef (.static Bundle.tN "SUPPRESSED_SENTINEL" Bundle.listD)).before args s = true)
    (lU : (Cond.laysStatic Bundle.tN "UNASSIGNED_STACK" Bundle.steD).before args s = true) (lN : (Cond.laysStatic Bundle.tN "SUPPRESSED_SENTINEL" Bundle.listD).before args s = true) : ∀ w ∈ L, w.before args s = true := by
  intro w hw
  by_cases e1 : w = .isRef (.static Bundle.tN "UNASSIGNED_STACK" Bundle.steD)
  · rw [e1]; exact hU
  · by_cases e2 : w = .isRef (.static Bundle.tN "SUPPRESSED_SENTINEL" Bundle.listD)
    · rw [e2]; exact hN
    · by_cases e3 : w = .laysStatic Bundle.tN "UNASSIGNED_STACK" Bundle.steD
      · rw [e3]; exact lU
      · by_cases e4 : w = .laysStatic Bundle.tN "SUPPRESSED_SENTINEL" Bundle.listD
        · rw [e4]; exact lN
        · exact h1 w (List.mem_filter.mpr ⟨hw, by unfold vx_no; rw [decide_eq_true e1, decide_eq_true e2, decide_eq_true e3, decide_eq_true e4]; rfl⟩)
/-- where a static field lies, its class's statics cell in H -/
def vx_L (C n d : String) (A : Nat → Prop) (U : State) (H : Heap) : Prop := ∃ (c : ClassId) (k : Class) (i : Nat) (f : Field) (a : Nat) (cell : Cell), U.vm.findClass C = some c ∧ U.fieldFound? C n d = some (c, k, i, f) ∧ f.isStatic = true ∧ k.statics = some a ∧ H[a]? = some cell ∧ cell.vm.isStatics = true ∧ cell.cls = c ∧ f.slot < cell.slots.size ∧ k.staticTypes[f.slot]? = some f.type ∧ ¬ A a
theorem vx_L.moved {C n d : String} {A : Nat → Prop} {u U : State} {H : Heap} (hvm : u.vm.Alike U.vm) (h : vx_L C n d A u H) : vx_L C n d A U H := by
  obtain ⟨c, k, i, f, a, cell, h1, h2, h3, h4, h5, h6, h7, h8, h9, h10⟩ := h
  obtain ⟨k', hi', he⟩ := State.fieldFound?_setVm hvm h2
  exact ⟨c, k', i, f, a, cell, by rw [hvm.findClass]; exact h1, hi', h3, by rw [he]; exact h4, h5, h6, h7, h8, by rw [he]; exact h9, h10⟩
theorem vx_L.kept {C n d : String} {A : Nat → Prop} {U : State} {H H1 : Heap} (h : vx_L C n d A U H) (hq : ∀ a : Nat, a < H.size → ¬ A a → H1[a]? = H[a]?) : vx_L C n d A U H1 := by
  obtain ⟨c, k, i, f, a, cell, h1, h2, h3, h4, h5, h6, h7, h8, h9, h10⟩ := h
  exact ⟨c, k, i, f, a, cell, h1, h2, h3, h4, by rw [hq a (Array.getElem?_eq_some_iff.mp h5).1 h10]; exact h5, h6, h7, h8, h9, h10⟩
theorem vx_L.narrow {C n d : String} {A B : Nat → Prop} {U : State} {H : Heap} (h : vx_L C n d A U H) (hAB : ∀ q, B q → A q) : vx_L C n d B U H := by
  obtain ⟨c, k, i, f, a, cell, h1, h2, h3, h4, h5, h6, h7, h8, h9, h10⟩ := h
  exact ⟨c, k, i, f, a, cell, h1, h2, h3, h4, h5, h6, h7, h8, h9, fun z => h10 (hAB _ z)⟩
theorem vx_L.word {C n d : String} {A : Nat → Prop} {s : State} {args : Array Value} (h : vx_L C n d A s s.heap) : (Cond.laysStatic C n d).before args s = true := by
  obtain ⟨c, k, i, f, a, cell, h1, h2, h3, h4, h5, h6, h7, h8, h9, -⟩ := h
  show (Cond.laysStatic C n d).holds args s none s [] = true
  exact Cond.laysStatic_of h1 h2 h3 h4 h5 h6 h7 h8 h9
/-- .. and what it holds: null or some reference -/
def vx_Zq (C n d : String) (A : Nat → Prop) (U : State) (H : Heap) : Prop := va_Zq C n d A U H ∧ vx_L C n d A U H
theorem vx_Zq.moved {C n d : String} {A : Nat → Prop} {u U : State} {H : Heap} (hvm : u.vm.Alike U.vm) (h : vx_Zq C n d A u H) : vx_Zq C n d A U H := ⟨va_Zq.moved hvm h.1, vx_L.moved hvm h.2⟩
theorem vx_Zq.kept {C n d : String} {A : Nat → Prop} {U : State} {H H1 : Heap} (h : vx_Zq C n d A U H) (hq : ∀ a : Nat, a < H.size → ¬ A a → H1[a]? = H[a]?) : vx_Zq C n d A U H1 := ⟨va_Zq.kept h.1 hq, vx_L.kept h.2 hq⟩
theorem vx_Zq.narrow {C n d : String} {A B : Nat → Prop} {U : State} {H : Heap} (h : vx_Zq C n d A U H) (hAB : ∀ q, B q → A q) : vx_Zq C n d B U H := ⟨va_Zq.narrow h.1 hAB, vx_L.narrow h.2 hAB⟩
theorem vx_Zqof {args : Array Value} {s : State} {C n d : String} {A : Nat → Prop} (hl : (Cond.laysStatic C n d).before args s = true) (hini : (Cond.initialized C).before args s = true) (h : (Cond.isRef (.static C n d)).before args s = true) (hA : ∀ a : Nat, a < s.heap.size → ¬ A a) : vx_Zq C n d A s s.heap := by
  refine ⟨va_Zqof hl hini h hA, ?_⟩
  obtain ⟨c, k, i, f, a, cell, h1, h2, h3, h4, h5, h6, h7, h8, h9⟩ := Cond.laysStatic_spec hl
  exact ⟨c, k, i, f, a, cell, h1, h2, h3, h4, h5, h6, h7, h8, h9, hA a (Array.getElem?_eq_some_iff.mp h5).1⟩
theorem vx_isRef {C n d : String} {v : Value} {A : Nat → Prop} {s : State} {args : Array Value} (h : va_Z C n d v A s s.heap) (hv : v.isRef = true) : (Cond.isRef (.static C n d)).before args s = true := by
  obtain ⟨cf, kf, fi, f, a, cell, h1, h2, h3, h4, h5, h6, h7, -⟩ := h
  have he : (Term.static C n d).eval args s none [] s = some v := by
    simp [Term.eval, State.fieldNamed?, h1, h2, h4, h5, h6, h7]
  simp only [Cond.before, Cond.holds, Cond.value, he]
  cases v <;> simp_all [Value.isRef]
theorem vx_isRefq {C n d : String} {A : Nat → Prop} {s : State} {args : Array Value} (h : va_Zq C n d A s s.heap) : (Cond.isRef (.static C n d)).before args s = true := by
  rcases h with h | ⟨t, h⟩
  · exact vx_isRef h rfl
  · exact vx_isRef h rfl
/-- the same frame, seen from here: as if the method were called anew in this heap -/
theorem vx_rebase {T : State} (X : Stand p l e R s m args below meth c T locs cells slots) {R' : Room} (hf : R'.frames ≤ R.frames) (hl : R'.locals ≤ R.locals) (hc : cells + R'.cells ≤ R.cells) (hs : slots + R'.slots ≤ R.slots) :
    Stand p l e R' ((T.setVm s.vm).setFrames (.invoking m args :: below)) m args below meth c T [] 0 0 := by
  have htop : (T.setVm s.vm).topJava?.isSome := X.here.top
  have hF : ((T.setVm s.vm).setFrames (.invoking m args :: below)).frames = .invoking m args :: below := State.frames_setFrames _ (State.cur_lt_of_top htop)
  obtain ⟨g₀, hg0⟩ := Option.isSome_iff_exists.mp htop
  obtain ⟨r, hr⟩ := State.topJava?_eq_some.mp hg0
  have hl9 : e.platform.stackLimits (T.setVm s.vm).me = e.platform.stackLimits s.me := X.limits
  have hb9 : (T.setVm s.vm).me.stackBytes = s.me.stackBytes := X.bytes
  refine ⟨X.admits, X.cas, X.clock, hF, ?_, X.hears, X.method, X.code, X.here, X.tail, X.warmed, ?_, ?_, ?_⟩
  · have h := X.room
    have hU : ((T.setVm s.vm).setFrames (.invoking m args :: below)).localsInUse = s.localsInUse := by
      rw [State.localsInUse_invoking hF (meth := meth) (c := c) X.method X.code, State.localsInUse_invoking X.frames X.method X.code]
    simp only [State.hasRoom, Bool.and_eq_true, decide_eq_true_eq] at h ⊢
    obtain ⟨⟨⟨⟨h1, h2, h3, h4, h5, h6⟩, h7⟩, h8⟩, h9⟩ := h
    rw [X.frames, List.length_cons] at h2 h3
    have q1 := X.heapSize
    have q2 := X.used
    simp only [hF, hU, List.length_cons, State.stackLimits_setFrames, State.stackBytes_setFrames, hl9, hb9]
    refine ⟨⟨⟨⟨by omega, by omega, by omega, by omega, by omega, h6⟩, ?_⟩, ?_⟩, X.book⟩
    · show T.heap.size + R'.cells ≤ e.platform.maxCells
      omega
    · show T.slotsUsed + R'.slots ≤ e.platform.maxSlots
      omega
  · rw [State.stackLimits_setFrames]; rfl
  · rw [State.stackBytes_setFrames]; rfl
  · refine ⟨?_, Nat.le_refl _, Nat.le_refl _, ?_, ?_, fun a c9 h9 => ⟨c9, h9, rfl, rfl, fun _ _ => rfl⟩⟩
    · obtain ⟨t, ht, -⟩ := State.frames_cons hr
      show T.setVm s.vm = { ((T.setVm s.vm).setFrames (.invoking m args :: below)).setFrames (T.setVm s.vm).frames with heap := T.heap, slotsUsed := T.slotsUsed }
      rw [State.setFrames_setFrames, State.setFrames_self ht]
      rfl
    · show T.slotsUsed = T.slotsUsed + ((T.heap.toList.drop T.heap.size).map (·.slots.size)).sum
      rw [List.drop_eq_nil_of_le (Nat.le_of_eq Array.length_toList)]
      rfl
    · show ((T.heap.toList.drop T.heap.size).map (·.slots.size)).sum ≤ 0
      rw [List.drop_eq_nil_of_le (Nat.le_of_eq Array.length_toList)]
      exact Nat.le_refl _
/-- 'throw new E()': new; dup; invokespecial; athrow -/
theorem vx_throw0 {cc : ByteArray} {pc : Nat} (hexec : p.tables.exec = Jvm.exec) (hb : c.code = cc) (hl : l.stackTraces = false) {own cls : String} {names : List String} {ik ic mc ms : Nat} {A : Nat → Prop}
    (hown : s.vm.findClass own = some m.cls) (hcls : Bundle.fit cls = true) (hnames : ∀ n ∈ names, Bundle.fit n = true)
    (hk : (Cond.classLink own ik cls).before args s = true) (hini : (Cond.initialized cls).before args s = true) (hat : ∀ w ∈ vx_at0 own ic cls names, w.before args s = true)
    (hgood : ∀ w ∈ Cond.classLink own ik cls :: Cond.initialized cls :: vx_at0 own ic cls names, vx_ot w = true)
    (hU : vx_Zq Bundle.tN "UNASSIGNED_STACK" Bundle.steD A s s.heap) (hN : vx_Zq Bundle.tN "SUPPRESSED_SENTINEL" Bundle.listD A s s.heap) (hS : va_S A s.heap H locs) (hsize : ls.size = c.maxLocals)
    (d0 : decode cc pc = .ok (.new ik, 3)) (d3 : decode cc (pc + 3) = .ok (.dup, 1)) (d4 : decode cc (pc + 4) = .ok (.invokespecial ic, 3)) (d7 : decode cc (pc + 7) = .ok (.athrow, 1))
    (hout : ∀ x ∈ c.exceptionTable.toList, covers x (pc + 7) = false)
    (hRframes : names.length + 3 < R.frames) (hRlocals : (rest.map fun v => v.category).sum + (13 * (names.length + 1) + 42) ≤ R.locals) (hRcells : cells + 1 ≤ R.cells) (hRslots : slots + 6 ≤ R.slots) (hlocks : meth.locks = false)
    (hx : ∀ t : State, s.vm.Alike t.vm → H.size ≤ t.heap.size → (∀ q : Nat, q < H.size → t.heap[q]? = H[q]?) → XC cls s t)
    (hf : ∀ z ∈ locs, free z.base) (hc : cells + 1 ≤ mc) (hs : slots + 6 ≤ ms) :
    W p l e R s m args below meth c H locs cells slots (vx_MQ below Qc XC args s mc ms free) (F0 m pc ls rest) := by
  intro T hT X
  have htr : e.platform.stackTraces = false := (show e.platform.stackTraces = l.stackTraces by rw [X.admits.platform]).trans hl
  have Y := vx_rebase X (R' := { frames := R.frames, locals := R.locals, cells := 1, slots := 6 }) (Nat.le_refl _) (Nat.le_refl _) hRcells hRslots
  obtain ⟨s', hA⟩ : ∃ z, z = (T.setVm s.vm).setFrames (.invoking m args :: below) := ⟨_, rfl⟩
  rw [← hA] at Y
  have hvm : s'.vm = s.vm := by rw [hA]; rfl
  have hhp : s'.heap = H := by rw [hA]; exact hT
  have hW0 : s.WarmedH s'.vm := by rw [hvm]; exact State.WarmedH.refl s
  have hat' : ∀ w ∈ vx_at0 own ic cls names, w.before args s' = true := fun w hw => vx_ot_at hW0 hvm.symm (hgood w (List.mem_cons_of_mem _ (List.mem_cons_of_mem _ hw))) (hat w hw)
  have hk' : (Cond.classLink own ik cls).before args s' = true := vx_ot_at hW0 hvm.symm (hgood _ List.mem_cons_self) hk
  have hini' : (Cond.initialized cls).before args s' = true := vx_ot_at hW0 hvm.symm (hgood _ (List.mem_cons_of_mem _ List.mem_cons_self)) hini
  have hU' : vx_Zq Bundle.tN "UNASSIGNED_STACK" Bundle.steD A s' s'.heap := by rw [hhp]; exact vx_Zq.moved hW0.alike (hU.kept hS.2.1)
  have hN' : vx_Zq Bundle.tN "SUPPRESSED_SENTINEL" Bundle.listD A s' s'.heap := by rw [hhp]; exact vx_Zq.moved hW0.alike (hN.kept hS.2.1)
  have h : ∀ w ∈ Bundle.ownAtoms0 own ic cls names, w.before args s' = true := vx_own hat' (vx_isRefq hU'.1) (vx_isRefq hN'.1) hU'.2.word hN'.2.word
  have hown' : s'.vm.findClass own = some m.cls := by rw [hvm]; exact hown
  have hins : (Cond.instantiable cls 6).before args s' = true := h _ (by simp [Bundle.ownAtoms0])
  obtain ⟨vm₁, cX, kX, hfX, hkX, -, -, X₁, st1⟩ := Y.newCold hexec (own := own) (C := cls) (index := ik) (n := 6) hown' hk' hins hini'
    (g := F0 m pc ls rest) rfl (by rw [hb]; exact d0) (Nat.le_refl _) (Nat.le_refl _)
  generalize hT1 : (T.setVm vm₁).pushCell { cls := cX, slots := kX.instanceTypes.map defaultValue, vm := .none } = T1 at X₁ st1
  have hcat : (Value.ref T.heap.size).category = 1 := rfl
  have hcellA : T1.heap[T.heap.size]? = some (freshCell cX kX) := by rw [← hT1]; exact State.heap_pushCell_size _ _
  have d3' : decode c.code (pc + 3) = .ok (.dup, 1) := by rw [hb]; exact d3
  obtain ⟨U, hsteps, hrun, hend, hW, hsame, ce, hce, hO⟩ := X₁.ctorThrow0 hexec htr (own := own) (cls := cls) (names := names) (ic := ic) hown' hcls hnames h (fun x hx => nomatch hx) hfX hkX hcellA (by rw [hhp, hT]; exact Nat.le_refl _)
    (g := { method := m, pc := pc + 4, locals := ls, stack := .ref T.heap.size :: .ref T.heap.size :: rest, locked := none }) rfl hsize rfl rfl (rest := rest) rfl
    (by rw [hb]; exact d4) (by rw [hb]; exact d7) hout hRframes (by simp only [List.map_cons, List.sum_cons, hcat]; omega) hlocks
  obtain ⟨f1, f2⟩ := vx_frame hsame
  rw [hhp] at f1 f2
  have hWs : s.WarmedH U.vm := State.WarmedH.trans hW0 hW
  have hcl : s.vm.findClass cls = some ce.cls := by
    have h9 := hO.cls
    rw [hvm] at h9
    exact h9
  have hall : s.sameButNew ({ U with vm := s.vm } : State) locs mc ms := by
    subst hA
    obtain ⟨e1, e2⟩ := hsame
    rw [State.setFrames_setFrames] at e1
    have h2 : (T.setVm s.vm).sameButNew ({ U with vm := s.vm } : State) [] (0 + 1) (0 + 6) := ⟨e1, e2⟩
    have h3 := X.same.trans h2
    rw [List.append_nil] at h3
    exact h3.mono hc hs
  refine ⟨U, ?_, .threw T.heap.size, hrun, hend, Or.inr ⟨T.heap.size, rfl, cls, ce, locs, hx U hWs.alike f1 (fun q hq => f2 q hq (fun z hz => nomatch hz)), hce, hO.vm, hcl, hWs, hall, hf⟩⟩
  refine st1 _ ?_
  show Steps p.tables e below (T1.setTop { method := m, pc := pc + 3, locals := ls, stack := .ref T.heap.size :: rest, locked := none }) _
  jvm_step X₁.here [X₁.here.top, hexec, d3', Value.category]
  exact hsteps
/-- 'throw new E("text")': new; dup; ldc; invokespecial; athrow -/
theorem vx_throwS {cc : ByteArray} {pc : Nat} (hexec : p.tables.exec = Jvm.exec) (hb : c.code = cc) (hl : l.stackTraces = false) {own cls text : String} {names : List String} {ik is ic mc ms sa : Nat} {A : Nat → Prop}
    (hown : s.vm.findClass own = some m.cls) (hcls : Bundle.fit cls = true) (hnames : ∀ n ∈ names, Bundle.fit n = true)
    (hk : (Cond.classLink own ik cls).before args s = true) (hini : (Cond.initialized cls).before args s = true) (hstr : vk_R own is text sa s) (hat : ∀ w ∈ vx_atS own ic cls names, w.before args s = true)
    (hgood : ∀ w ∈ Cond.classLink own ik cls :: Cond.initialized cls :: vx_atS own ic cls names, vx_ot w = true)
    (hU : vx_Zq Bundle.tN "UNASSIGNED_STACK" Bundle.steD A s s.heap) (hN : vx_Zq Bundle.tN "SUPPRESSED_SENTINEL" Bundle.listD A s s.heap) (hS : va_S A s.heap H locs) (hsize : ls.size = c.maxLocals)
    (d0 : decode cc pc = .ok (.new ik, 3)) (d3 : decode cc (pc + 3) = .ok (.dup, 1)) (d4 : decode cc (pc + 4) = .ok (.ldc is, 2)) (d6 : decode cc (pc + 6) = .ok (.invokespecial ic, 3)) (d9 : decode cc (pc + 9) = .ok (.athrow, 1))
    (hout : ∀ x ∈ c.exceptionTable.toList, covers x (pc + 9) = false)
    (hRframes : names.length + 3 < R.frames) (hRlocals : (rest.map fun v => v.category).sum + (13 * (names.length + 1) + 43) ≤ R.locals) (hRcells : cells + 1 ≤ R.cells) (hRslots : slots + 6 ≤ R.slots) (hlocks : meth.locks = false)
    (hx : ∀ t : State, s.vm.Alike t.vm → H.size ≤ t.heap.size → (∀ q : Nat, q < H.size → t.heap[q]? = H[q]?) → XC cls s t)
    (hf : ∀ z ∈ locs, free z.base) (hc : cells + 1 ≤ mc) (hs : slots + 6 ≤ ms) :
    W p l e R s m args below meth c H locs cells slots (vx_MQ below Qc XC args s mc ms free) (F0 m pc ls rest) := by
  intro T hT X
  have htr : e.platform.stackTraces = false := (show e.platform.stackTraces = l.stackTraces by rw [X.admits.platform]).trans hl
  have Y := vx_rebase X (R' := { frames := R.frames, locals := R.locals, cells := 1, slots := 6 }) (Nat.le_refl _) (Nat.le_refl _) hRcells hRslots
  obtain ⟨s', hA⟩ : ∃ z, z = (T.setVm s.vm).setFrames (.invoking m args :: below) := ⟨_, rfl⟩
  rw [← hA] at Y
  have hvm : s'.vm = s.vm := by rw [hA]; rfl
  have hhp : s'.heap = H := by rw [hA]; exact hT
  have hW0 : s.WarmedH s'.vm := by rw [hvm]; exact State.WarmedH.refl s
  have hat' : ∀ w ∈ vx_atS own ic cls names, w.before args s' = true := fun w hw => vx_ot_at hW0 hvm.symm (hgood w (List.mem_cons_of_mem _ (List.mem_cons_of_mem _ hw))) (hat w hw)
  have hk' : (Cond.classLink own ik cls).before args s' = true := vx_ot_at hW0 hvm.symm (hgood _ List.mem_cons_self) hk
  have hini' : (Cond.initialized cls).before args s' = true := vx_ot_at hW0 hvm.symm (hgood _ (List.mem_cons_of_mem _ List.mem_cons_self)) hini
  have hU' : vx_Zq Bundle.tN "UNASSIGNED_STACK" Bundle.steD A s' s'.heap := by rw [hhp]; exact vx_Zq.moved hW0.alike (hU.kept hS.2.1)
  have hN' : vx_Zq Bundle.tN "SUPPRESSED_SENTINEL" Bundle.listD A s' s'.heap := by rw [hhp]; exact vx_Zq.moved hW0.alike (hN.kept hS.2.1)
  have h : ∀ w ∈ Bundle.ownAtoms own ic cls names, w.before args s' = true := vx_own hat' (vx_isRefq hU'.1) (vx_isRefq hN'.1) hU'.2.word hN'.2.word
  have hown' : s'.vm.findClass own = some m.cls := by rw [hvm]; exact hown
  have hins : (Cond.instantiable cls 6).before args s' = true := h _ (by simp [Bundle.ownAtoms])
  obtain ⟨vm₁, cX, kX, hfX, hkX, -, -, X₁, st1⟩ := Y.newCold hexec (own := own) (C := cls) (index := ik) (n := 6) hown' hk' hins hini'
    (g := F0 m pc ls rest) rfl (by rw [hb]; exact d0) (Nat.le_refl _) (Nat.le_refl _)
  generalize hT1 : (T.setVm vm₁).pushCell { cls := cX, slots := kX.instanceTypes.map defaultValue, vm := .none } = T1 at X₁ st1
  have hcat : (Value.ref T.heap.size).category = 1 := rfl
  have hcellA : T1.heap[T.heap.size]? = some (freshCell cX kX) := by rw [← hT1]; exact State.heap_pushCell_size _ _
  have d3' : decode c.code (pc + 3) = .ok (.dup, 1) := by rw [hb]; exact d3
  have d4' : decode c.code (pc + 4) = .ok (.ldc is, 2) := by rw [hb]; exact d4
  have hstr' : vk_R own is text sa s' := vk_R.warm hW0 hstr
  obtain ⟨U, hsteps, hrun, hend, hW, hsame, ce, hce, hO⟩ := X₁.ctorThrowS hexec htr (own := own) (cls := cls) (names := names) (ic := ic) hown' hcls hnames h (fun x hx => nomatch hx) hfX hkX hcellA (by rw [hhp, hT]; exact Nat.le_refl _) (msg := .ref sa) rfl
    (g := { method := m, pc := pc + 6, locals := ls, stack := .ref sa :: .ref T.heap.size :: .ref T.heap.size :: rest, locked := none }) rfl hsize rfl rfl (rest := rest) rfl
    (by rw [hb]; exact d6) (by rw [hb]; exact d9) hout hRframes (by simp only [List.map_cons, List.sum_cons, hcat]; omega) hlocks
  obtain ⟨f1, f2⟩ := vx_frame hsame
  rw [hhp] at f1 f2
  have hWs : s.WarmedH U.vm := State.WarmedH.trans hW0 hW
  have hcl : s.vm.findClass cls = some ce.cls := by
    have h9 := hO.cls
    rw [hvm] at h9
    exact h9
  have hall : s.sameButNew ({ U with vm := s.vm } : State) locs mc ms := by
    subst hA
    obtain ⟨e1, e2⟩ := hsame
    rw [State.setFrames_setFrames] at e1
    have h2 : (T.setVm s.vm).sameButNew ({ U with vm := s.vm } : State) [] (0 + 1) (0 + 6) := ⟨e1, e2⟩
    have h3 := X.same.trans h2
    rw [List.append_nil] at h3
    exact h3.mono hc hs
  refine ⟨U, ?_, .threw T.heap.size, hrun, hend, Or.inr ⟨T.heap.size, rfl, cls, ce, locs, hx U hWs.alike f1 (fun q hq => f2 q hq (fun z hz => nomatch hz)), hce, hO.vm, hcl, hWs, hall, hf⟩⟩
  refine st1 _ ?_
  show Steps p.tables e below (T1.setTop { method := m, pc := pc + 3, locals := ls, stack := .ref T.heap.size :: rest, locked := none }) _
  jvm_step X₁.here [X₁.here.top, hexec, d3', Value.category]
  exact X₁.ldcString hexec (own := own) (text := text) (index := is) (a := sa) hown' hstr'.1 hstr'.2
    (g := { method := m, pc := pc + 4, locals := ls, stack := .ref T.heap.size :: .ref T.heap.size :: rest, locked := none }) rfl d4' _ hsteps
/-- 'throw new E("text")', the text by a wide index -/
theorem vx_throwSW {cc : ByteArray} {pc : Nat} (hexec : p.tables.exec = Jvm.exec) (hb : c.code = cc) (hl : l.stackTraces = false) {own cls text : String} {names : List String} {ik is ic mc ms sa : Nat} {A : Nat → Prop}
    (hown : s.vm.findClass own = some m.cls) (hcls : Bundle.fit cls = true) (hnames : ∀ n ∈ names, Bundle.fit n = true)
    (hk : (Cond.classLink own ik cls).before args s = true) (hini : (Cond.initialized cls).before args s = true) (hstr : vk_R own is text sa s) (hat : ∀ w ∈ vx_atS own ic cls names, w.before args s = true)
    (hgood : ∀ w ∈ Cond.classLink own ik cls :: Cond.initialized cls :: vx_atS own ic cls names, vx_ot w = true)
    (hU : vx_Zq Bundle.tN "UNASSIGNED_STACK" Bundle.steD A s s.heap) (hN : vx_Zq Bundle.tN "SUPPRESSED_SENTINEL" Bundle.listD A s s.heap) (hS : va_S A s.heap H locs) (hsize : ls.size = c.maxLocals)
    (d0 : decode cc pc = .ok (.new ik, 3)) (d3 : decode cc (pc + 3) = .ok (.dup, 1)) (d4 : decode cc (pc + 4) = .ok (.ldc_w is, 3)) (d7 : decode cc (pc + 7) = .ok (.invokespecial ic, 3)) (d10 : decode cc (pc + 10) = .ok (.athrow, 1))
    (hout : ∀ x ∈ c.exceptionTable.toList, covers x (pc + 10) = false)
    (hRframes : names.length + 3 < R.frames) (hRlocals : (rest.map fun v => v.category).sum + (13 * (names.length + 1) + 43) ≤ R.locals) (hRcells : cells + 1 ≤ R.cells) (hRslots : slots + 6 ≤ R.slots) (hlocks : meth.locks = false)
    (hx : ∀ t : State, s.vm.Alike t.vm → H.size ≤ t.heap.size → (∀ q : Nat, q < H.size → t.heap[q]? = H[q]?) → XC cls s t)
    (hf : ∀ z ∈ locs, free z.base) (hc : cells + 1 ≤ mc) (hs : slots + 6 ≤ ms) :
    W p l e R s m args below meth c H locs cells slots (vx_MQ below Qc XC args s mc ms free) (F0 m pc ls rest) := by
  intro T hT X
  have htr : e.platform.stackTraces = false := (show e.platform.stackTraces = l.stackTraces by rw [X.admits.platform]).trans hl
  have Y := vx_rebase X (R' := { frames := R.frames, locals := R.locals, cells := 1, slots := 6 }) (Nat.le_refl _) (Nat.le_refl _) hRcells hRslots
  obtain ⟨s', hA⟩ : ∃ z, z = (T.setVm s.vm).setFrames (.invoking m args :: below) := ⟨_, rfl⟩
  rw [← hA] at Y
  have hvm : s'.vm = s.vm := by rw [hA]; rfl
  have hhp : s'.heap = H := by rw [hA]; exact hT
  have hW0 : s.WarmedH s'.vm := by rw [hvm]; exact State.WarmedH.refl s
  have hat' : ∀ w ∈ vx_atS own ic cls names, w.before args s' = true := fun w hw => vx_ot_at hW0 hvm.symm (hgood w (List.mem_cons_of_mem _ (List.mem_cons_of_mem _ hw))) (hat w hw)
  have hk' : (Cond.classLink own ik cls).before args s' = true := vx_ot_at hW0 hvm.symm (hgood _ List.mem_cons_self) hk
  have hini' : (Cond.initialized cls).before args s' = true := vx_ot_at hW0 hvm.symm (hgood _ (List.mem_cons_of_mem _ List.mem_cons_self)) hini
  have hU' : vx_Zq Bundle.tN "UNASSIGNED_STACK" Bundle.steD A s' s'.heap := by rw [hhp]; exact vx_Zq.moved hW0.alike (hU.kept hS.2.1)
  have hN' : vx_Zq Bundle.tN "SUPPRESSED_SENTINEL" Bundle.listD A s' s'.heap := by rw [hhp]; exact vx_Zq.moved hW0.alike (hN.kept hS.2.1)
  have h : ∀ w ∈ Bundle.ownAtoms own ic cls names, w.before args s' = true := vx_own hat' (vx_isRefq hU'.1) (vx_isRefq hN'.1) hU'.2.word hN'.2.word
  have hown' : s'.vm.findClass own = some m.cls := by rw [hvm]; exact hown
  have hins : (Cond.instantiable cls 6).before args s' = true := h _ (by simp [Bundle.ownAtoms])
  obtain ⟨vm₁, cX, kX, hfX, hkX, -, -, X₁, st1⟩ := Y.newCold hexec (own := own) (C := cls) (index := ik) (n := 6) hown' hk' hins hini'
    (g := F0 m pc ls rest) rfl (by rw [hb]; exact d0) (Nat.le_refl _) (Nat.le_refl _)
  generalize hT1 : (T.setVm vm₁).pushCell { cls := cX, slots := kX.instanceTypes.map defaultValue, vm := .none } = T1 at X₁ st1
  have hcat : (Value.ref T.heap.size).category = 1 := rfl
  have hcellA : T1.heap[T.heap.size]? = some (freshCell cX kX) := by rw [← hT1]; exact State.heap_pushCell_size _ _
  have d3' : decode c.code (pc + 3) = .ok (.dup, 1) := by rw [hb]; exact d3
  have d4' : decode c.code (pc + 4) = .ok (.ldc_w is, 3) := by rw [hb]; exact d4
  have hstr' : vk_R own is text sa s' := vk_R.warm hW0 hstr
  obtain ⟨U, hsteps, hrun, hend, hW, hsame, ce, hce, hO⟩ := X₁.ctorThrowS hexec htr (own := own) (cls := cls) (names := names) (ic := ic) hown' hcls hnames h (fun x hx => nomatch hx) hfX hkX hcellA (by rw [hhp, hT]; exact Nat.le_refl _) (msg := .ref sa) rfl
    (g := { method := m, pc := pc + 7, locals := ls, stack := .ref sa :: .ref T.heap.size :: .ref T.heap.size :: rest, locked := none }) rfl hsize rfl rfl (rest := rest) rfl
    (by rw [hb]; exact d7) (by rw [hb]; exact d10) hout hRframes (by simp only [List.map_cons, List.sum_cons, hcat]; omega) hlocks
  obtain ⟨f1, f2⟩ := vx_frame hsame
  rw [hhp] at f1 f2
  have hWs : s.WarmedH U.vm := State.WarmedH.trans hW0 hW
  have hcl : s.vm.findClass cls = some ce.cls := by
    have h9 := hO.cls
    rw [hvm] at h9
    exact h9
  have hall : s.sameButNew ({ U with vm := s.vm } : State) locs mc ms := by
    subst hA
    obtain ⟨e1, e2⟩ := hsame
    rw [State.setFrames_setFrames] at e1
    have h2 : (T.setVm s.vm).sameButNew ({ U with vm := s.vm } : State) [] (0 + 1) (0 + 6) := ⟨e1, e2⟩
    have h3 := X.same.trans h2
    rw [List.append_nil] at h3
    exact h3.mono hc hs
  refine ⟨U, ?_, .threw T.heap.size, hrun, hend, Or.inr ⟨T.heap.size, rfl, cls, ce, locs, hx U hWs.alike f1 (fun q hq => f2 q hq (fun z hz => nomatch hz)), hce, hO.vm, hcl, hWs, hall, hf⟩⟩
  refine st1 _ ?_
  show Steps p.tables e below (T1.setTop { method := m, pc := pc + 3, locals := ls, stack := .ref T.heap.size :: rest, locked := none }) _
  jvm_step X₁.here [X₁.here.top, hexec, d3', Value.category]
  exact X₁.ldcStringW hexec (own := own) (text := text) (index := is) (a := sa) hown' hstr'.1 hstr'.2
    (g := { method := m, pc := pc + 4, locals := ls, stack := .ref T.heap.size :: .ref T.heap.size :: rest, locked := none }) rfl d4' _ hsteps
end Ends
section Bodies
variable {l : Launch}
theorem vx_ofW {y : MethodName} {ws ws' : List Cond} {rm : Room} {Pc : Array Value → State → Prop} {Qc : Array Value → State → Outcome → State → Prop} {XC : String → State → State → Prop} {mc ms : Nat} {free : Addr → Prop} {cc : ByteArray} {maxL : Nat} {ret : Option FieldType}
    (hy : plainName y.cls = true) (hw : ws = Cond.code y cc maxL ret :: ws')
    (body : ∀ p e s m args below meth c s₁, BodyLoose p l y (headSpec ws rm) cc maxL ret e s m args below meth c s₁ → c.maxLocals = maxL → (∀ x ∈ c.exceptionTable.toList, False) → Pc args s →
      W p l e (headSpec ws rm).room s m args below meth c s.heap [] 0 0 (vx_MQ below Qc XC args s mc ms free) (entryFrame m args maxL)) : vx_Met l y ws rm Pc Qc XC mc ms free := by
  refine MetFree.of_bodyS (code := cc) (maxLocals := maxL) (ret := ret) hy ?_ ?_
  · intro args s m h hn
    obtain ⟨meth, c, h1, h2, h3, h4, h5, h6, -, -⟩ := Cond.code_spec hn (atoms_spec (ws := ws) h _ (by rw [hw]; exact List.mem_cons_self))
    exact ⟨meth, c, h1, h2, h3, h4, h5, h6⟩
  · intro p e s m args below meth c s₁ B hml hP _
    have hh0 : s₁.heap = s.heap := by rw [B.state]; rfl
    have ht : ∀ x ∈ c.exceptionTable.toList, False := by
      obtain ⟨meth9, c9, h1, h2, -, -, -, -, h7, -⟩ := Cond.code_spec B.named (atoms_spec (ws := ws) B.pre _ (by rw [hw]; exact List.mem_cons_self))
      cases Option.some.inj (h1.symm.trans B.method)
      cases Option.some.inj (h2.symm.trans (Stand.of_body B).code)
      intro x hx
      rw [Array.isEmpty_iff.mp h7] at hx
      cases hx
    obtain ⟨t, a1, o, b1, b2, b3⟩ := body p e s m args below meth c s₁ B hml ht hP s₁ hh0 (Stand.of_body B)
    exact ⟨t, o, a1, b1, b2, b3⟩
/-- the table of a body with handlers -/
theorem vx_table {p : Program} {x y : MethodName} {S : Spec} {cc bytes : ByteArray} {maxL maxL' : Nat} {ret ret' : Option FieldType} {e : Env} {s s₁ : State} {m : MethodId} {args : Array Value} {below : List Frame} {meth : Method} {c : Code} {hh : List (Nat × Nat × Nat × Nat)}
    (B : BodyLoose p l y S cc maxL ret e s m args below meth c s₁) (h : (Cond.codeWith y bytes maxL' ret' hh).before args s = true) : c.exceptionTable.toList = tableOf hh := by
  obtain ⟨m9, meth9, c9, hn9, h1, h2, -, -, h6, -⟩ := Cond.codeWith_spec h
  cases Option.some.inj (hn9.symm.trans B.named)
  cases Option.some.inj (h1.symm.trans B.method)
  cases Option.some.inj (h2.symm.trans (Stand.of_body B).code)
  rw [← h6, table_eq]
end Bodies
end VXA
/-! ===== END ===== -/
/-! ===== BEGIN a static call of a method with an exception table ===== -/
section VXS
variable {p : Program} {l : Launch} {e : Env} {R : Room} {s : State} {m : MethodId} {args : Array Value} {below : List Frame} {meth : Method} {c : Code} {T : State} {H : Heap} {locs : List Loc} {cells slots : Nat}
abbrev vx_CSW (R : Room) (s : State) (args : Array Value) (own : String) (index : Nat) (y : MethodName) (bytes : ByteArray) (maxL : Nat) (ret : Option FieldType) (hh : List (Nat × Nat × Nat × Nat)) (ws : List Cond) (rm : Room) (mc ms n : Nat) : Prop :=
  (rm.cells = mc ∧ rm.slots = ms ∧ rm.frames + 1 ≤ R.frames ∧ 8 + (maxL + 11) + rm.locals ≤ R.locals ∧ (∀ w ∈ ws, ∀ (a' : Array Value) (U : State), s.WarmedH U.vm → w.before a' U = true) ∧ Cond.codeWith y bytes maxL ret hh ∈ ws) ∧
  (Cond.codeWith y bytes maxL ret hh).before args s = true ∧ (Cond.initialized y.cls).before args s = true ∧ (y.cls ≠ "java/lang/invoke/MethodHandle" ∧ y.cls ≠ "java/lang/invoke/VarHandle") ∧
  (∀ sig, parseMethodDescriptor y.desc = some sig → n = sig.parameters.length) ∧ (Cond.methodLink own index y).before args s = true ∧ (Cond.static y).before args s = true
theorem vx_cwSW {own : String} {index maxL mc ms : Nat} {y : MethodName} {bytes : ByteArray} {ret : Option FieldType} {hh : List (Nat × Nat × Nat × Nat)} {Ts ws ws' : List Cond} {rm : Room} (n : Nat) (ht : ∀ w ∈ Ts, w.before args s = true) (hT : GoodIn Ts (va_wsS own index y ws)) (hw : ws = Cond.codeWith y bytes maxL ret hh :: ws') (hrc : rm.cells = mc) (hrs : rm.slots = ms)
    (hd : y.cls ≠ "java/lang/invoke/MethodHandle" ∧ y.cls ≠ "java/lang/invoke/VarHandle" ∧ (parseMethodDescriptor y.desc).map (fun d => d.parameters.length) = some n) (hR : rm.frames + 1 ≤ R.frames ∧ 8 + (maxL + 11) + rm.locals ≤ R.locals) :
    vx_CSW R s args own index y bytes maxL ret hh ws rm mc ms n := by
  have ok : ∀ w ∈ va_wsS own index y ws, w.before args s = true := fun w h => ht w (hT w h).1
  have hG : GoodIn Ts ws := fun w h => hT w (by unfold va_wsS; exact List.mem_append_right _ h)
  have hc : Cond.codeWith y bytes maxL ret hh ∈ ws := by rw [hw]; exact List.mem_cons_self
  refine ⟨⟨hrc, hrs, hR.1, hR.2, pay_in ht hG, hc⟩, ht _ (hG _ hc).1, ok _ (by simp [va_wsS]), ⟨hd.1, hd.2.1⟩, fun sig h => ?_, ok _ (by simp [va_wsS]), ok _ (by simp [va_wsS])⟩
  have h2 := hd.2.2
  rw [h] at h2
  exact (Option.some.inj h2).symm
theorem vx_callSW (X : Stand p l e R s m args below meth c T locs cells slots) (hexec : p.tables.exec = Jvm.exec) {own : String} {index : Nat} {y : MethodName} {bytes : ByteArray} {maxL : Nat} {ret : Option FieldType} {hh : List (Nat × Nat × Nat × Nat)}
    (hown : s.vm.findClass own = some m.cls) (hlink : (Cond.methodLink own index y).before args s = true) (hstat : (Cond.static y).before args s = true) (hinit : (Cond.initialized y.cls).before args s = true)
    (hcode : (Cond.codeWith y bytes maxL ret hh).before args s = true) (hy : y.cls ≠ "java/lang/invoke/MethodHandle" ∧ y.cls ≠ "java/lang/invoke/VarHandle")
    {W9 : Nat} {Pre : Pt → Array Value → Prop} {Post : Pt → Array Value → Option Value → Pt → Prop} (hK : Back l R p e below s args y 3 W9 Pre Post)
    {g : JFrame} (hg : g.method = m) (hsize : g.locals.size = c.maxLocals) {argsL rest : List Value} (hlen : ∀ sig, parseMethodDescriptor y.desc = some sig → argsL.length = sig.parameters.length)
    (hstack : g.stack = argsL.reverse ++ rest) (hW : 2 * g.monitorRoom + (rest.map fun v => v.category).sum ≤ W9) (hdg : decode c.code g.pc = .ok (.invokestatic index, 3))
    (hpre : ∀ vm₁, s.WarmedH vm₁ → Pre ⟨T.setVm vm₁, locs, cells, slots⟩ argsL.toArray) :
    ∃ (v : Option Value) (vm₁ : Vm) (B : Pt), s.WarmedH vm₁ ∧ Stand p l e R s m args below meth c B.U B.locs B.cells B.slots ∧ Post ⟨T.setVm vm₁, locs, cells, slots⟩ argsL.toArray v B ∧
      ∀ target, Steps p.tables e below (B.U.setTop { g with pc := g.pc + 3, stack := v.toList ++ rest }) target → Steps p.tables e below (T.setTop g) target := by
  obtain ⟨mk, methM, cM, hnamed, hmethM, -, -, -, -, -, -, hsigM⟩ := Cond.codeWith_spec hcode
  have hstatic : methM.isStatic = true := Cond.static_spec hnamed hmethM hstat
  obtain ⟨kP, hkP, -⟩ := className_of_methodNamed hnamed
  have hinitP : kP.init = .initialized := Cond.initialized_spec (findClass_of_methodNamed hnamed) hkP hinit
  obtain ⟨vm₁, X₁, hstep₁⟩ := X.invokestatic hexec hown hlink hnamed hmethM hstatic hkP hinitP hy (g := g) hg (argsL := argsL) (rest := rest) (hlen _ hsigM) hstack hdg
  obtain ⟨v, B, X', hpost, hsteps⟩ := hK m meth c ⟨T.setVm vm₁, locs, cells, slots⟩ { g with stack := rest } (.invokestatic index) mk argsL.toArray X₁ hg hsize hdg hW (X₁.named hnamed) (hpre vm₁ X₁.warmed)
  exact ⟨v, vm₁, B, X₁.warmed, X', hpost, fun target h => hstep₁ _ fun acts => by rw [doInvoke_state]; exact hsteps.trans h⟩
theorem vx_runSW {y : MethodName} {bytes cc : ByteArray} {maxL nL mc ms n index : Nat} {ret : Option FieldType} {hh : List (Nat × Nat × Nat × Nat)} {ws : List Cond} {rm : Room} {Pc : Array Value → State → Prop} {Qc : Array Value → State → Outcome → State → Prop} {free : Addr → Prop} {Ts : List Cond} {own : String} {As rest : List Value} {g : JFrame}
    (S : CallFix p m c cc nL s args Ts own) (hM : Met l y ws rm Pc Qc mc ms free) (cw : vx_CSW R s args own index y bytes maxL ret hh ws rm mc ms n) (hp : PreS s H Pc As)
    (hg : g.method = m) (hn : As.length = n) (hsize : g.locals.size = nL) (hstack : g.stack = As.reverse ++ rest) (hW : 2 * g.monitorRoom + (rest.map fun v => v.category).sum ≤ 8) (hdg : decode cc g.pc = .ok (.invokestatic index, 3)) (hf : cells + mc ≤ R.cells ∧ slots + ms ≤ R.slots) :
    va_Run p l e R s m args below meth c H locs cells slots mc ms g rest (Qc As.toArray) (free) := by
  obtain ⟨⟨hrc, hrs, hfr, hlo, hws, hcw⟩, hcode, hini, hy, hlen, hl, hstt⟩ := cw
  have hK : Back l R p e below s args y 3 8 (PreOf R mc ms Pc) (PostOf Qc mc ms free) := va_backW (hh := hh) (bytes := bytes) (maxL := maxL) (ret := ret) hM hp.1 hrc hrs hfr hlo hws hcw (fun a' U hW => word_at hW (Or.inl (by first | rfl | simp [Cond.onTables, Cond.keeps, Cond.steady])) hini)
  obtain ⟨hx, hb, hml, ho, -⟩ := S
  intro T hT X
  obtain ⟨v, vm₁, ⟨U', l2, c2, s2⟩, hW₁, X', ⟨g', mk, t, L, e1, e2, hq, h1, hL, h2, h3⟩, st⟩ := vx_callSW X hx (hh := hh) (bytes := bytes) (maxL := maxL) (ret := ret) ho hl hstt hini hcode hy hK hg (hsize.trans hml.symm) (argsL := As) (rest := rest) (fun sig h => hn.trans (hlen sig h)) hstack hW (by rw [hb]; exact hdg)
    (fun vm₁ hW₁ => ⟨hf.1, hf.2, hp.2 (T.setVm vm₁) hT hW₁⟩)
  dsimp only [Pt.U, Pt.locs, Pt.cells, Pt.slots] at X' e1 e2 h1 h2 h3 st
  subst h1; subst h2; subst h3
  exact ⟨v, (T.setVm vm₁).calling g' mk As.toArray, t, U', L, hT, X', hL, e1, e2, hq, st⟩
/-- not caught here, past rows that name other classes: it goes on to the caller -/
theorem vx_outP {p : Program} {l : Launch} {e : Env} {R : Room} {s : State} {m : MethodId} {args : Array Value} {below : List Frame} {meth : Method} {c : Code} {H : Heap} {locs : List Loc} {cells slots : Nat} {free : Addr → Prop} {ls : Array Slot} {rest : List Value} {Qc : Array Value → State → Outcome → State → Prop} {XC : String → State → State → Prop}
    {pc : Nat} {own E : String} {ce : Cell} {q : Addr} {mc ms : Nat} (hown : s.vm.findClass own = some m.cls) (hlocks : meth.locks = false)
    (hpass : ∀ z ∈ c.exceptionTable.toList, covers z pc = false ∨ (z.catchType ≠ 0 ∧ ∃ nm : String, (Cond.classLink own z.catchType nm).before args s = true ∧ va_Nc E nm s)) (hcell : H[q]? = some ce) (hv : ce.vm = .none) (hcl : s.vm.findClass E = some ce.cls)
    (hx : ∀ t : State, t.heap = H → s.vm.Alike t.vm → XC E s t) (hf : ∀ z ∈ locs, free z.base) (hc : cells ≤ mc) (hs : slots ≤ ms) :
    vx_W p l e R s m args below meth c H locs cells slots (vx_MQ below Qc XC args s mc ms free) (F0 m pc ls rest) q := by
  intro T hT X
  have hpl : e.platform.magicAccessors = ({} : Platform).magicAccessors := by rw [X.admits.platform]
  obtain ⟨vm', hW', X', st⟩ := X.outThrough hlocks q (g := F0 m pc ls rest) rfl rfl rfl (cell := ce) (by rw [hT]; exact hcell) (by rw [hv]; rfl)
    (by obtain ⟨k9, h9, -⟩ := Vm.findClass_spec hcl; exact ⟨k9, h9⟩) (fun z hz => by
      rcases hpass z hz with h | ⟨hz0, nm, hl1, hn1⟩
      · exact Or.inl h
      · obtain ⟨c6, hc6, hcl6⟩ := Cond.classLink_spec hown hl1 e.platform hpl
        obtain ⟨a8, b8, h1, h2, h3⟩ := hn1
        cases Option.some.inj (h1.symm.trans hcl)
        cases Option.some.inj (h2.symm.trans hc6)
        exact Or.inr ⟨hz0, _, hcl6, h3⟩)
  obtain ⟨g₀, hfr⟩ := X'.frames_eq
  have hcell9 : ((T.setVm vm').setFrames (.throwing q :: below)).heap[q]? = some ce := by
    show T.heap[q]? = some ce
    rw [hT]; exact hcell
  have hend : Ended ((T.setVm vm').setFrames (.throwing q :: below)) below (.threw q) := State.frames_setFrames _ (State.cur_lt_of_frames hfr)
  refine ⟨(T.setVm vm').setFrames (.throwing q :: below), ?_, .threw q, X'.here.running, hend, Or.inr ⟨q, rfl, E, ce, locs, hx _ hT (X'.ends _).1.alike, hcell9, hv, hcl, (X'.ends _).1, (X'.ends _).2.mono hc hs, hf⟩⟩
  rw [X.pushThrowing_eq]
  exact st
/-- a thing of a world lies in the heap -/
theorem vx_lt {D : va_G} {cl : List vw_C} {ws : va_W} {H1 : Heap} (h : va_P D cl ws H1) {k : Nat} {q : Nat × va_E} (hk : ws[k]? = some q) : q.1 < H1.size := (h k q hk).lt
end VXS
/-! ===== END ===== -/
/-! ===== BEGIN methods with a table of their own: called by a name, returning or throwing ===== -/
section VXH
/-! vx_backW, vx_callVX, vx_callSX, vx_callVW, vx_runVW, vx_runVX, vx_runSX, vx_ofWH follow the same proofs as their sisters above (Free/Laws.lean, Shelf42/LK1.lean); vx_outP calls Shelf42/NT130.lean (outThrough). -/
section
variable {l : Launch} {R : Room} {p : Program} {e : Env} {below : List Frame} {s : State} {sargs : Array Value} {y : MethodName} {len W9 : Nat}
theorem vx_backW {ws : List Cond} {rm : Room} {Pc : Array Value → State → Prop} {Qc : Array Value → State → Outcome → State → Prop} {XC : String → State → State → Prop} {mc ms : Nat} {free : Addr → Prop} {bytes : ByteArray} {maxL : Nat} {ret : Option FieldType} {hh : List (Nat × Nat × Nat × Nat)}
    (hM : vx_Met l y ws rm Pc Qc XC mc ms free) (hblind : FrameBlind Pc) (hrc : rm.cells = mc) (hrs : rm.slots = ms)
    (hframes : rm.frames + 1 ≤ R.frames) (hlocals : W9 + (maxL + 11) + rm.locals ≤ R.locals)
    (hws : ∀ w ∈ ws, ∀ a' U, s.WarmedH U.vm → w.before a' U = true) (hcode : Cond.codeWith y bytes maxL ret hh ∈ ws) (hinit : ∀ a' U, s.WarmedH U.vm → (Cond.initialized y.cls).before a' U = true) :
    vx_Back l R p e below s sargs y len W9 (PreOf R mc ms Pc) (PostOf Qc mc ms free) (vx_Post XC mc ms free) := by
  intro m meth c A g ig mk a X hg hsize hdg hW hn hp
  have h1 : (headSpec ws rm).pre.before a A.U = true := atoms_intro fun w hw => hws w hw _ _ X.warmed
  have h2 : (Cond.codeWith y bytes maxL ret hh).before a A.U = true := hws _ hcode _ _ X.warmed
  have h3 : (Cond.initialized y.cls).before a A.U = true := hinit _ _ X.warmed
  have h4 : A.cells + (headSpec ws rm).room.cells ≤ R.cells := by rw [show (headSpec ws rm).room.cells = mc from hrc]; exact hp.1
  have h5 : A.slots + (headSpec ws rm).room.slots ≤ R.slots := by rw [show (headSpec ws rm).room.slots = ms from hrs]; exact hp.2.1
  have hPc : Pc a (A.U.calling g mk a) := hblind _ _ _ _ hp.2.2
  obtain ⟨U, Ls, c0, s0⟩ := A
  dsimp only [Pt.U, Pt.locs, Pt.cells, Pt.slots] at h1 h2 h3 h4 h5 X hn hPc ⊢
  obtain ⟨m9, methY, cY, hn9, hmY, hcY, -, hlY, -⟩ := Cond.codeWith_spec h2
  cases Option.some.inj (hn9.symm.trans hn)
  obtain ⟨kY, hkY, -⟩ := className_of_methodNamed hn
  have hinitY : kY.init = .initialized := Cond.initialized_spec (findClass_of_methodNamed hn) hkY h3
  have h : At U g.method c below := by rw [hg]; exact X.here
  have hlocals9 : W9 + (maxL + 11) + (headSpec ws rm).room.locals ≤ R.locals := hlocals
  have happ : (headSpec ws rm).appliesLoose y e.platform (U.calling g mk a) = true :=
    Spec.appliesLoose_calling (g := g) h hdg hn hkY hinitY
      (X.room_calling (g := g) (R' := (headSpec ws rm).room) hsize hmY hcY hframes (by rw [hlY]; omega) h4 h5) h1
  obtain ⟨mid, hmid⟩ := h.above
  have hfr : (U.setTop g).frames = (.java g :: mid) ++ below := by rw [State.frames_setTop' g h.top, hmid]; rfl
  obtain ⟨o, s₂, hsteps, -, hend, hq⟩ := Steps.callFree hM p X.admits X.cas X.clock (acts := []) hfr happ hPc trivial
  have hq' : vx_Q Qc XC mc ms free a (U.calling g mk a) o s₂ := hq
  rw [State.frames_setTop' g h.top] at hend
  obtain ⟨g₀, hg0⟩ := Option.isSome_iff_exists.mp h.top
  obtain ⟨r, hr⟩ := State.topJava?_eq_some.mp hg0
  have hr' : (({ U with heap := s₂.heap, slotsUsed := s₂.slotsUsed } : State).setVm s₂.vm).frames = .java g₀ :: r := hr
  rcases hq' with ⟨hqc, L, hfe, hL⟩ | ⟨q, rfl, E, ce, L, hx, hce, hcv, hcl, hW₂, hsm, hL⟩
  · obtain ⟨⟨v, rfl⟩, hW₂, e2, q2, q3, q4, q5, q6⟩ := id hfe
    have e3 : s₂ = ({ (U.calling g mk a).setFrames s₂.frames with heap := s₂.heap, slotsUsed := s₂.slotsUsed } : State).setVm s₂.vm := by
      have : s₂ = ({ s₂ with vm := (U.calling g mk a).vm } : State).setVm s₂.vm := rfl
      rw [e2] at this
      exact this
    obtain ⟨c₂, i₂, len₂, hc₂, hd₂, hf₂⟩ := hend
    have hW' : U.WarmedH s₂.vm := hW₂
    have hcc : c₂ = c := by
      have h1 : s₂.code? g.method = U.code? g.method := by
        rw [State.code?_eq, State.code?_eq, hW'.alike.method?]
      exact Option.some.inj (hc₂.symm.trans (h1.trans h.code))
    subst hcc
    have hlen : len₂ = len := by rw [hdg] at hd₂; cases hd₂; rfl
    subst hlen
    have hs₂ : s₂ = (({ U with heap := s₂.heap, slotsUsed := s₂.slotsUsed } : State).setVm s₂.vm).setTop { g with pc := g.pc + len₂, stack := v.toList ++ g.stack } := by
      refine e3.trans ?_
      rw [hf₂, State.calling_eq h.top, State.setFrames_setFrames, State.setTop_of_frames _ hr', hr]
      rfl
    have hsame : U.sameButNew ({ U with heap := s₂.heap, slotsUsed := s₂.slotsUsed } : State) L mc ms := by
      refine ⟨?_, q2, q3, q4, q5, q6⟩
      obtain ⟨t, ht, -⟩ := State.frames_cons hr
      show ({ U with heap := s₂.heap, slotsUsed := s₂.slotsUsed } : State) = { U.setFrames U.frames with heap := s₂.heap, slotsUsed := s₂.slotsUsed }
      rw [State.setFrames_self ht]
    subst hg
    refine Or.inl ⟨v, ⟨(({ U with heap := s₂.heap, slotsUsed := s₂.slotsUsed } : State).setVm s₂.vm), Ls ++ L, c0 + mc, s0 + ms⟩,
      ⟨X.admits, X.cas, X.clock, X.frames, X.room, X.hears, X.method, X.code, (X.here.setHeapUsed s₂.heap s₂.slotsUsed).setVm hW'.alike, X.tail, State.WarmedH.trans X.warmed hW', X.limits, X.bytes, X.same.trans (hsame.setVm s.vm)⟩,
      ⟨g, mk, s₂, L, rfl, rfl, hqc, rfl, hL, rfl, rfl⟩, ?_⟩
    show Steps p.tables e below _ ((({ U with heap := s₂.heap, slotsUsed := s₂.slotsUsed } : State).setVm s₂.vm).setTop { g with pc := g.pc + len₂, stack := v.toList ++ g.stack })
    rw [← hs₂]
    exact hsteps
  · obtain ⟨e2, q2, q3, q4, q5, q6⟩ := id hsm
    have e3 : s₂ = ({ (U.calling g mk a).setFrames s₂.frames with heap := s₂.heap, slotsUsed := s₂.slotsUsed } : State).setVm s₂.vm := by
      have : s₂ = ({ s₂ with vm := (U.calling g mk a).vm } : State).setVm s₂.vm := rfl
      rw [e2] at this
      exact this
    have hf₂ : s₂.frames = .throwing q :: .java g :: U.frames.tail := hend
    have hW' : U.WarmedH s₂.vm := hW₂
    have hs₂ : s₂ = ((({ U with heap := s₂.heap, slotsUsed := s₂.slotsUsed } : State).setVm s₂.vm).setTop g).pushFrame (.throwing q) := by
      refine e3.trans ?_
      rw [hf₂, State.calling_eq h.top, State.setFrames_setFrames, State.pushFrame, State.frames_setTop _ hr', State.setTop_of_frames _ hr', State.setFrames_setFrames, hr]
      rfl
    have hsame : U.sameButNew ({ U with heap := s₂.heap, slotsUsed := s₂.slotsUsed } : State) L mc ms := by
      refine ⟨?_, q2, q3, q4, q5, q6⟩
      obtain ⟨t, ht, -⟩ := State.frames_cons hr
      show ({ U with heap := s₂.heap, slotsUsed := s₂.slotsUsed } : State) = { U.setFrames U.frames with heap := s₂.heap, slotsUsed := s₂.slotsUsed }
      rw [State.setFrames_self ht]
    subst hg
    refine Or.inr ⟨q, ⟨(({ U with heap := s₂.heap, slotsUsed := s₂.slotsUsed } : State).setVm s₂.vm), Ls ++ L, c0 + mc, s0 + ms⟩,
      ⟨X.admits, X.cas, X.clock, X.frames, X.room, X.hears, X.method, X.code, (X.here.setHeapUsed s₂.heap s₂.slotsUsed).setVm hW'.alike, X.tail, State.WarmedH.trans X.warmed hW', X.limits, X.bytes, X.same.trans (hsame.setVm s.vm)⟩,
      ⟨g, mk, s₂, L, E, ce, rfl, rfl, hx, hce, hcv, hcl, rfl, hL, rfl, rfl⟩, ?_⟩
    show Steps p.tables e below _ (((({ U with heap := s₂.heap, slotsUsed := s₂.slotsUsed } : State).setVm s₂.vm).setTop g).pushFrame (.throwing q))
    rw [← hs₂]
    exact hsteps
end
variable {p : Program} {l : Launch} {e : Env} {R : Room} {s : State} {m : MethodId} {args : Array Value} {below : List Frame} {meth : Method} {c : Code} {T : State} {H : Heap} {locs : List Loc} {cells slots : Nat}
theorem vx_callVX (X : Stand p l e R s m args below meth c T locs cells slots) (hexec : p.tables.exec = Jvm.exec) {own C : String} {index : Nat} {y : MethodName} {bytes : ByteArray} {maxL : Nat} {ret : Option FieldType} {hh : List (Nat × Nat × Nat × Nat)}
    (hown : s.vm.findClass own = some m.cls) (hlink : (Cond.methodLink own index y).before args s = true) (hinst : (Cond.instanceMethod y).before args s = true) (hsel : (Cond.selects C y y).before args s = true)
    (hcode : (Cond.codeWith y bytes maxL ret hh).before args s = true) (hy : y.cls ≠ "java/lang/invoke/MethodHandle" ∧ y.cls ≠ "java/lang/invoke/VarHandle")
    {W9 : Nat} {Pre : Pt → Array Value → Prop} {Post : Pt → Array Value → Option Value → Pt → Prop} {PostX : Pt → Array Value → Addr → Pt → Prop} (hK : vx_Back l R p e below s args y 3 W9 Pre Post PostX)
    {b : Addr} {cellB : Cell} (hcell : T.heap[b]? = some cellB) (hobj : cellB.vm.isStatics = false) (hcls : s.vm.findClass C = some cellB.cls)
    {g : JFrame} (hg : g.method = m) (hsize : g.locals.size = c.maxLocals) {argsL rest : List Value} (hlen : ∀ sig, parseMethodDescriptor y.desc = some sig → argsL.length = sig.parameters.length)
    (hstack : g.stack = argsL.reverse ++ .ref b :: rest) (hW : 2 * g.monitorRoom + (rest.map fun v => v.category).sum ≤ W9) (hdg : decode c.code g.pc = .ok (.invokevirtual index, 3))
    (hpre : ∀ vm₁, s.WarmedH vm₁ → Pre ⟨T.setVm vm₁, locs, cells, slots⟩ (Value.ref b :: argsL).toArray) :
    (∃ (v : Option Value) (vm₁ : Vm) (B : Pt), s.WarmedH vm₁ ∧ Stand p l e R s m args below meth c B.U B.locs B.cells B.slots ∧ Post ⟨T.setVm vm₁, locs, cells, slots⟩ (Value.ref b :: argsL).toArray v B ∧
      ∀ target, Steps p.tables e below (B.U.setTop { g with pc := g.pc + 3, stack := v.toList ++ rest }) target → Steps p.tables e below (T.setTop g) target) ∨
    (∃ (q : Addr) (vm₁ : Vm) (B : Pt), s.WarmedH vm₁ ∧ Stand p l e R s m args below meth c B.U B.locs B.cells B.slots ∧ PostX ⟨T.setVm vm₁, locs, cells, slots⟩ (Value.ref b :: argsL).toArray q B ∧
      Steps p.tables e below (T.setTop g) ((B.U.setTop { g with stack := rest }).pushFrame (.throwing q))) := by
  obtain ⟨mk, methM, hnamed, hmethM, hstM, habM⟩ := Cond.instanceMethod_spec hinst
  obtain ⟨m8, methM', cM, hn8, hmethM', -, -, -, -, -, -, hsigM⟩ := Cond.codeWith_spec hcode
  cases Option.some.inj (hn8.symm.trans hnamed)
  cases hmethM.symm.trans hmethM'
  obtain ⟨c2, r2, m2, q1, q2, q3, q4, kP, hkP, hkPi⟩ := Cond.selects_spec hsel
  cases hcls.symm.trans q1
  cases (State.methodFound?_of_named hnamed hy).symm.trans q2
  cases hnamed.symm.trans q3
  have hselP : selectMethod e.platform s.vm cellB.cls mk = .method mk := by rw [Launch.admits_selectMethod X.admits]; exact q4
  obtain ⟨vm₁, X₁, hstep₁⟩ := X.invokevirtual hexec hown hlink hnamed hmethM hstM hkP hkPi hy (a := b) (cell := cellB) hcell
    (fun z h => by rw [h] at hobj; cases hobj) hselP hmethM habM hkP hkPi (g := g) hg (argsL := argsL) (rest := rest) (hlen _ hsigM) hstack hdg
  rcases hK m meth c ⟨T.setVm vm₁, locs, cells, slots⟩ { g with stack := rest } (.invokevirtual index) mk (Value.ref b :: argsL).toArray X₁ hg hsize hdg hW (X₁.named hnamed) (hpre vm₁ X₁.warmed) with ⟨v, B, X', hpost, hsteps⟩ | ⟨q, B, X', hpost, hsteps⟩
  · exact Or.inl ⟨v, vm₁, B, X₁.warmed, X', hpost, fun target h => hstep₁ _ fun acts => by rw [doInvoke_state]; exact hsteps.trans h⟩
  · exact Or.inr ⟨q, vm₁, B, X₁.warmed, X', hpost, hstep₁ _ fun acts => by rw [doInvoke_state]; exact hsteps⟩
theorem vx_callSX (X : Stand p l e R s m args below meth c T locs cells slots) (hexec : p.tables.exec = Jvm.exec) {own : String} {index : Nat} {y : MethodName} {bytes : ByteArray} {maxL : Nat} {ret : Option FieldType} {hh : List (Nat × Nat × Nat × Nat)}
    (hown : s.vm.findClass own = some m.cls) (hlink : (Cond.methodLink own index y).before args s = true) (hstat : (Cond.static y).before args s = true) (hinit : (Cond.initialized y.cls).before args s = true)
    (hcode : (Cond.codeWith y bytes maxL ret hh).before args s = true) (hy : y.cls ≠ "java/lang/invoke/MethodHandle" ∧ y.cls ≠ "java/lang/invoke/VarHandle")
    {W9 : Nat} {Pre : Pt → Array Value → Prop} {Post : Pt → Array Value → Option Value → Pt → Prop} {PostX : Pt → Array Value → Addr → Pt → Prop} (hK : vx_Back l R p e below s args y 3 W9 Pre Post PostX)
    {g : JFrame} (hg : g.method = m) (hsize : g.locals.size = c.maxLocals) {argsL rest : List Value} (hlen : ∀ sig, parseMethodDescriptor y.desc = some sig → argsL.length = sig.parameters.length)
    (hstack : g.stack = argsL.reverse ++ rest) (hW : 2 * g.monitorRoom + (rest.map fun v => v.category).sum ≤ W9) (hdg : decode c.code g.pc = .ok (.invokestatic index, 3))
    (hpre : ∀ vm₁, s.WarmedH vm₁ → Pre ⟨T.setVm vm₁, locs, cells, slots⟩ argsL.toArray) :
    (∃ (v : Option Value) (vm₁ : Vm) (B : Pt), s.WarmedH vm₁ ∧ Stand p l e R s m args below meth c B.U B.locs B.cells B.slots ∧ Post ⟨T.setVm vm₁, locs, cells, slots⟩ argsL.toArray v B ∧
      ∀ target, Steps p.tables e below (B.U.setTop { g with pc := g.pc + 3, stack := v.toList ++ rest }) target → Steps p.tables e below (T.setTop g) target) ∨
    (∃ (q : Addr) (vm₁ : Vm) (B : Pt), s.WarmedH vm₁ ∧ Stand p l e R s m args below meth c B.U B.locs B.cells B.slots ∧ PostX ⟨T.setVm vm₁, locs, cells, slots⟩ argsL.toArray q B ∧
      Steps p.tables e below (T.setTop g) ((B.U.setTop { g with stack := rest }).pushFrame (.throwing q))) := by
  obtain ⟨mk, methM, cM, hnamed, hmethM, -, -, -, -, -, -, hsigM⟩ := Cond.codeWith_spec hcode
  have hstatic : methM.isStatic = true := Cond.static_spec hnamed hmethM hstat
  obtain ⟨kP, hkP, -⟩ := className_of_methodNamed hnamed
  have hinitP : kP.init = .initialized := Cond.initialized_spec (findClass_of_methodNamed hnamed) hkP hinit
  obtain ⟨vm₁, X₁, hstep₁⟩ := X.invokestatic hexec hown hlink hnamed hmethM hstatic hkP hinitP hy (g := g) hg (argsL := argsL) (rest := rest) (hlen _ hsigM) hstack hdg
  rcases hK m meth c ⟨T.setVm vm₁, locs, cells, slots⟩ { g with stack := rest } (.invokestatic index) mk argsL.toArray X₁ hg hsize hdg hW (X₁.named hnamed) (hpre vm₁ X₁.warmed) with ⟨v, B, X', hpost, hsteps⟩ | ⟨q, B, X', hpost, hsteps⟩
  · exact Or.inl ⟨v, vm₁, B, X₁.warmed, X', hpost, fun target h => hstep₁ _ fun acts => by rw [doInvoke_state]; exact hsteps.trans h⟩
  · exact Or.inr ⟨q, vm₁, B, X₁.warmed, X', hpost, hstep₁ _ fun acts => by rw [doInvoke_state]; exact hsteps⟩
theorem vx_callVW (X : Stand p l e R s m args below meth c T locs cells slots) (hexec : p.tables.exec = Jvm.exec) {own C : String} {index : Nat} {y : MethodName} {bytes : ByteArray} {maxL : Nat} {ret : Option FieldType} {hh : List (Nat × Nat × Nat × Nat)}
    (hown : s.vm.findClass own = some m.cls) (hlink : (Cond.methodLink own index y).before args s = true) (hinst : (Cond.instanceMethod y).before args s = true) (hsel : (Cond.selects C y y).before args s = true)
    (hcode : (Cond.codeWith y bytes maxL ret hh).before args s = true) (hy : y.cls ≠ "java/lang/invoke/MethodHandle" ∧ y.cls ≠ "java/lang/invoke/VarHandle")
    {W9 : Nat} {Pre : Pt → Array Value → Prop} {Post : Pt → Array Value → Option Value → Pt → Prop} (hK : Back l R p e below s args y 3 W9 Pre Post)
    {b : Addr} {cellB : Cell} (hcell : T.heap[b]? = some cellB) (hobj : cellB.vm.isStatics = false) (hcls : s.vm.findClass C = some cellB.cls)
    {g : JFrame} (hg : g.method = m) (hsize : g.locals.size = c.maxLocals) {argsL rest : List Value} (hlen : ∀ sig, parseMethodDescriptor y.desc = some sig → argsL.length = sig.parameters.length)
    (hstack : g.stack = argsL.reverse ++ .ref b :: rest) (hW : 2 * g.monitorRoom + (rest.map fun v => v.category).sum ≤ W9) (hdg : decode c.code g.pc = .ok (.invokevirtual index, 3))
    (hpre : ∀ vm₁, s.WarmedH vm₁ → Pre ⟨T.setVm vm₁, locs, cells, slots⟩ (Value.ref b :: argsL).toArray) :
    ∃ (v : Option Value) (vm₁ : Vm) (B : Pt), s.WarmedH vm₁ ∧ Stand p l e R s m args below meth c B.U B.locs B.cells B.slots ∧ Post ⟨T.setVm vm₁, locs, cells, slots⟩ (Value.ref b :: argsL).toArray v B ∧
      ∀ target, Steps p.tables e below (B.U.setTop { g with pc := g.pc + 3, stack := v.toList ++ rest }) target → Steps p.tables e below (T.setTop g) target := by
  obtain ⟨mk, methM, hnamed, hmethM, hstM, habM⟩ := Cond.instanceMethod_spec hinst
  obtain ⟨m8, methM', cM, hn8, hmethM', -, -, -, -, -, -, hsigM⟩ := Cond.codeWith_spec hcode
  cases Option.some.inj (hn8.symm.trans hnamed)
  cases hmethM.symm.trans hmethM'
  obtain ⟨c2, r2, m2, q1, q2, q3, q4, kP, hkP, hkPi⟩ := Cond.selects_spec hsel
  cases hcls.symm.trans q1
  cases (State.methodFound?_of_named hnamed hy).symm.trans q2
  cases hnamed.symm.trans q3
  have hselP : selectMethod e.platform s.vm cellB.cls mk = .method mk := by rw [Launch.admits_selectMethod X.admits]; exact q4
  obtain ⟨vm₁, X₁, hstep₁⟩ := X.invokevirtual hexec hown hlink hnamed hmethM hstM hkP hkPi hy (a := b) (cell := cellB) hcell
    (fun z h => by rw [h] at hobj; cases hobj) hselP hmethM habM hkP hkPi (g := g) hg (argsL := argsL) (rest := rest) (hlen _ hsigM) hstack hdg
  obtain ⟨v, B, X', hpost, hsteps⟩ := hK m meth c ⟨T.setVm vm₁, locs, cells, slots⟩ { g with stack := rest } (.invokevirtual index) mk (Value.ref b :: argsL).toArray X₁ hg hsize hdg hW (X₁.named hnamed) (hpre vm₁ X₁.warmed)
  exact ⟨v, vm₁, B, X₁.warmed, X', hpost, fun target h => hstep₁ _ fun acts => by rw [doInvoke_state]; exact hsteps.trans h⟩
abbrev vx_CVW (R : Room) (s : State) (args : Array Value) (own C : String) (index : Nat) (y : MethodName) (bytes : ByteArray) (maxL : Nat) (ret : Option FieldType) (hh : List (Nat × Nat × Nat × Nat)) (ws : List Cond) (rm : Room) (mc ms n : Nat) : Prop :=
  (rm.cells = mc ∧ rm.slots = ms ∧ rm.frames + 1 ≤ R.frames ∧ 8 + (maxL + 11) + rm.locals ≤ R.locals ∧ (∀ w ∈ ws, ∀ (a' : Array Value) (U : State), s.WarmedH U.vm → w.before a' U = true) ∧ Cond.codeWith y bytes maxL ret hh ∈ ws) ∧
  (Cond.codeWith y bytes maxL ret hh).before args s = true ∧ (Cond.initialized y.cls).before args s = true ∧ (y.cls ≠ "java/lang/invoke/MethodHandle" ∧ y.cls ≠ "java/lang/invoke/VarHandle") ∧
  (∀ sig, parseMethodDescriptor y.desc = some sig → n = sig.parameters.length) ∧ (Cond.methodLink own index y).before args s = true ∧ (Cond.instanceMethod y).before args s = true ∧ (Cond.selects C y y).before args s = true
theorem vx_cwVW {own C : String} {index maxL mc ms : Nat} {y : MethodName} {bytes : ByteArray} {ret : Option FieldType} {hh : List (Nat × Nat × Nat × Nat)} {Ts ws ws' : List Cond} {rm : Room} (n : Nat) (ht : ∀ w ∈ Ts, w.before args s = true) (hT : GoodIn Ts (wsV own index C y ws)) (hw : ws = Cond.codeWith y bytes maxL ret hh :: ws') (hrc : rm.cells = mc) (hrs : rm.slots = ms)
    (hd : y.cls = C ∧ y.cls ≠ "java/lang/invoke/MethodHandle" ∧ y.cls ≠ "java/lang/invoke/VarHandle" ∧ (parseMethodDescriptor y.desc).map (fun d => d.parameters.length) = some n) (hR : rm.frames + 1 ≤ R.frames ∧ 8 + (maxL + 11) + rm.locals ≤ R.locals) :
    vx_CVW R s args own C index y bytes maxL ret hh ws rm mc ms n := by
  obtain ⟨hC, hd⟩ := hd
  subst hC
  have ok : ∀ w ∈ wsV own index y.cls y ws, w.before args s = true := fun w h => ht w (hT w h).1
  have hG : GoodIn Ts ws := fun w h => hT w (by unfold wsV; exact List.mem_append_right _ h)
  have hc : Cond.codeWith y bytes maxL ret hh ∈ ws := by rw [hw]; exact List.mem_cons_self
  refine ⟨⟨hrc, hrs, hR.1, hR.2, pay_in ht hG, hc⟩, ht _ (hG _ hc).1, ok _ (by simp [wsV]), ⟨hd.1, hd.2.1⟩, fun sig h => ?_, ok _ (by simp [wsV]), ok _ (by simp [wsV]), ok _ (by simp [wsV])⟩
  have h2 := hd.2.2
  rw [h] at h2
  exact (Option.some.inj h2).symm
theorem vx_runVW {y : MethodName} {bytes cc : ByteArray} {maxL nL mc ms n index : Nat} {ret : Option FieldType} {hh : List (Nat × Nat × Nat × Nat)} {ws : List Cond} {rm : Room} {Pc : Array Value → State → Prop} {Qc : Array Value → State → Outcome → State → Prop} {free : Addr → Prop} {Ts : List Cond} {own C : String} {b : Addr} {As rest : List Value} {g : JFrame}
    (S : CallFix p m c cc nL s args Ts own) (hM : Met l y ws rm Pc Qc mc ms free) (cw : vx_CVW R s args own C index y bytes maxL ret hh ws rm mc ms n) (hp : PreV s H C b Pc As)
    (hg : g.method = m) (hn : As.length = n) (hsize : g.locals.size = nL) (hstack : g.stack = As.reverse ++ .ref b :: rest) (hW : 2 * g.monitorRoom + (rest.map fun v => v.category).sum ≤ 8) (hdg : decode cc g.pc = .ok (.invokevirtual index, 3)) (hf : cells + mc ≤ R.cells ∧ slots + ms ≤ R.slots) :
    va_Run p l e R s m args below meth c H locs cells slots mc ms g rest (Qc (Value.ref b :: As).toArray) free := by
  obtain ⟨⟨hrc, hrs, hfr, hlo, hws, hcw⟩, hcode, hini, hy, hlen, hl, hin, hse⟩ := cw
  have hK : Back l R p e below s args y 3 8 (PreOf R mc ms Pc) (PostOf Qc mc ms free) := va_backW (hh := hh) (bytes := bytes) (maxL := maxL) (ret := ret) hM hp.1 hrc hrs hfr hlo hws hcw (fun a' U hW => word_at hW (Or.inl (by first | rfl | simp [Cond.onTables, Cond.keeps, Cond.steady])) hini)
  obtain ⟨hx, hb, hml, ho, -⟩ := S
  obtain ⟨-, ⟨cellB, hcB, hoB, hclB⟩, hPc⟩ := hp
  intro T hT X
  obtain ⟨v, vm₁, ⟨U', l2, c2, s2⟩, hW₁, X', ⟨g', mk, t, L, e1, e2, hq, h1, hL, h2, h3⟩, st⟩ := vx_callVW X hx (C := C) (hh := hh) (bytes := bytes) (maxL := maxL) (ret := ret) ho hl hin hse hcode hy hK (by rw [hT]; exact hcB) hoB hclB hg (hsize.trans hml.symm) (argsL := As) (rest := rest) (fun sig h => hn.trans (hlen sig h)) hstack hW (by rw [hb]; exact hdg)
    (fun vm₁ hW₁ => ⟨hf.1, hf.2, hPc (T.setVm vm₁) hT hW₁⟩)
  dsimp only [Pt.U, Pt.locs, Pt.cells, Pt.slots] at X' e1 e2 h1 h2 h3 st
  subst h1; subst h2; subst h3
  exact ⟨v, (T.setVm vm₁).calling g' mk (Value.ref b :: As).toArray, t, U', L, hT, X', hL, e1, e2, hq, st⟩
section
variable {y : MethodName} {bytes cc : ByteArray} {maxL nL mc ms n index : Nat} {ret : Option FieldType} {ws : List Cond} {rm : Room} {Pc : Array Value → State → Prop} {Qc : Array Value → State → Outcome → State → Prop} {XC : String → State → State → Prop} {free : Addr → Prop} {Ts : List Cond} {own C : String} {b : Addr} {As rest : List Value} {g : JFrame}
theorem vx_runVX {hh : List (Nat × Nat × Nat × Nat)} (S : CallFix p m c cc nL s args Ts own) (hM : vx_Met l y ws rm Pc Qc XC mc ms free) (cw : vx_CVW R s args own C index y bytes maxL ret hh ws rm mc ms n) (hp : PreV s H C b Pc As)
    (hg : g.method = m) (hn : As.length = n) (hsize : g.locals.size = nL) (hstack : g.stack = As.reverse ++ .ref b :: rest) (hW : 2 * g.monitorRoom + (rest.map fun v => v.category).sum ≤ 8) (hdg : decode cc g.pc = .ok (.invokevirtual index, 3)) (hf : cells + mc ≤ R.cells ∧ slots + ms ≤ R.slots) :
    vx_Run p l e R s m args below meth c H locs cells slots mc ms g rest (Qc (Value.ref b :: As).toArray) XC free := by
  obtain ⟨⟨hrc, hrs, hfr, hlo, hws, hcw⟩, hcode, hini, hy, hlen, hl, hin, hse⟩ := cw
  have hK : vx_Back l R p e below s args y 3 8 (PreOf R mc ms Pc) (PostOf Qc mc ms free) (vx_Post XC mc ms free) := vx_backW (hh := hh) (bytes := bytes) (maxL := maxL) (ret := ret) hM hp.1 hrc hrs hfr hlo hws hcw (fun a' U hW => word_at hW (Or.inl (by first | rfl | simp [Cond.onTables, Cond.keeps, Cond.steady])) hini)
  obtain ⟨hx, hb, hml, ho, -⟩ := S
  obtain ⟨-, ⟨cellB, hcB, hoB, hclB⟩, hPc⟩ := hp
  intro T hT X
  rcases vx_callVX X hx (C := C) (hh := hh) (bytes := bytes) (maxL := maxL) (ret := ret) ho hl hin hse hcode hy hK (by rw [hT]; exact hcB) hoB hclB hg (hsize.trans hml.symm) (argsL := As) (rest := rest) (fun sig h => hn.trans (hlen sig h)) hstack hW (by rw [hb]; exact hdg)
    (fun vm₁ hW₁ => ⟨hf.1, hf.2, hPc (T.setVm vm₁) hT hW₁⟩) with ⟨v, vm₁, ⟨U', l2, c2, s2⟩, hW₁, X', ⟨g', mk, t, L, e1, e2, hq, h1, hL, h2, h3⟩, st⟩ | ⟨q, vm₁, ⟨U', l2, c2, s2⟩, hW₁, X', ⟨g', mk, t, L, E, ce, e1, e2, hq, hce, hcv, hcl, h1, hL, h2, h3⟩, st⟩
  · dsimp only [Pt.U, Pt.locs, Pt.cells, Pt.slots] at X' e1 e2 h1 h2 h3 st
    subst h1; subst h2; subst h3
    exact Or.inl ⟨v, (T.setVm vm₁).calling g' mk (Value.ref b :: As).toArray, t, U', L, hT, X', hL, e1, e2, hq, st⟩
  · dsimp only [Pt.U, Pt.locs, Pt.cells, Pt.slots] at X' e1 e2 h1 h2 h3 st hcl
    subst h1; subst h2; subst h3
    exact Or.inr ⟨q, (T.setVm vm₁).calling g' mk (Value.ref b :: As).toArray, t, U', L, E, ce, hT, X', hL, e1, e2, hq, hce, hcv, vx_cls hW₁ hcl, st⟩
theorem vx_runSX {hh : List (Nat × Nat × Nat × Nat)} (S : CallFix p m c cc nL s args Ts own) (hM : vx_Met l y ws rm Pc Qc XC mc ms free) (cw : vx_CSW R s args own index y bytes maxL ret hh ws rm mc ms n) (hp : PreS s H Pc As)
    (hg : g.method = m) (hn : As.length = n) (hsize : g.locals.size = nL) (hstack : g.stack = As.reverse ++ rest) (hW : 2 * g.monitorRoom + (rest.map fun v => v.category).sum ≤ 8) (hdg : decode cc g.pc = .ok (.invokestatic index, 3)) (hf : cells + mc ≤ R.cells ∧ slots + ms ≤ R.slots) :
    vx_Run p l e R s m args below meth c H locs cells slots mc ms g rest (Qc As.toArray) XC free := by
  obtain ⟨⟨hrc, hrs, hfr, hlo, hws, hcw⟩, hcode, hini, hy, hlen, hl, hstt⟩ := cw
  have hK : vx_Back l R p e below s args y 3 8 (PreOf R mc ms Pc) (PostOf Qc mc ms free) (vx_Post XC mc ms free) := vx_backW (hh := hh) (bytes := bytes) (maxL := maxL) (ret := ret) hM hp.1 hrc hrs hfr hlo hws hcw (fun a' U hW => word_at hW (Or.inl (by first | rfl | simp [Cond.onTables, Cond.keeps, Cond.steady])) hini)
  obtain ⟨hx, hb, hml, ho, -⟩ := S
  intro T hT X
  rcases vx_callSX X hx (hh := hh) (bytes := bytes) (maxL := maxL) (ret := ret) ho hl hstt hini hcode hy hK hg (hsize.trans hml.symm) (argsL := As) (rest := rest) (fun sig h => hn.trans (hlen sig h)) hstack hW (by rw [hb]; exact hdg)
    (fun vm₁ hW₁ => ⟨hf.1, hf.2, hp.2 (T.setVm vm₁) hT hW₁⟩) with ⟨v, vm₁, ⟨U', l2, c2, s2⟩, hW₁, X', ⟨g', mk, t, L, e1, e2, hq, h1, hL, h2, h3⟩, st⟩ | ⟨q, vm₁, ⟨U', l2, c2, s2⟩, hW₁, X', ⟨g', mk, t, L, E, ce, e1, e2, hq, hce, hcv, hcl, h1, hL, h2, h3⟩, st⟩
  · dsimp only [Pt.U, Pt.locs, Pt.cells, Pt.slots] at X' e1 e2 h1 h2 h3 st
    subst h1; subst h2; subst h3
    exact Or.inl ⟨v, (T.setVm vm₁).calling g' mk As.toArray, t, U', L, hT, X', hL, e1, e2, hq, st⟩
  · dsimp only [Pt.U, Pt.locs, Pt.cells, Pt.slots] at X' e1 e2 h1 h2 h3 st hcl
    subst h1; subst h2; subst h3
    exact Or.inr ⟨q, (T.setVm vm₁).calling g' mk As.toArray, t, U', L, E, ce, hT, X', hL, e1, e2, hq, hce, hcv, vx_cls hW₁ hcl, st⟩
end
end VXH
theorem vx_ofWH {l : Launch} {y : MethodName} {ws ws' : List Cond} {rm : Room} {Pc : Array Value → State → Prop} {Qc : Array Value → State → Outcome → State → Prop} {XC : String → State → State → Prop} {mc ms : Nat} {free : Addr → Prop} {cc : ByteArray} {maxL : Nat} {ret : Option FieldType} {hh : List (Nat × Nat × Nat × Nat)}
    (hy : plainName y.cls = true) (hw : ws = Cond.codeWith y cc maxL ret hh :: ws')
    (body : ∀ p e s m args below meth c s₁, BodyLoose p l y (headSpec ws rm) cc maxL ret e s m args below meth c s₁ → c.maxLocals = maxL → Pc args s →
      W p l e (headSpec ws rm).room s m args below meth c s.heap [] 0 0 (vx_MQ below Qc XC args s mc ms free) (entryFrame m args maxL)) : vx_Met l y ws rm Pc Qc XC mc ms free := by
  refine MetFree.of_bodyS (code := cc) (maxLocals := maxL) (ret := ret) hy ?_ ?_
  · intro args s m h hn
    obtain ⟨m9, meth, c, hn9, h1, h2, h3, h4, -, h5, h6, -⟩ := Cond.codeWith_spec (atoms_spec (ws := ws) h _ (by rw [hw]; exact List.mem_cons_self))
    cases hn.symm.trans hn9
    exact ⟨meth, c, h1, h2, h3, h4, h5, h6⟩
  · intro p e s m args below meth c s₁ B hml hP _
    have hh0 : s₁.heap = s.heap := by rw [B.state]; rfl
    obtain ⟨t, a1, o, b1, b2, b3⟩ := body p e s m args below meth c s₁ B hml hP s₁ hh0 (Stand.of_body B)
    exact ⟨t, o, a1, b1, b2, b3⟩
/-! ===== END ===== -/
end
section
def RX0 : String := "BundlePair$Cable"
def TX0 : u_T := fun k => match k with
  | 0 => ("BundlePair$Cable", "ports", "[LBundlePair$Port;", true)
  | 1 => ("BundlePair$Cable", "lanes", "[LBundlePair$Lane;", true)
  | 2 => ("BundlePair$Cable", "delay", "I", false)
  | 3 => ("BundlePair$Cable", "up", "Z", false)
  | _ => ("BundlePair$Cable", "meant", "Z", false)
def tyX0 : Nat → FieldType := fun k => match k with
  | 0 => .array (.object "BundlePair$Port")
  | 1 => .array (.object "BundlePair$Lane")
  | 2 => .int
  | 3 => .boolean
  | _ => .boolean
abbrev wsX00 : List Cond := u_ws RX0 TX0 5
theorem nmX0 : ∀ a, a < 5 → ∀ b, b < 5 → a ≠ b → (TX0 a).2.1 ≠ (TX0 b).2.1 := by decide +kernel
theorem tyX0_ok : ∀ k, k < 5 → parseFieldDescriptor (TX0 k).2.2.1 = some (tyX0 k) := by decide +kernel
abbrev cX0_init : ByteArray := prog_2_method_1_code
def yX0_init : MethodName := ⟨RX0, "<init>", "()V"⟩
abbrev cX0_isPlugged : ByteArray := prog_2_method_2_code
def yX0_isPlugged : MethodName := ⟨RX0, "isPlugged", "()Z"⟩
abbrev cX0_agrees : ByteArray := prog_2_method_3_code
def yX0_agrees : MethodName := ⟨RX0, "agrees", "()Z"⟩
abbrev cX0_isInGroupOf : ByteArray := prog_2_method_4_code
def yX0_isInGroupOf : MethodName := ⟨RX0, "isInGroupOf", "(LBundlePair$Cable;)Z"⟩
abbrev cX0_isSettled : ByteArray := prog_2_method_5_code
def yX0_isSettled : MethodName := ⟨RX0, "isSettled", "()Z"⟩
def RX1 : String := "BundlePair$End"
def TX1 : u_T := fun k => match k with
  | 0 => ("BundlePair$End", "ports", "[LBundlePair$Port;", true)
  | 1 => ("BundlePair$End", "system", "I", false)
  | 2 => ("BundlePair$End", "limit", "I", false)
  | 3 => ("BundlePair$End", "arrived", "I", false)
  | 4 => ("BundlePair$End", "kept", "[I", true)
  | 5 => ("BundlePair$End", "keptCount", "I", false)
  | 6 => ("BundlePair$End", "nextKept", "I", false)
  | 7 => ("BundlePair$End", "given", "I", false)
  | _ => ("BundlePair$End", "epoch", "I", false)
def tyX1 : Nat → FieldType := fun k => match k with
  | 0 => .array (.object "BundlePair$Port")
  | 1 => .int
  | 2 => .int
  | 3 => .int
  | 4 => .array .int
  | 5 => .int
  | 6 => .int
  | 7 => .int
  | _ => .int
abbrev wsX10 : List Cond := u_ws RX1 TX1 9
theorem nmX1 : ∀ a, a < 9 → ∀ b, b < 9 → a ≠ b → (TX1 a).2.1 ≠ (TX1 b).2.1 := by decide +kernel
theorem tyX1_ok : ∀ k, k < 9 → parseFieldDescriptor (TX1 k).2.2.1 = some (tyX1 k) := by decide +kernel
abbrev cX1_init : ByteArray := prog_3_method_1_code
def yX1_init : MethodName := ⟨RX1, "<init>", "(I)V"⟩
abbrev cX1_rename : ByteArray := prog_3_method_2_code
def yX1_rename : MethodName := ⟨RX1, "rename", "(I)V"⟩
abbrev cX1_keep : ByteArray := prog_3_method_3_code
def yX1_keep : MethodName := ⟨RX1, "keep", "(LBundlePair$Frame;II)V"⟩
abbrev cX1_moveTo : ByteArray := prog_3_method_4_code
def yX1_moveTo : MethodName := ⟨RX1, "moveTo", "(LBundlePair$Port;I)V"⟩
abbrev cX1_formBundles : ByteArray := prog_3_method_5_code
def yX1_formBundles : MethodName := ⟨RX1, "formBundles", "(Z)V"⟩
abbrev cX1_bundleOf : ByteArray := prog_3_method_6_code
def yX1_bundleOf : MethodName := ⟨RX1, "bundleOf", "(I)I"⟩
abbrev cX1_countAhead : ByteArray := prog_3_method_7_code
def yX1_countAhead : MethodName := ⟨RX1, "countAhead", "(LBundlePair$Port;Z)I"⟩
abbrev cX1_giverOf : ByteArray := prog_3_method_8_code
def yX1_giverOf : MethodName := ⟨RX1, "giverOf", "(II)LBundlePair$Port;"⟩
def RX2 : String := "BundlePair$Frame"
def TX2 : u_T := fun k => match k with
  | 0 => ("BundlePair$Frame", "conversation", "I", false)
  | 1 => ("BundlePair$Frame", "value", "I", false)
  | 2 => ("BundlePair$Frame", "bundle", "I", false)
  | 3 => ("BundlePair$Frame", "due", "I", false)
  | 4 => ("BundlePair$Frame", "epoch", "I", false)
  | 5 => ("BundlePair$Frame", "serial", "I", false)
  | _ => ("BundlePair$Frame", "late", "Z", false)
def tyX2 : Nat → FieldType := fun k => match k with
  | 0 => .int
  | 1 => .int
  | 2 => .int
  | 3 => .int
  | 4 => .int
  | 5 => .int
  | _ => .boolean
abbrev wsX20 : List Cond := u_ws RX2 TX2 7
theorem nmX2 : ∀ a, a < 7 → ∀ b, b < 7 → a ≠ b → (TX2 a).2.1 ≠ (TX2 b).2.1 := by decide +kernel
theorem tyX2_ok : ∀ k, k < 7 → parseFieldDescriptor (TX2 k).2.2.1 = some (tyX2 k) := by decide +kernel
abbrev cX2_init : ByteArray := prog_4_method_1_code
def yX2_init : MethodName := ⟨RX2, "<init>", "()V"⟩
abbrev cX2_mustComeAhead : ByteArray := prog_4_method_2_code
def yX2_mustComeAhead : MethodName := ⟨RX2, "mustComeAhead", "(LBundlePair$Frame;)Z"⟩
def RX3 : String := "BundlePair$Lane"
def TX3 : u_T := fun k => match k with
  | 0 => ("BundlePair$Lane", "notes", "[LBundlePair$Note;", true)
  | 1 => ("BundlePair$Lane", "firstNote", "I", false)
  | 2 => ("BundlePair$Lane", "noteCount", "I", false)
  | 3 => ("BundlePair$Lane", "frames", "[LBundlePair$Frame;", true)
  | 4 => ("BundlePair$Lane", "firstFrame", "I", false)
  | 5 => ("BundlePair$Lane", "frameCount", "I", false)
  | _ => ("BundlePair$Lane", "toLose", "I", false)
def tyX3 : Nat → FieldType := fun k => match k with
  | 0 => .array (.object "BundlePair$Note")
  | 1 => .int
  | 2 => .int
  | 3 => .array (.object "BundlePair$Frame")
  | 4 => .int
  | 5 => .int
  | _ => .int
abbrev wsX30 : List Cond := u_ws RX3 TX3 7
theorem nmX3 : ∀ a, a < 7 → ∀ b, b < 7 → a ≠ b → (TX3 a).2.1 ≠ (TX3 b).2.1 := by decide +kernel
theorem tyX3_ok : ∀ k, k < 7 → parseFieldDescriptor (TX3 k).2.2.1 = some (tyX3 k) := by decide +kernel
abbrev cX3_init : ByteArray := prog_5_method_1_code
def yX3_init : MethodName := ⟨RX3, "<init>", "()V"⟩
abbrev cX3_clear : ByteArray := prog_5_method_2_code
def yX3_clear : MethodName := ⟨RX3, "clear", "()V"⟩
abbrev cX3_addNote : ByteArray := prog_5_method_3_code
def yX3_addNote : MethodName := ⟨RX3, "addNote", "(LBundlePair$Port;I)V"⟩
abbrev cX3_takeDueNote : ByteArray := prog_5_method_4_code
def yX3_takeDueNote : MethodName := ⟨RX3, "takeDueNote", "(I)LBundlePair$Note;"⟩
abbrev cX3_isFull : ByteArray := prog_5_method_5_code
def yX3_isFull : MethodName := ⟨RX3, "isFull", "()Z"⟩
abbrev cX3_addFrame : ByteArray := prog_5_method_6_code
def yX3_addFrame : MethodName := ⟨RX3, "addFrame", "()LBundlePair$Frame;"⟩
abbrev cX3_takeDueFrame : ByteArray := prog_5_method_7_code
def yX3_takeDueFrame : MethodName := ⟨RX3, "takeDueFrame", "(I)LBundlePair$Frame;"⟩
abbrev cX3_markOvertaken : ByteArray := prog_5_method_8_code
def yX3_markOvertaken : MethodName := ⟨RX3, "markOvertaken", "(LBundlePair$Frame;)V"⟩
def RX4 : String := "BundlePair$Note"
def TX4 : u_T := fun k => match k with
  | 0 => ("BundlePair$Note", "own", "LBundlePair$Told;", true)
  | 1 => ("BundlePair$Note", "partner", "LBundlePair$Told;", true)
  | _ => ("BundlePair$Note", "due", "I", false)
def tyX4 : Nat → FieldType := fun k => match k with
  | 0 => .object "BundlePair$Told"
  | 1 => .object "BundlePair$Told"
  | _ => .int
abbrev wsX40 : List Cond := u_ws RX4 TX4 3
theorem nmX4 : ∀ a, a < 3 → ∀ b, b < 3 → a ≠ b → (TX4 a).2.1 ≠ (TX4 b).2.1 := by decide +kernel
theorem tyX4_ok : ∀ k, k < 3 → parseFieldDescriptor (TX4 k).2.2.1 = some (tyX4 k) := by decide +kernel
abbrev cX4_init : ByteArray := prog_6_method_1_code
def yX4_init : MethodName := ⟨RX4, "<init>", "()V"⟩
def RX5 : String := "BundlePair$Port"
def TX5 : u_T := fun k => match k with
  | 0 => ("BundlePair$Port", "own", "LBundlePair$Told;", true)
  | 1 => ("BundlePair$Port", "partner", "LBundlePair$Told;", true)
  | 2 => ("BundlePair$Port", "cable", "I", false)
  | 3 => ("BundlePair$Port", "view", "I", false)
  | 4 => ("BundlePair$Port", "timer", "I", false)
  | 5 => ("BundlePair$Port", "stage", "I", false)
  | 6 => ("BundlePair$Port", "wait", "I", false)
  | 7 => ("BundlePair$Port", "boundKey", "I", false)
  | 8 => ("BundlePair$Port", "boundPartnerSystem", "I", false)
  | 9 => ("BundlePair$Port", "boundPartnerKey", "I", false)
  | 10 => ("BundlePair$Port", "bundle", "I", false)
  | 11 => ("BundlePair$Port", "chosen", "Z", false)
  | 12 => ("BundlePair$Port", "heard", "Z", false)
  | 13 => ("BundlePair$Port", "owes", "Z", false)
  | 14 => ("BundlePair$Port", "lastOwn", "LBundlePair$Told;", true)
  | 15 => ("BundlePair$Port", "lastClock", "I", false)
  | 16 => ("BundlePair$Port", "notesPut", "I", false)
  | _ => ("BundlePair$Port", "notesCame", "I", false)
def tyX5 : Nat → FieldType := fun k => match k with
  | 0 => .object "BundlePair$Told"
  | 1 => .object "BundlePair$Told"
  | 2 => .int
  | 3 => .int
  | 4 => .int
  | 5 => .int
  | 6 => .int
  | 7 => .int
  | 8 => .int
  | 9 => .int
  | 10 => .int
  | 11 => .boolean
  | 12 => .boolean
  | 13 => .boolean
  | 14 => .object "BundlePair$Told"
  | 15 => .int
  | 16 => .int
  | _ => .int
abbrev wsX50 : List Cond := u_ws RX5 TX5 18
theorem nmX5 : ∀ a, a < 18 → ∀ b, b < 18 → a ≠ b → (TX5 a).2.1 ≠ (TX5 b).2.1 := by decide +kernel
theorem tyX5_ok : ∀ k, k < 18 → parseFieldDescriptor (TX5 k).2.2.1 = some (tyX5 k) := by decide +kernel
abbrev cX5_init : ByteArray := prog_7_method_1_code
def yX5_init : MethodName := ⟨RX5, "<init>", "()V"⟩
abbrev cX5_isLit : ByteArray := prog_7_method_2_code
def yX5_isLit : MethodName := ⟨RX5, "isLit", "()Z"⟩
abbrev cX5_setStage : ByteArray := prog_7_method_3_code
def yX5_setStage : MethodName := ⟨RX5, "setStage", "(I)V"⟩
abbrev cX5_becomeLit : ByteArray := prog_7_method_4_code
def yX5_becomeLit : MethodName := ⟨RX5, "becomeLit", "()V"⟩
abbrev cX5_becomeDark : ByteArray := prog_7_method_5_code
def yX5_becomeDark : MethodName := ⟨RX5, "becomeDark", "()V"⟩
abbrev cX5_hear : ByteArray := prog_7_method_6_code
def yX5_hear : MethodName := ⟨RX5, "hear", "(LBundlePair$Note;)V"⟩
abbrev cX5_age : ByteArray := prog_7_method_7_code
def yX5_age : MethodName := ⟨RX5, "age", "()V"⟩
abbrev cX5_fits : ByteArray := prog_7_method_8_code
def yX5_fits : MethodName := ⟨RX5, "fits", "()Z"⟩
abbrev cX5_isLike : ByteArray := prog_7_method_9_code
def yX5_isLike : MethodName := ⟨RX5, "isLike", "(LBundlePair$Port;)Z"⟩
abbrev cX5_isStillBound : ByteArray := prog_7_method_10_code
def yX5_isStillBound : MethodName := ⟨RX5, "isStillBound", "()Z"⟩
abbrev cX5_bind : ByteArray := prog_7_method_11_code
def yX5_bind : MethodName := ⟨RX5, "bind", "()V"⟩
abbrev cX5_step : ByteArray := prog_7_method_12_code
def yX5_step : MethodName := ⟨RX5, "step", "()I"⟩
abbrev cX5_mustTell : ByteArray := prog_7_method_13_code
def yX5_mustTell : MethodName := ⟨RX5, "mustTell", "(I)Z"⟩
abbrev cX5_rememberTelling : ByteArray := prog_7_method_14_code
def yX5_rememberTelling : MethodName := ⟨RX5, "rememberTelling", "(I)V"⟩
abbrev cX5_gives : ByteArray := prog_7_method_15_code
def yX5_gives : MethodName := ⟨RX5, "gives", "(I)Z"⟩
abbrev cX5_isAheadOf : ByteArray := prog_7_method_16_code
def yX5_isAheadOf : MethodName := ⟨RX5, "isAheadOf", "(LBundlePair$Port;Z)Z"⟩
def RX6 : String := "BundlePair$Told"
def TX6 : u_T := fun k => match k with
  | 0 => ("BundlePair$Told", "system", "I", false)
  | 1 => ("BundlePair$Told", "key", "I", false)
  | 2 => ("BundlePair$Told", "priority", "I", false)
  | 3 => ("BundlePair$Told", "number", "I", false)
  | _ => ("BundlePair$Told", "bits", "I", false)
def tyX6 : Nat → FieldType := fun k => match k with
  | 0 => .int
  | 1 => .int
  | 2 => .int
  | 3 => .int
  | _ => .int
abbrev wsX60 : List Cond := u_ws RX6 TX6 5
theorem nmX6 : ∀ a, a < 5 → ∀ b, b < 5 → a ≠ b → (TX6 a).2.1 ≠ (TX6 b).2.1 := by decide +kernel
theorem tyX6_ok : ∀ k, k < 5 → parseFieldDescriptor (TX6 k).2.2.1 = some (tyX6 k) := by decide +kernel
abbrev cX6_init : ByteArray := prog_8_method_1_code
def yX6_init : MethodName := ⟨RX6, "<init>", "()V"⟩
abbrev cX6_has : ByteArray := prog_8_method_2_code
def yX6_has : MethodName := ⟨RX6, "has", "(I)Z"⟩
abbrev cX6_clear : ByteArray := prog_8_method_3_code
def yX6_clear : MethodName := ⟨RX6, "clear", "()V"⟩
abbrev cX6_copyFrom : ByteArray := prog_8_method_4_code
def yX6_copyFrom : MethodName := ⟨RX6, "copyFrom", "(LBundlePair$Told;)V"⟩
abbrev cX6_setBits : ByteArray := prog_8_method_5_code
def yX6_setBits : MethodName := ⟨RX6, "setBits", "(IZ)V"⟩
abbrev cX6_namesSame : ByteArray := prog_8_method_6_code
def yX6_namesSame : MethodName := ⟨RX6, "namesSame", "(LBundlePair$Told;)Z"⟩
abbrev cX6_isSame : ByteArray := prog_8_method_7_code
def yX6_isSame : MethodName := ⟨RX6, "isSame", "(LBundlePair$Told;)Z"⟩
abbrev cX6_byteAt : ByteArray := prog_8_method_8_code
def yX6_byteAt : MethodName := ⟨RX6, "byteAt", "(I)I"⟩
def RX7 : String := "BundlePair"
def TX7 : u_T := fun k => match k with
  | 0 => ("BundlePair", "ends", "[LBundlePair$End;", true)
  | 1 => ("BundlePair", "cables", "[LBundlePair$Cable;", true)
  | 2 => ("BundlePair", "clock", "I", false)
  | 3 => ("BundlePair", "quiet", "I", false)
  | 4 => ("BundlePair", "dropped", "I", false)
  | 5 => ("BundlePair", "cutOff", "I", false)
  | 6 => ("BundlePair", "unsettled", "I", false)
  | 7 => ("BundlePair", "uncollected", "I", false)
  | _ => ("BundlePair", "overtaken", "I", false)
def tyX7 : Nat → FieldType := fun k => match k with
  | 0 => .array (.object "BundlePair$End")
  | 1 => .array (.object "BundlePair$Cable")
  | 2 => .int
  | 3 => .int
  | 4 => .int
  | 5 => .int
  | 6 => .int
  | 7 => .int
  | _ => .int
abbrev wsX70 : List Cond := u_ws RX7 TX7 9
theorem nmX7 : ∀ a, a < 9 → ∀ b, b < 9 → a ≠ b → (TX7 a).2.1 ≠ (TX7 b).2.1 := by decide +kernel
theorem tyX7_ok : ∀ k, k < 9 → parseFieldDescriptor (TX7 k).2.2.1 = some (tyX7 k) := by decide +kernel
abbrev cX7_init : ByteArray := prog_1_method_1_code
def yX7_init : MethodName := ⟨RX7, "<init>", "()V"⟩
abbrev cX7_system : ByteArray := prog_1_method_2_code
def yX7_system : MethodName := ⟨RX7, "system", "(II)I"⟩
abbrev cX7_limit : ByteArray := prog_1_method_3_code
def yX7_limit : MethodName := ⟨RX7, "limit", "(II)I"⟩
abbrev cX7_port : ByteArray := prog_1_method_4_code
def yX7_port : MethodName := ⟨RX7, "port", "(IIII)V"⟩
abbrev cX7_manner : ByteArray := prog_1_method_5_code
def yX7_manner : MethodName := ⟨RX7, "manner", "(IIZZ)V"⟩
abbrev cX7_plug : ByteArray := prog_1_method_6_code
def yX7_plug : MethodName := ⟨RX7, "plug", "(IIII)V"⟩
abbrev cX7_pull : ByteArray := prog_1_method_7_code
def yX7_pull : MethodName := ⟨RX7, "pull", "(I)V"⟩
abbrev cX7_light : ByteArray := prog_1_method_8_code
def yX7_light : MethodName := ⟨RX7, "light", "(IZ)V"⟩
abbrev cX7_lose : ByteArray := prog_1_method_9_code
def yX7_lose : MethodName := ⟨RX7, "lose", "(III)V"⟩
abbrev cX7_tick : ByteArray := prog_1_method_10_code
def yX7_tick : MethodName := ⟨RX7, "tick", "(I)I"⟩
abbrev cX7_give : ByteArray := prog_1_method_11_code
def yX7_give : MethodName := ⟨RX7, "give", "(IIII)I"⟩
abbrev cX7_came : ByteArray := prog_1_method_12_code
def yX7_came : MethodName := ⟨RX7, "came", "(III)I"⟩
abbrev cX7_look : ByteArray := prog_1_method_13_code
def yX7_look : MethodName := ⟨RX7, "look", "(III)I"⟩
abbrev cX7_cable : ByteArray := prog_1_method_14_code
def yX7_cable : MethodName := ⟨RX7, "cable", "(II)I"⟩
abbrev cX7_note : ByteArray := prog_1_method_15_code
def yX7_note : MethodName := ⟨RX7, "note", "(III)I"⟩
abbrev cX7_count : ByteArray := prog_1_method_16_code
def yX7_count : MethodName := ⟨RX7, "count", "(I)I"⟩
abbrev cX7_isEnd : ByteArray := prog_1_method_17_code
def yX7_isEnd : MethodName := ⟨RX7, "isEnd", "(I)Z"⟩
abbrev cX7_isPort : ByteArray := prog_1_method_18_code
def yX7_isPort : MethodName := ⟨RX7, "isPort", "(I)Z"⟩
abbrev cX7_isCable : ByteArray := prog_1_method_19_code
def yX7_isCable : MethodName := ⟨RX7, "isCable", "(I)Z"⟩
abbrev cX7_isWord : ByteArray := prog_1_method_20_code
def yX7_isWord : MethodName := ⟨RX7, "isWord", "(I)Z"⟩
abbrev cX7_isTaken : ByteArray := prog_1_method_21_code
def yX7_isTaken : MethodName := ⟨RX7, "isTaken", "(LBundlePair$Port;I)Z"⟩
abbrev cX7_strongerEnd : ByteArray := prog_1_method_22_code
def yX7_strongerEnd : MethodName := ⟨RX7, "strongerEnd", "()I"⟩
abbrev cX7_noteChange : ByteArray := prog_1_method_23_code
def yX7_noteChange : MethodName := ⟨RX7, "noteChange", "()V"⟩
abbrev cX7_countMeantAhead : ByteArray := prog_1_method_24_code
def yX7_countMeantAhead : MethodName := ⟨RX7, "countMeantAhead", "(LBundlePair$Cable;)I"⟩
abbrev cX7_putIn : ByteArray := prog_1_method_25_code
def yX7_putIn : MethodName := ⟨RX7, "putIn", "(IILBundlePair$Port;)V"⟩
abbrev cX7_takeOut : ByteArray := prog_1_method_26_code
def yX7_takeOut : MethodName := ⟨RX7, "takeOut", "(LBundlePair$Cable;)V"⟩
abbrev cX7_switchOn : ByteArray := prog_1_method_27_code
def yX7_switchOn : MethodName := ⟨RX7, "switchOn", "(LBundlePair$Cable;)V"⟩
abbrev cX7_switchOff : ByteArray := prog_1_method_28_code
def yX7_switchOff : MethodName := ⟨RX7, "switchOff", "(LBundlePair$Cable;)V"⟩
abbrev cX7_runTick : ByteArray := prog_1_method_29_code
def yX7_runTick : MethodName := ⟨RX7, "runTick", "()V"⟩
abbrev cX7_bringAll : ByteArray := prog_1_method_30_code
def yX7_bringAll : MethodName := ⟨RX7, "bringAll", "()V"⟩
abbrev cX7_bringNotes : ByteArray := prog_1_method_31_code
def yX7_bringNotes : MethodName := ⟨RX7, "bringNotes", "(LBundlePair$Lane;LBundlePair$Port;)V"⟩
abbrev cX7_bringFrames : ByteArray := prog_1_method_32_code
def yX7_bringFrames : MethodName := ⟨RX7, "bringFrames", "(LBundlePair$Lane;LBundlePair$Port;I)V"⟩
abbrev cX7_receive : ByteArray := prog_1_method_33_code
def yX7_receive : MethodName := ⟨RX7, "receive", "(LBundlePair$Frame;LBundlePair$Port;I)V"⟩
abbrev cX7_ageAll : ByteArray := prog_1_method_34_code
def yX7_ageAll : MethodName := ⟨RX7, "ageAll", "()V"⟩
abbrev cX7_stepAll : ByteArray := prog_1_method_35_code
def yX7_stepAll : MethodName := ⟨RX7, "stepAll", "()V"⟩
abbrev cX7_tellAll : ByteArray := prog_1_method_36_code
def yX7_tellAll : MethodName := ⟨RX7, "tellAll", "()Z"⟩
abbrev cX7_tellFrom : ByteArray := prog_1_method_37_code
def yX7_tellFrom : MethodName := ⟨RX7, "tellFrom", "(ILBundlePair$Port;)Z"⟩
abbrev cX7_isSettled : ByteArray := prog_1_method_38_code
def yX7_isSettled : MethodName := ⟨RX7, "isSettled", "()Z"⟩
def RX8 : String := "BundlePairModel"
def TX8 : u_T := fun k => match k with
  | 0 => ("BundlePairModel", "thrown", "I", false)
  | 1 => ("BundlePairModel", "system", "[I", true)
  | 2 => ("BundlePairModel", "limit", "[I", true)
  | 3 => ("BundlePairModel", "key", "[I", true)
  | 4 => ("BundlePairModel", "priority", "[I", true)
  | 5 => ("BundlePairModel", "active", "[Z", true)
  | 6 => ("BundlePairModel", "quick", "[Z", true)
  | 7 => ("BundlePairModel", "view", "[I", true)
  | 8 => ("BundlePairModel", "timer", "[I", true)
  | 9 => ("BundlePairModel", "stage", "[I", true)
  | 10 => ("BundlePairModel", "wait", "[I", true)
  | 11 => ("BundlePairModel", "inCable", "[I", true)
  | 12 => ("BundlePairModel", "bundle", "[I", true)
  | 13 => ("BundlePairModel", "chosen", "[Z", true)
  | 14 => ("BundlePairModel", "owes", "[Z", true)
  | 15 => ("BundlePairModel", "got", "[Z", true)
  | 16 => ("BundlePairModel", "put", "[I", true)
  | 17 => ("BundlePairModel", "came", "[I", true)
  | 18 => ("BundlePairModel", "partner", "[I", true)
  | 19 => ("BundlePairModel", "left", "[I", true)
  | 20 => ("BundlePairModel", "last", "[I", true)
  | 21 => ("BundlePairModel", "lastAt", "[I", true)
  | 22 => ("BundlePairModel", "portOf", "[I", true)
  | 23 => ("BundlePairModel", "delay", "[I", true)
  | 24 => ("BundlePairModel", "plugged", "[Z", true)
  | 25 => ("BundlePairModel", "up", "[Z", true)
  | 26 => ("BundlePairModel", "lost", "[I", true)
  | 27 => ("BundlePairModel", "tCable", "[I", true)
  | 28 => ("BundlePairModel", "tEnd", "[I", true)
  | 29 => ("BundlePairModel", "tDue", "[I", true)
  | 30 => ("BundlePairModel", "tFrame", "[I", true)
  | 31 => ("BundlePairModel", "tNote", "[I", true)
  | 32 => ("BundlePairModel", "things", "I", false)
  | 33 => ("BundlePairModel", "fEnd", "[I", true)
  | 34 => ("BundlePairModel", "fBundle", "[I", true)
  | 35 => ("BundlePairModel", "fConversation", "[I", true)
  | 36 => ("BundlePairModel", "fValue", "[I", true)
  | 37 => ("BundlePairModel", "fEpoch", "[I", true)
  | 38 => ("BundlePairModel", "fCame", "[Z", true)
  | 39 => ("BundlePairModel", "frames", "I", false)
  | 40 => ("BundlePairModel", "epoch", "[I", true)
  | 41 => ("BundlePairModel", "kept", "[I", true)
  | 42 => ("BundlePairModel", "cameMany", "[I", true)
  | 43 => ("BundlePairModel", "clock", "I", false)
  | 44 => ("BundlePairModel", "quiet", "I", false)
  | 45 => ("BundlePairModel", "dropped", "I", false)
  | 46 => ("BundlePairModel", "gone", "I", false)
  | 47 => ("BundlePairModel", "notSo", "I", false)
  | 48 => ("BundlePairModel", "blind", "I", false)
  | 49 => ("BundlePairModel", "late", "I", false)
  | _ => ("BundlePairModel", "wasLost", "Z", false)
def tyX8 : Nat → FieldType := fun k => match k with
  | 0 => .int
  | 1 => .array .int
  | 2 => .array .int
  | 3 => .array .int
  | 4 => .array .int
  | 5 => .array .boolean
  | 6 => .array .boolean
  | 7 => .array .int
  | 8 => .array .int
  | 9 => .array .int
  | 10 => .array .int
  | 11 => .array .int
  | 12 => .array .int
  | 13 => .array .boolean
  | 14 => .array .boolean
  | 15 => .array .boolean
  | 16 => .array .int
  | 17 => .array .int
  | 18 => .array .int
  | 19 => .array .int
  | 20 => .array .int
  | 21 => .array .int
  | 22 => .array .int
  | 23 => .array .int
  | 24 => .array .boolean
  | 25 => .array .boolean
  | 26 => .array .int
  | 27 => .array .int
  | 28 => .array .int
  | 29 => .array .int
  | 30 => .array .int
  | 31 => .array .int
  | 32 => .int
  | 33 => .array .int
  | 34 => .array .int
  | 35 => .array .int
  | 36 => .array .int
  | 37 => .array .int
  | 38 => .array .boolean
  | 39 => .int
  | 40 => .array .int
  | 41 => .array .int
  | 42 => .array .int
  | 43 => .int
  | 44 => .int
  | 45 => .int
  | 46 => .int
  | 47 => .int
  | 48 => .int
  | 49 => .int
  | _ => .boolean
abbrev wsX80 : List Cond := u_ws RX8 TX8 51
theorem nmX8 : ∀ a, a < 51 → ∀ b, b < 51 → a ≠ b → (TX8 a).2.1 ≠ (TX8 b).2.1 := by decide +kernel
theorem tyX8_ok : ∀ k, k < 51 → parseFieldDescriptor (TX8 k).2.2.1 = some (tyX8 k) := by decide +kernel
abbrev cX8_init : ByteArray := prog_10_method_1_code
def yX8_init : MethodName := ⟨RX8, "<init>", "()V"⟩
abbrev cX8_thrown : ByteArray := prog_10_method_2_code
def yX8_thrown : MethodName := ⟨RX8, "thrown", "()I"⟩
abbrev cX8_isEnd : ByteArray := prog_10_method_3_code
def yX8_isEnd : MethodName := ⟨RX8, "isEnd", "(I)Z"⟩
abbrev cX8_isPort : ByteArray := prog_10_method_4_code
def yX8_isPort : MethodName := ⟨RX8, "isPort", "(I)Z"⟩
abbrev cX8_bits : ByteArray := prog_10_method_5_code
def yX8_bits : MethodName := ⟨RX8, "bits", "(I)I"⟩
abbrev cX8_own : ByteArray := prog_10_method_6_code
def yX8_own : MethodName := ⟨RX8, "own", "(II)I"⟩
abbrev cX8_isLit : ByteArray := prog_10_method_7_code
def yX8_isLit : MethodName := ⟨RX8, "isLit", "(I)Z"⟩
abbrev cX8_isPartner : ByteArray := prog_10_method_8_code
def yX8_isPartner : MethodName := ⟨RX8, "isPartner", "(II)Z"⟩
abbrev cX8_stronger : ByteArray := prog_10_method_9_code
def yX8_stronger : MethodName := ⟨RX8, "stronger", "()I"⟩
abbrev cX8_forgets : ByteArray := prog_10_method_10_code
def yX8_forgets : MethodName := ⟨RX8, "forgets", "(I)V"⟩
abbrev cX8_partnerStops : ByteArray := prog_10_method_11_code
def yX8_partnerStops : MethodName := ⟨RX8, "partnerStops", "(I)V"⟩
abbrev cX8_goesTo : ByteArray := prog_10_method_12_code
def yX8_goesTo : MethodName := ⟨RX8, "goesTo", "(II)V"⟩
abbrev cX8_isLitNow : ByteArray := prog_10_method_13_code
def yX8_isLitNow : MethodName := ⟨RX8, "isLitNow", "(I)V"⟩
abbrev cX8_isDarkNow : ByteArray := prog_10_method_14_code
def yX8_isDarkNow : MethodName := ⟨RX8, "isDarkNow", "(I)V"⟩
abbrev cX8_isNotQuiet : ByteArray := prog_10_method_15_code
def yX8_isNotQuiet : MethodName := ⟨RX8, "isNotQuiet", "()V"⟩
abbrev cX8_system : ByteArray := prog_10_method_16_code
def yX8_system : MethodName := ⟨RX8, "system", "(II)I"⟩
abbrev cX8_limit : ByteArray := prog_10_method_17_code
def yX8_limit : MethodName := ⟨RX8, "limit", "(II)I"⟩
abbrev cX8_port : ByteArray := prog_10_method_18_code
def yX8_port : MethodName := ⟨RX8, "port", "(IIII)V"⟩
abbrev cX8_manner : ByteArray := prog_10_method_19_code
def yX8_manner : MethodName := ⟨RX8, "manner", "(IIZZ)V"⟩
abbrev cX8_portAt : ByteArray := prog_10_method_20_code
def yX8_portAt : MethodName := ⟨RX8, "portAt", "(II)I"⟩
abbrev cX8_empties : ByteArray := prog_10_method_21_code
def yX8_empties : MethodName := ⟨RX8, "empties", "(I)V"⟩
abbrev cX8_moves : ByteArray := prog_10_method_22_code
def yX8_moves : MethodName := ⟨RX8, "moves", "(II)V"⟩
abbrev cX8_isCut : ByteArray := prog_10_method_23_code
def yX8_isCut : MethodName := ⟨RX8, "isCut", "(I)V"⟩
abbrev cX8_isUp : ByteArray := prog_10_method_24_code
def yX8_isUp : MethodName := ⟨RX8, "isUp", "(I)V"⟩
abbrev cX8_isPulled : ByteArray := prog_10_method_25_code
def yX8_isPulled : MethodName := ⟨RX8, "isPulled", "(I)V"⟩
abbrev cX8_isCable : ByteArray := prog_10_method_26_code
def yX8_isCable : MethodName := ⟨RX8, "isCable", "(I)Z"⟩
abbrev cX8_isAnother : ByteArray := prog_10_method_27_code
def yX8_isAnother : MethodName := ⟨RX8, "isAnother", "(II)Z"⟩
abbrev cX8_plug : ByteArray := prog_10_method_28_code
def yX8_plug : MethodName := ⟨RX8, "plug", "(IIII)V"⟩
abbrev cX8_pull : ByteArray := prog_10_method_29_code
def yX8_pull : MethodName := ⟨RX8, "pull", "(I)V"⟩
abbrev cX8_light : ByteArray := prog_10_method_30_code
def yX8_light : MethodName := ⟨RX8, "light", "(IZ)V"⟩
abbrev cX8_lose : ByteArray := prog_10_method_31_code
def yX8_lose : MethodName := ⟨RX8, "lose", "(III)V"⟩
abbrev cX8_frameComes : ByteArray := prog_10_method_32_code
def yX8_frameComes : MethodName := ⟨RX8, "frameComes", "(II)V"⟩
abbrev cX8_noteComes : ByteArray := prog_10_method_33_code
def yX8_noteComes : MethodName := ⟨RX8, "noteComes", "(II)V"⟩
abbrev cX8_comes : ByteArray := prog_10_method_34_code
def yX8_comes : MethodName := ⟨RX8, "comes", "()I"⟩
abbrev cX8_ages : ByteArray := prog_10_method_35_code
def yX8_ages : MethodName := ⟨RX8, "ages", "(I)V"⟩
abbrev cX8_fits : ByteArray := prog_10_method_36_code
def yX8_fits : MethodName := ⟨RX8, "fits", "(I)Z"⟩
abbrev cX8_areLike : ByteArray := prog_10_method_37_code
def yX8_areLike : MethodName := ⟨RX8, "areLike", "(II)Z"⟩
abbrev cX8_isAhead : ByteArray := prog_10_method_38_code
def yX8_isAhead : MethodName := ⟨RX8, "isAhead", "(II)Z"⟩
abbrev cX8_chooses : ByteArray := prog_10_method_39_code
def yX8_chooses : MethodName := ⟨RX8, "chooses", "(I)V"⟩
abbrev cX8_isOther : ByteArray := prog_10_method_40_code
def yX8_isOther : MethodName := ⟨RX8, "isOther", "(I)Z"⟩
abbrev cX8_steps : ByteArray := prog_10_method_41_code
def yX8_steps : MethodName := ⟨RX8, "steps", "(I)V"⟩
abbrev cX8_isTold : ByteArray := prog_10_method_42_code
def yX8_isTold : MethodName := ⟨RX8, "isTold", "(I)Z"⟩
abbrev cX8_comesOn : ByteArray := prog_10_method_43_code
def yX8_comesOn : MethodName := ⟨RX8, "comesOn", "(III)V"⟩
abbrev cX8_puts : ByteArray := prog_10_method_44_code
def yX8_puts : MethodName := ⟨RX8, "puts", "(I)V"⟩
abbrev cX8_tick : ByteArray := prog_10_method_45_code
def yX8_tick : MethodName := ⟨RX8, "tick", "()I"⟩
abbrev cX8_tick_ : ByteArray := prog_10_method_46_code
def yX8_tick_ : MethodName := ⟨RX8, "tick", "(I)I"⟩
abbrev cX8_agrees : ByteArray := prog_10_method_47_code
def yX8_agrees : MethodName := ⟨RX8, "agrees", "(I)Z"⟩
abbrev cX8_isMeant : ByteArray := prog_10_method_48_code
def yX8_isMeant : MethodName := ⟨RX8, "isMeant", "(I)Z"⟩
abbrev cX8_isAsMeant : ByteArray := prog_10_method_49_code
def yX8_isAsMeant : MethodName := ⟨RX8, "isAsMeant", "()Z"⟩
abbrev cX8_on : ByteArray := prog_10_method_50_code
def yX8_on : MethodName := ⟨RX8, "on", "(IIZ)I"⟩
abbrev cX8_give : ByteArray := prog_10_method_51_code
def yX8_give : MethodName := ⟨RX8, "give", "(IIII)I"⟩
abbrev cX8_came : ByteArray := prog_10_method_52_code
def yX8_came : MethodName := ⟨RX8, "came", "(III)I"⟩
abbrev cX8_look : ByteArray := prog_10_method_53_code
def yX8_look : MethodName := ⟨RX8, "look", "(III)I"⟩
abbrev cX8_cable : ByteArray := prog_10_method_54_code
def yX8_cable : MethodName := ⟨RX8, "cable", "(II)I"⟩
abbrev cX8_note : ByteArray := prog_10_method_55_code
def yX8_note : MethodName := ⟨RX8, "note", "(III)I"⟩
abbrev cX8_count : ByteArray := prog_10_method_56_code
def yX8_count : MethodName := ⟨RX8, "count", "(I)I"⟩
def RL : String := "BundlePairLaw"
abbrev cL_system : ByteArray := method_3_code
def yL_system : MethodName := ⟨RL, "system", "(LBundlePair;II[J)I"⟩
abbrev cL_limit : ByteArray := method_4_code
def yL_limit : MethodName := ⟨RL, "limit", "(LBundlePair;II[J)I"⟩
abbrev cL_port : ByteArray := method_5_code
def yL_port : MethodName := ⟨RL, "port", "(LBundlePair;IIII)I"⟩
abbrev cL_manner : ByteArray := method_6_code
def yL_manner : MethodName := ⟨RL, "manner", "(LBundlePair;IIZZ)I"⟩
abbrev cL_plug : ByteArray := method_7_code
def yL_plug : MethodName := ⟨RL, "plug", "(LBundlePair;IIII)I"⟩
abbrev cL_pull : ByteArray := method_8_code
def yL_pull : MethodName := ⟨RL, "pull", "(LBundlePair;I)I"⟩
abbrev cL_light : ByteArray := method_9_code
def yL_light : MethodName := ⟨RL, "light", "(LBundlePair;IZ)I"⟩
abbrev cL_lose : ByteArray := method_10_code
def yL_lose : MethodName := ⟨RL, "lose", "(LBundlePair;III)I"⟩
abbrev cL_tick : ByteArray := method_11_code
def yL_tick : MethodName := ⟨RL, "tick", "(LBundlePair;I[J)I"⟩
abbrev cL_give : ByteArray := method_12_code
def yL_give : MethodName := ⟨RL, "give", "(LBundlePair;IIII[J)I"⟩
abbrev cL_came : ByteArray := method_13_code
def yL_came : MethodName := ⟨RL, "came", "(LBundlePair;III[J)I"⟩
abbrev cL_look : ByteArray := method_14_code
def yL_look : MethodName := ⟨RL, "look", "(LBundlePair;III[J)I"⟩
abbrev cL_cable : ByteArray := method_15_code
def yL_cable : MethodName := ⟨RL, "cable", "(LBundlePair;II[J)I"⟩
abbrev cL_law : ByteArray := code
def yL_law : MethodName := ⟨RL, "law", "([I)Z"⟩
abbrev vwCl : List vw_C := [(RX0, TX0, 5), (RX1, TX1, 9), (RX2, TX2, 7), (RX3, TX3, 7), (RX4, TX4, 3), (RX5, TX5, 18), (RX6, TX6, 5), (RX7, TX7, 9), (RX8, TX8, 51)]
end
section
/-! THE MEMORY: what each address of the pool holds. kind 0: nothing of ours; 1 to 9: an object of vwCl's place kind - 1; 10 ints, 11 booleans, 12 to 17 references (Cable, End, Frame, Lane, Note, Port), 18 longs -/
abbrev MM : Type := (Nat → Nat) × (Nat → Nat) × (Nat → Nat → Int32) × (Nat → Nat → Option Nat) × (Nat → Nat → Int64)
def sK (S : MM) : Nat → Nat := S.1
def sN (S : MM) : Nat → Nat := S.2.1
def sI (S : MM) : Nat → Nat → Int32 := S.2.2.1
def sR (S : MM) : Nat → Nat → Option Nat := S.2.2.2.1
def sJ (S : MM) : Nat → Nat → Int64 := S.2.2.2.2
def up2 {α : Type} (f : Nat → Nat → α) (a k : Nat) (v : α) : Nat → Nat → α := fun b j => if b = a ∧ j = k then v else f b j
def cl2 {α : Type} (f : Nat → Nat → α) (a : Nat) (v : α) : Nat → Nat → α := fun b j => if b = a then v else f b j
def pI (S : MM) (a k : Nat) (v : Int32) : MM := (sK S, sN S, up2 (sI S) a k v, sR S, sJ S)
def pR (S : MM) (a k : Nat) (v : Option Nat) : MM := (sK S, sN S, sI S, up2 (sR S) a k v, sJ S)
def pJ (S : MM) (a k : Nat) (v : Int64) : MM := (sK S, sN S, sI S, sR S, up2 (sJ S) a k v)
def nw (S : MM) (a kd n : Nat) : MM := (va_up (sK S) a kd, va_up (sN S) a n, cl2 (sI S) a 0, cl2 (sR S) a none, cl2 (sJ S) a 0)
theorem sK_pI (S : MM) (a k : Nat) (v : Int32) : sK (pI S a k v) = sK S := rfl
theorem sN_pI (S : MM) (a k : Nat) (v : Int32) : sN (pI S a k v) = sN S := rfl
theorem sI_pI (S : MM) (a k : Nat) (v : Int32) : sI (pI S a k v) = up2 (sI S) a k v := rfl
theorem sR_pI (S : MM) (a k : Nat) (v : Int32) : sR (pI S a k v) = sR S := rfl
theorem sJ_pI (S : MM) (a k : Nat) (v : Int32) : sJ (pI S a k v) = sJ S := rfl
theorem sK_pR (S : MM) (a k : Nat) (v : Option Nat) : sK (pR S a k v) = sK S := rfl
theorem sN_pR (S : MM) (a k : Nat) (v : Option Nat) : sN (pR S a k v) = sN S := rfl
theorem sI_pR (S : MM) (a k : Nat) (v : Option Nat) : sI (pR S a k v) = sI S := rfl
theorem sR_pR (S : MM) (a k : Nat) (v : Option Nat) : sR (pR S a k v) = up2 (sR S) a k v := rfl
theorem sJ_pR (S : MM) (a k : Nat) (v : Option Nat) : sJ (pR S a k v) = sJ S := rfl
theorem sK_pJ (S : MM) (a k : Nat) (v : Int64) : sK (pJ S a k v) = sK S := rfl
theorem sN_pJ (S : MM) (a k : Nat) (v : Int64) : sN (pJ S a k v) = sN S := rfl
theorem sI_pJ (S : MM) (a k : Nat) (v : Int64) : sI (pJ S a k v) = sI S := rfl
theorem sR_pJ (S : MM) (a k : Nat) (v : Int64) : sR (pJ S a k v) = sR S := rfl
theorem sJ_pJ (S : MM) (a k : Nat) (v : Int64) : sJ (pJ S a k v) = up2 (sJ S) a k v := rfl
theorem sK_nw (S : MM) (a kd n : Nat) : sK (nw S a kd n) = va_up (sK S) a kd := rfl
theorem sN_nw (S : MM) (a kd n : Nat) : sN (nw S a kd n) = va_up (sN S) a n := rfl
theorem sI_nw (S : MM) (a kd n : Nat) : sI (nw S a kd n) = cl2 (sI S) a 0 := rfl
theorem sR_nw (S : MM) (a kd n : Nat) : sR (nw S a kd n) = cl2 (sR S) a none := rfl
theorem sJ_nw (S : MM) (a kd n : Nat) : sJ (nw S a kd n) = cl2 (sJ S) a 0 := rfl
def M0 : MM := (fun _ => 0, fun _ => 0, fun _ _ => 0, fun _ _ => none, fun _ _ => 0)
/-- which fields are references, by class -/
def sg (ci : Nat) : List Bool := match ci with
  | 0 => [true, true, false, false, false]
  | 1 => [true, false, false, false, true, false, false, false, false]
  | 2 => [false, false, false, false, false, false, false]
  | 3 => [true, false, false, true, false, false, false]
  | 4 => [true, true, false]
  | 5 => [true, true, false, false, false, false, false, false, false, false, false, false, false, false, true, false, false, false]
  | 6 => [false, false, false, false, false]
  | 7 => [true, true, false, false, false, false, false, false, false]
  | 8 => [false] ++ List.replicate 31 true ++ [false] ++ List.replicate 6 true ++ [false, true, true, true] ++ List.replicate 8 false
  | _ => []
def fv (ci : Nat) (S : MM) (a k : Nat) : Value := if (sg ci).getD k false then va_rf (sR S a k) else .int (sI S a k)
def fl (ci : Nat) (S : MM) (a : Nat) : List Value := (List.range (sg ci).length).map (fv ci S a)
def fF (cA : Nat → ClassId) (S : MM) (a : Nat) : va_E :=
  if sK S a ≤ 9 then .inr (sK S a - 1, fl (sK S a - 1) S a)
  else if sK S a ≤ 11 then .inl (cA (sK S a), sN S a, .inl (sI S a))
  else if sK S a ≤ 17 then .inl (cA (sK S a), sN S a, .inr (.inr (.inr (.inr (sR S a)))))
  else .inl (cA (sK S a), sN S a, .inr (.inl (sJ S a)))
def wd (D : va_G) (cA : Nat → ClassId) (base : Nat) (S : MM) (H : Heap) : Prop := ∀ a, sK S a ≠ 0 → base ≤ a ∧ va_at D vwCl (a, fF cA S a) H
def LL (S : MM) (H : Heap) : List Nat := (List.range H.size).filter (fun a => !(sK S a == 0))
theorem LL_mem {D : va_G} {cA : Nat → ClassId} {base : Nat} {S : MM} {H : Heap} (h : wd D cA base S H) {a : Nat} (ha : sK S a ≠ 0) : a ∈ LL S H := by
  have h1 : a < H.size := ((h a ha).2).lt
  simp [LL, h1, ha]
theorem LL_k {S : MM} {H : Heap} {a : Nat} (h : a ∈ LL S H) : sK S a ≠ 0 := by
  simp [LL] at h
  exact h.2
theorem LL_nd (S : MM) (H : Heap) : (LL S H).Pairwise (fun a b => a ≠ b) := List.Pairwise.filter _ (List.nodup_range (n := H.size))
theorem wd_P {D : va_G} {cA : Nat → ClassId} {base : Nat} {S : MM} {H : Heap} (h : wd D cA base S H) : va_P D vwCl ([] ++ va_pl (LL S H) (fF cA S)) H := by
  intro k q hk
  rw [List.nil_append] at hk
  obtain ⟨a, ha, rfl⟩ := List.mem_map.mp (List.mem_of_getElem? hk)
  exact (h a (LL_k ha)).2
theorem wd_D {D : va_G} {cA : Nat → ClassId} {base : Nat} {S : MM} {H : Heap} (h : wd D cA base S H) : va_D (fun q => base ≤ q) ([] ++ va_pl (LL S H) (fF cA S)) := by
  refine ⟨fun i j x y hi hj hxy => ?_, fun k q hk => ?_⟩
  · rw [List.nil_append] at hi hj
    simp only [va_pl, List.getElem?_map] at hi hj
    cases hi' : (LL S H)[i]? with
    | none => rw [hi'] at hi; cases hi
    | some a =>
      cases hj' : (LL S H)[j]? with
      | none => rw [hj'] at hj; cases hj
      | some b =>
        rw [hi'] at hi; rw [hj'] at hj
        cases hi; cases hj
        have hab : a = b := hxy
        subst hab
        obtain ⟨h1, h2⟩ := List.getElem?_eq_some_iff.mp hi'
        obtain ⟨h3, h4⟩ := List.getElem?_eq_some_iff.mp hj'
        have hp := List.pairwise_iff_getElem.mp (LL_nd S H)
        rcases Nat.lt_trichotomy i j with q | q | q
        · exact absurd (h2.trans h4.symm) (hp i j h1 h3 q)
        · exact q
        · exact absurd (h4.trans h2.symm) (hp j i h3 h1 q)
  · rw [List.nil_append] at hk
    obtain ⟨a, ha, rfl⟩ := List.mem_map.mp (List.mem_of_getElem? hk)
    exact (h a (LL_k ha)).1
theorem wd_of {D : va_G} {cA : Nat → ClassId} {base : Nat} {S S' : MM} {H H1 : Heap} {f : Nat → va_E} (h : wd D cA base S H) (hk : ∀ b, sK S' b = sK S b) (hf : ∀ b, f b = fF cA S' b) (hP : va_P D vwCl ([] ++ va_pl (LL S H) f) H1) : wd D cA base S' H1 := by
  intro a ha
  rw [hk] at ha
  refine ⟨(h a ha).1, ?_⟩
  obtain ⟨k, hk⟩ := va_pl_get (X := []) (f := f) (LL_mem h ha)
  rw [← hf a]
  exact hP k _ hk
/-- behind a write of the cell a -/
theorem wd_set {D : va_G} {cA : Nat → ClassId} {base : Nat} {S S' : MM} {H H1 : Heap} {a q : Nat} {e' : va_E} (h : wd D cA base S H) (ha : sK S a ≠ 0) (hk : ∀ b, sK S' b = sK S b) (hf : ∀ b, va_up (fF cA S) a e' b = fF cA S' b) (hq : ([] ++ va_pl (LL S H) (fF cA S))[q]? = some (a, fF cA S a)) (hP : va_P D vwCl (([] ++ va_pl (LL S H) (fF cA S)).set q (a, e')) H1) : wd D cA base S' H1 := by
  rw [va_pl_set (wd_D h) (LL_mem h ha) hq] at hP
  exact wd_of h hk hf hP
theorem wd_new {D : va_G} {cA : Nat → ClassId} {base : Nat} {S : MM} {H H1 : Heap} {q kd n : Nat} {e' : va_E} (h : wd D cA base S H) (he : fF cA (nw S q kd n) q = e') (hD : va_D (fun q => base ≤ q) (([] ++ va_pl (LL S H) (fF cA S)) ++ [(q, e')])) (hP : va_P D vwCl (([] ++ va_pl (LL S H) (fF cA S)) ++ [(q, e')]) H1) : sK S q = 0 ∧ wd D cA base (nw S q kd n) H1 := by
  have hz : sK S q = 0 := by
    by_cases hz : sK S q = 0
    · exact hz
    · obtain ⟨k, hk⟩ := va_pl_get (X := []) (f := fF cA S) (LL_mem h hz)
      have hl := (List.getElem?_eq_some_iff.mp hk).1
      have h1 : (([] ++ va_pl (LL S H) (fF cA S)) ++ [(q, e')])[k]? = some (q, fF cA S q) := by
        rw [List.getElem?_append_left hl]; exact hk
      have h2 : (([] ++ va_pl (LL S H) (fF cA S)) ++ [(q, e')])[([] ++ va_pl (LL S H) (fF cA S)).length]? = some (q, e') := by
        rw [List.getElem?_append_right (Nat.le_refl _), Nat.sub_self]; rfl
      have := hD.1 _ _ _ _ h1 h2 rfl
      omega
  refine ⟨hz, fun a ha => ?_⟩
  by_cases haq : a = q
  · subst haq
    have h2 : (([] ++ va_pl (LL S H) (fF cA S)) ++ [(a, e')])[([] ++ va_pl (LL S H) (fF cA S)).length]? = some (a, e') := by
      rw [List.getElem?_append_right (Nat.le_refl _), Nat.sub_self]; rfl
    exact ⟨hD.2 _ _ h2, by rw [he]; exact hP _ _ h2⟩
  · have hka : sK (nw S q kd n) a = sK S a := va_up_ne _ _ haq
    rw [hka] at ha
    have hff : fF cA (nw S q kd n) a = fF cA S a := by
      have e1 : sN (nw S q kd n) a = sN S a := va_up_ne _ _ haq
      have e2 : sI (nw S q kd n) a = sI S a := by funext j; show cl2 (sI S) q 0 a j = sI S a j; simp [cl2, haq]
      have e3 : sR (nw S q kd n) a = sR S a := by funext j; show cl2 (sR S) q none a j = sR S a j; simp [cl2, haq]
      have e4 : sJ (nw S q kd n) a = sJ S a := by funext j; show cl2 (sJ S) q 0 a j = sJ S a j; simp [cl2, haq]
      unfold fF fl
      rw [hka, e1, e2, e3, e4]
      have e5 : ∀ ci k, fv ci (nw S q kd n) a k = fv ci S a k := by intro ci k; unfold fv; rw [e2, e3]
      rw [show fv (sK S a - 1) (nw S q kd n) a = fv (sK S a - 1) S a from funext (e5 _)]
    refine ⟨(h a ha).1, ?_⟩
    rw [hff]
    obtain ⟨k, hk⟩ := va_pl_get (X := []) (f := fF cA S) (LL_mem h ha)
    have hl := (List.getElem?_eq_some_iff.mp hk).1
    exact hP k _ (by rw [List.getElem?_append_left hl]; exact hk)
theorem wd_kept {D : va_G} {cA : Nat → ClassId} {base : Nat} {S : MM} {H H1 : Heap} (h : wd D cA base S H) (hq : ∀ q : Nat, q < H.size → H1[q]? = H[q]?) : wd D cA base S H1 := fun a ha => ⟨(h a ha).1, ((h a ha).2).kept (hq a ((h a ha).2).lt)⟩
theorem M0_wd {D : va_G} {cA : Nat → ClassId} {base : Nat} {H : Heap} : wd D cA base M0 H := fun _ h => absurd rfl h
-- kinds
theorem fF_obj {cA : Nat → ClassId} {S : MM} {a ci : Nat} (h : sK S a = ci + 1) (hc : ci < 9) : fF cA S a = .inr (ci, fl ci S a) := by
  unfold fF
  rw [h, if_pos (by omega)]
  rfl
theorem fF_int {cA : Nat → ClassId} {S : MM} {a kd : Nat} (h : sK S a = kd) (h1 : 10 ≤ kd) (h2 : kd ≤ 11) : fF cA S a = .inl (cA kd, sN S a, .inl (sI S a)) := by
  unfold fF
  rw [h, if_neg (by omega), if_pos (by omega)]
theorem fF_ref {cA : Nat → ClassId} {S : MM} {a kd : Nat} (h : sK S a = kd) (h1 : 12 ≤ kd) (h2 : kd ≤ 17) : fF cA S a = .inl (cA kd, sN S a, .inr (.inr (.inr (.inr (sR S a))))) := by
  unfold fF
  rw [h, if_neg (by omega), if_neg (by omega), if_pos (by omega)]
theorem fF_long {cA : Nat → ClassId} {S : MM} {a : Nat} (h : sK S a = 18) : fF cA S a = .inl (cA 18, sN S a, .inr (.inl (sJ S a))) := by
  unfold fF
  rw [h, if_neg (by omega), if_neg (by omega), if_neg (by omega)]
theorem fl_at {ci k : Nat} (S : MM) (a : Nat) (hk : k < (sg ci).length) : (fl ci S a)[k]? = some (fv ci S a k) := by
  simp [fl, hk]
theorem fl_len {ci : Nat} (S : MM) (a : Nat) : (fl ci S a).length = (sg ci).length := by simp [fl]
theorem fv_I {ci k : Nat} (S : MM) (a : Nat) (h : (sg ci).getD k false = false) : fv ci S a k = .int (sI S a k) := by unfold fv; rw [h]; rfl
theorem fv_R {ci k : Nat} (S : MM) (a : Nat) (h : (sg ci).getD k false = true) : fv ci S a k = va_rf (sR S a k) := by unfold fv; rw [h]; rfl
theorem fF_row {cA : Nat → ClassId} {S S' : MM} {b : Nat} (h0 : sK S' b = sK S b) (h1 : sN S' b = sN S b) (h2 : sI S' b = sI S b) (h3 : sR S' b = sR S b) (h4 : sJ S' b = sJ S b) : fF cA S' b = fF cA S b := by
  have e5 : ∀ ci, fv ci S' b = fv ci S b := by intro ci; funext k; unfold fv; rw [h2, h3]
  unfold fF fl
  rw [h0, h1, h2, h3, h4, e5]
theorem up2_row {α : Type} {f : Nat → Nat → α} {a k b : Nat} {v : α} (h : b ≠ a) : up2 f a k v b = f b := by funext j; simp [up2, h]
theorem up2_self {α : Type} (f : Nat → Nat → α) (a k : Nat) (v : α) : up2 f a k v a k = v := by simp [up2]
theorem up2_ne {α : Type} {f : Nat → Nat → α} {a k b j : Nat} {v : α} (h : ¬ (b = a ∧ j = k)) : up2 f a k v b j = f b j := by simp [up2, h]
theorem up2_upd (f : Nat → Nat → Int32) (a k : Nat) (v : Int32) : up2 f a k v a = upd (f a) k v := by funext j; simp [up2, upd]
theorem up2_va {α : Type} (f : Nat → Nat → α) (a k : Nat) (v : α) : up2 f a k v a = va_up (f a) k v := by funext j; simp [up2, va_up]
theorem set_pI {cA : Nat → ClassId} {S : MM} {a ci k : Nat} {v : Int32} (h : sK S a = ci + 1) (hc : ci < 9) (hk : k < (sg ci).length) (hg : (sg ci).getD k false = false) (b : Nat) : va_up (fF cA S) a (.inr (ci, (fl ci S a).set k (.int v))) b = fF cA (pI S a k v) b := by
  by_cases hb : b = a
  · subst hb
    rw [va_up_self, fF_obj (S := pI S b k v) (ci := ci) h hc]
    congr 2
    apply List.ext_getElem?
    intro j
    by_cases hj : j = k
    · subst hj
      rw [List.getElem?_set_self (by rw [fl_len]; exact hk), fl_at _ _ hk, fv_I _ _ hg]
      rw [sI_pI, up2_self]
    · rw [List.getElem?_set_ne (Ne.symm hj)]
      by_cases hl : j < (sg ci).length
      · rw [fl_at _ _ hl, fl_at _ _ hl]
        unfold fv
        rw [sR_pI, sI_pI, up2_ne (fun q => hj q.2)]
      · rw [List.getElem?_eq_none (by rw [fl_len]; omega), List.getElem?_eq_none (by rw [fl_len]; omega)]
  · rw [va_up_ne _ _ hb]
    exact (fF_row (S := S) (S' := pI S a k v) rfl rfl (up2_row hb) rfl rfl).symm
theorem set_pR {cA : Nat → ClassId} {S : MM} {a ci k : Nat} {v : Option Nat} (h : sK S a = ci + 1) (hc : ci < 9) (hk : k < (sg ci).length) (hg : (sg ci).getD k false = true) (b : Nat) : va_up (fF cA S) a (.inr (ci, (fl ci S a).set k (va_rf v))) b = fF cA (pR S a k v) b := by
  by_cases hb : b = a
  · subst hb
    rw [va_up_self, fF_obj (S := pR S b k v) (ci := ci) h hc]
    congr 2
    apply List.ext_getElem?
    intro j
    by_cases hj : j = k
    · subst hj
      rw [List.getElem?_set_self (by rw [fl_len]; exact hk), fl_at _ _ hk, fv_R _ _ hg]
      rw [sR_pR, up2_self]
    · rw [List.getElem?_set_ne (Ne.symm hj)]
      by_cases hl : j < (sg ci).length
      · rw [fl_at _ _ hl, fl_at _ _ hl]
        unfold fv
        rw [sR_pR, sI_pR, up2_ne (fun q => hj q.2)]
      · rw [List.getElem?_eq_none (by rw [fl_len]; omega), List.getElem?_eq_none (by rw [fl_len]; omega)]
  · rw [va_up_ne _ _ hb]
    exact (fF_row (S := S) (S' := pR S a k v) rfl rfl rfl (up2_row hb) rfl).symm
theorem set_aI {cA : Nat → ClassId} {S : MM} {a kd k : Nat} {v : Int32} (h : sK S a = kd) (h1 : 10 ≤ kd) (h2 : kd ≤ 11) (b : Nat) : va_up (fF cA S) a (.inl (cA kd, sN S a, .inl (upd (sI S a) k v))) b = fF cA (pI S a k v) b := by
  by_cases hb : b = a
  · subst hb
    rw [va_up_self, fF_int (S := pI S b k v) (kd := kd) h h1 h2]
    show _ = Sum.inl (cA kd, sN S b, Sum.inl (up2 (sI S) b k v b))
    rw [up2_upd]
  · rw [va_up_ne _ _ hb]
    exact (fF_row (S := S) (S' := pI S a k v) rfl rfl (up2_row hb) rfl rfl).symm
theorem set_aR {cA : Nat → ClassId} {S : MM} {a kd k : Nat} {v : Option Nat} (h : sK S a = kd) (h1 : 12 ≤ kd) (h2 : kd ≤ 17) (b : Nat) : va_up (fF cA S) a (.inl (cA kd, sN S a, .inr (.inr (.inr (.inr (va_up (sR S a) k v)))))) b = fF cA (pR S a k v) b := by
  by_cases hb : b = a
  · subst hb
    rw [va_up_self, fF_ref (S := pR S b k v) (kd := kd) h h1 h2]
    show _ = Sum.inl (cA kd, sN S b, Sum.inr (Sum.inr (Sum.inr (Sum.inr (up2 (sR S) b k v b)))))
    rw [up2_va]
  · rw [va_up_ne _ _ hb]
    exact (fF_row (S := S) (S' := pR S a k v) rfl rfl rfl (up2_row hb) rfl).symm
theorem set_aJ {cA : Nat → ClassId} {S : MM} {a k : Nat} {v : Int64} (h : sK S a = 18) (b : Nat) : va_up (fF cA S) a (.inl (cA 18, sN S a, .inr (.inl (vp_updL (sJ S a) k v)))) b = fF cA (pJ S a k v) b := by
  by_cases hb : b = a
  · subst hb
    rw [va_up_self, fF_long (S := pJ S b k v) h]
    show _ = Sum.inl (cA 18, sN S b, Sum.inr (Sum.inl (up2 (sJ S) b k v b)))
    rw [show up2 (sJ S) b k v b = vp_updL (sJ S b) k v from by funext j; simp [up2, vp_updL]]
  · rw [va_up_ne _ _ hb]
    exact (fF_row (S := S) (S' := pJ S a k v) rfl rfl rfl rfl (up2_row hb)).symm
end
section
/-! CODE AS PREDICATES: Kt says of locals, stack, memory and what was made so far that all goes well from here; Sd says that the machine at pc does what the predicate says -/
def TT : List Cond := lw_tbl.filter goodWord
theorem TT_in {w : Cond} (i : Nat) (h : lw_tbl[i]? = some w) (hg : goodWord w = true) : w ∈ TT := List.mem_filter.mpr ⟨List.mem_of_getElem? h, hg⟩
theorem TT_ins {ws : List Cond} (ps : List Nat) (h : ws = ps.filterMap (fun i => lw_tbl[i]?)) (hg : ws.all goodWord = true) : ∀ w ∈ ws, w ∈ TT := fun w hw => by
  have h1 := List.all_eq_true.mp hg w hw
  rw [h] at hw
  obtain ⟨i, -, hi⟩ := List.mem_filterMap.mp hw
  exact TT_in i hi h1
def wsT (y : MethodName) (cc : ByteArray) (n : Nat) (ret : Option FieldType) : List Cond := .code y cc n ret :: TT
theorem TT_good {big ws : List Cond} (hb : ∀ w ∈ TT, w ∈ big) (h : ∀ w ∈ ws, w ∈ TT) : GoodIn big ws := fun w hw => ⟨hb w (h w hw), good_of_word (List.mem_filter.mp (h w hw)).2⟩
abbrev Lv : Type := List (Nat × Value)
abbrev Kt : Type := Lv → List Value → MM → Nat → Nat → Prop
def lvg (lv : Lv) (i : Nat) : Option Value := (lv.find? (fun q => q.1 == i)).map (fun q => q.2)
def lvs (lv : Lv) (i : Nat) (v : Value) : Lv := (i, v) :: lv.filter (fun q => !(q.1 == i) && !(q.1 + 1 == i && q.2.category == 2))
theorem lvg_mem {lv : Lv} {i : Nat} {v : Value} (h : lvg lv i = some v) : (i, v) ∈ lv := by
  unfold lvg at h
  cases hf : lv.find? (fun q => q.1 == i) with
  | none => rw [hf] at h; cases h
  | some q =>
    rw [hf] at h
    have h1 : (q.1 == i) = true := List.find?_some (p := fun q : Nat × Value => q.1 == i) hf
    have h2 := List.mem_of_find?_eq_some hf
    have h3 : q.1 = i := by simpa using h1
    have h4 : q.2 = v := Option.some.inj h
    rw [← h3, ← h4]
    exact h2
theorem lvg_at {ls : Array Slot} {nL : Nat} {lv : Lv} {i : Nat} {v : Value} (hl : lv_has ls nL lv) (h : lvg lv i = some v) : ls[i]? = some (.val v) := hl.2.2 _ (lvg_mem h)
abbrev Ct : Type := Program × Launch × Env × Room × State × MethodId × Array Value × List Frame × Method × Code × va_G × (Nat → ClassId) × Nat
def tyA (cA : Nat → ClassId) : List (ClassId × FieldType) := [(cA 10, .int), (cA 11, .boolean), (cA 12, .object RX0), (cA 13, .object RX1), (cA 14, .object RX2), (cA 15, .object RX3), (cA 16, .object RX4), (cA 17, .object RX5), (cA 18, .long)]
def aB (base : Nat) : Nat → Prop := fun q => base ≤ q
/-- what the tables say beyond the good words -/
def gN (U : State) : Prop := (∀ q ∈ [((RX1, 28, yX5_init) : String × Nat × MethodName), (RX5, 11, yX6_init), (RX3, 23, yX4_init), (RX4, 9, yX6_init), (RX3, 57, yX2_init)], va_Nw (.methodLinkNest q.1 q.2.1 q.2.2 RX7) U) ∧ (∀ C ∈ [RX0, RX1, RX2, RX3, RX4, RX5], va_AO C U)
def gU (D : va_G) (cA : Nat → ClassId) (base : Nat) (U : State) : Prop := va_K D vwCl (tyA cA) U ∧ base ≤ U.heap.size ∧ gN U
def wU (D : va_G) (cA : Nat → ClassId) (base : Nat) (S : MM) (U : State) : Prop := wd D cA base S U.heap ∧ gU D cA base U
theorem gN_warm {s U : State} (hW : s.WarmedH U.vm) (h : gN s) : gN U := ⟨fun q hq => va_Nw.warmM hW (h.1 q hq), fun C hC => va_AO.moved hW.alike (h.2 C hC)⟩
def Cx (T : Ct) (cc : ByteArray) (nL : Nat) (own : String) (MC MS : Nat) : Prop :=
  match T with
  | (p, _, _, R, s, m, args, _, meth, c, D, cA, base) => p.tables.exec = Jvm.exec ∧ c.code = cc ∧ c.maxLocals = nL ∧ s.vm.findClass own = some m.cls ∧ (∀ w ∈ TT, w.before args s = true) ∧ gU D cA base s ∧ meth.locks = false ∧ R.cells = MC ∧ R.slots = MS
def Sd (T : Ct) (nL : Nat) (Qf : State → Prop) (MC MS pc : Nat) (k : Kt) : Prop :=
  match T with
  | (p, l, e, R, s, m, args, below, meth, c, D, cA, base) => ∀ (H : Heap) (locs : List Loc) (ls : Array Slot) (lv : Lv) (st : List Value) (S : MM) (cz zz : Nat), k lv st S cz zz → wd D cA base S H → va_S (aB base) s.heap H locs → lv_has ls nL lv → cz ≤ MC → zz ≤ MS → W p l e R s m args below meth c H locs cz zz Qf (F0 m pc ls st)
def cI (v : Int32) (k : Kt) : Kt := fun lv st S c z => k lv (.int v :: st) S c z
def ldI (i : Nat) (k : Kt) : Kt := fun lv st S c z => match lvg lv i with
  | some (.int x) => k lv (.int x :: st) S c z
  | _ => False
def ldA (i : Nat) (k : Kt) : Kt := fun lv st S c z => match lvg lv i with
  | some (.ref x) => k lv (.ref x :: st) S c z
  | some .null => k lv (.null :: st) S c z
  | _ => False
def stI (i : Nat) (k : Kt) : Kt := fun lv st S c z => match st with
  | .int x :: r => k (lvs lv i (.int x)) r S c z
  | _ => False
def stA (i : Nat) (k : Kt) : Kt := fun lv st S c z => match st with
  | .ref x :: r => k (lvs lv i (.ref x)) r S c z
  | .null :: r => k (lvs lv i .null) r S c z
  | _ => False
def inc (i : Nat) (n : Int32) (k : Kt) : Kt := fun lv st S c z => match lvg lv i with
  | some (.int x) => k (lvs lv i (.int (x + n))) st S c z
  | _ => False
def bop (f : Int32 → Int32 → Int32) (k : Kt) : Kt := fun lv st S c z => match st with
  | .int y :: .int x :: r => k lv (.int (f x y) :: r) S c z
  | _ => False
def bod (f : Int32 → Int32 → Int32) (k : Kt) : Kt := fun lv st S c z => match st with
  | .int y :: .int x :: r => ¬ y = 0 ∧ k lv (.int (f x y) :: r) S c z
  | _ => False
def c1 (v : Value) : Bool := v.category == 1
def du (k : Kt) : Kt := fun lv st S c z => match st with
  | v :: r => match c1 v with
    | true => k lv (v :: v :: r) S c z
    | false => False
  | _ => False
def dux1 (k : Kt) : Kt := fun lv st S c z => match st with
  | v :: w :: r => match c1 v && c1 w with
    | true => k lv (v :: w :: v :: r) S c z
    | false => False
  | _ => False
def du2 (k : Kt) : Kt := fun lv st S c z => match st with
  | v :: w :: r => match c1 v && c1 w with
    | true => k lv (v :: w :: v :: w :: r) S c z
    | false => False
  | _ => False
def nul (k : Kt) : Kt := fun lv st S c z => k lv (.null :: st) S c z
def ifz (cn : Int32 → Prop) (t k : Kt) : Kt := fun lv st S c z => match st with
  | .int x :: r => (cn x → t lv r S c z) ∧ (¬ cn x → k lv r S c z)
  | _ => False
def ifc (cn : Int32 → Int32 → Prop) (t k : Kt) : Kt := fun lv st S c z => match st with
  | .int y :: .int x :: r => (cn x y → t lv r S c z) ∧ (¬ cn x y → k lv r S c z)
  | _ => False
def ifn (t k : Kt) : Kt := fun lv st S c z => match st with
  | .null :: r => t lv r S c z
  | .ref _ :: r => k lv r S c z
  | _ => False
def swt (lo hi : Int) (ts : Nat → Kt) (t : Kt) : Kt := fun lv st S c z => match st with
  | .int x :: r => (x.toInt < lo ∨ hi < x.toInt → t lv r S c z) ∧ (∀ j : Nat, x.toInt = lo + j → lo + (j : Int) ≤ hi → ts j lv r S c z)
  | _ => False
def gI (ci k : Nat) (kt : Kt) : Kt := fun lv st S c z => match st with
  | .ref a :: r => sK S a = ci + 1 ∧ kt lv (.int (sI S a k) :: r) S c z
  | _ => False
def gR (ci k : Nat) (kt : Kt) : Kt := fun lv st S c z => match st with
  | .ref a :: r => sK S a = ci + 1 ∧ ∀ o, sR S a k = o → kt lv (va_rf o :: r) S c z
  | _ => False
def tI (ci k : Nat) (kt : Kt) : Kt := fun lv st S c z => match st with
  | .int v :: .ref a :: r => sK S a = ci + 1 ∧ kt lv r (pI S a k v) c z
  | _ => False
def tZ (ci k : Nat) (kt : Kt) : Kt := fun lv st S c z => match st with
  | .int v :: .ref a :: r => sK S a = ci + 1 ∧ (v = 0 ∨ v = 1) ∧ kt lv r (pI S a k v) c z
  | _ => False
def tF (ci k : Nat) (kt : Kt) : Kt := fun lv st S c z => match st with
  | .ref v :: .ref a :: r => sK S a = ci + 1 ∧ kt lv r (pR S a k (some v)) c z
  | _ => False
def aI (kd : Nat) (kt : Kt) : Kt := fun lv st S c z => match st with
  | .int i :: .ref a :: r => sK S a = kd ∧ vp_in i (sN S a) ∧ kt lv (.int (sI S a i.toNatClampNeg) :: r) S c z
  | _ => False
def aR (kd : Nat) (kt : Kt) : Kt := fun lv st S c z => match st with
  | .int i :: .ref a :: r => sK S a = kd ∧ vp_in i (sN S a) ∧ ∀ o, sR S a i.toNatClampNeg = o → kt lv (va_rf o :: r) S c z
  | _ => False
def aJ (kt : Kt) : Kt := fun lv st S c z => match st with
  | .int i :: .ref a :: r => sK S a = 18 ∧ vp_in i (sN S a) ∧ kt lv (.long (sJ S a i.toNatClampNeg) :: r) S c z
  | _ => False
def sAI (kt : Kt) : Kt := fun lv st S c z => match st with
  | .int v :: .int i :: .ref a :: r => sK S a = 10 ∧ vp_in i (sN S a) ∧ kt lv r (pI S a i.toNatClampNeg v) c z
  | _ => False
def sAZ (kt : Kt) : Kt := fun lv st S c z => match st with
  | .int v :: .int i :: .ref a :: r => sK S a = 11 ∧ vp_in i (sN S a) ∧ (v = 0 ∨ v = 1) ∧ kt lv r (pI S a i.toNatClampNeg v) c z
  | _ => False
def sAR (ci : Nat) (kt : Kt) : Kt := fun lv st S c z => match st with
  | .ref v :: .int i :: .ref a :: r => sK S a = ci + 12 ∧ vp_in i (sN S a) ∧ sK S v = ci + 1 ∧ kt lv r (pR S a i.toNatClampNeg (some v)) c z
  | .null :: .int i :: .ref a :: r => sK S a = ci + 12 ∧ vp_in i (sN S a) ∧ kt lv r (pR S a i.toNatClampNeg none) c z
  | _ => False
def sAJ (kt : Kt) : Kt := fun lv st S c z => match st with
  | .long v :: .int i :: .ref a :: r => sK S a = 18 ∧ vp_in i (sN S a) ∧ kt lv r (pJ S a i.toNatClampNeg v) c z
  | _ => False
def nO (ci : Nat) (MC MS : Nat) (kt : Kt) : Kt := fun lv st S c z => (c + 1 ≤ MC ∧ z + (sg ci).length ≤ MS) ∧ ∀ q, sK S q = 0 → kt lv (.ref q :: st) (nw S q (ci + 1) 0) (c + 1) (z + (sg ci).length)
def nA (kd : Nat) (MC MS : Nat) (kt : Kt) : Kt := fun lv st S c z => match st with
  | .int n :: r => ¬ n < 0 ∧ (n.toNatClampNeg ≤ 67108864 ∧ c + 1 ≤ MC ∧ z + n.toNatClampNeg ≤ MS) ∧ ∀ q, sK S q = 0 → kt lv (.ref q :: r) (nw S q kd n.toNatClampNeg) (c + 1) (z + n.toNatClampNeg)
  | _ => False
def i2 (kt : Kt) : Kt := fun lv st S c z => match st with
  | .int x :: r => kt lv (.long x.toInt64 :: r) S c z
  | _ => False
def lcm (kt : Kt) : Kt := fun lv st S c z => match st with
  | .long y :: .long x :: r => kt lv (.int (lg_cmp x y) :: r) S c z
  | _ => False
abbrev Mw : Type := List Value → MM → (Option Value → MM → Prop) → Prop
def cat8 (r : List Value) : Bool := Nat.ble (r.map fun v => v.category).sum 8
def okS (n : Nat) (st : List Value) : Bool := cat8 (st.drop n) && Nat.beq (st.take n).length n
theorem okS_1 {n : Nat} {st : List Value} (h : okS n st = true) : cat8 (st.drop n) = true := by
  unfold okS at h
  exact (Bool.and_eq_true_iff.mp h).1
theorem okS_2 {n : Nat} {st : List Value} (h : okS n st = true) : (st.take n).length = n := by
  unfold okS at h
  exact Nat.eq_of_beq_eq_true (Bool.and_eq_true_iff.mp h).2
/-- a call: static, n arguments; of an object of the kind ci, n arguments beside it; of a constructor -/
def cS (n : Nat) (w : Mw) (mc ms MC MS : Nat) (kt : Kt) : Kt := fun lv st S c z => match okS n st with
  | true => (c + mc ≤ MC ∧ z + ms ≤ MS) ∧ w ((st.take n).reverse) S (fun v S' => kt lv (v.toList ++ st.drop n) S' (c + mc) (z + ms))
  | false => False
def cV (n ci : Nat) (w : Mw) (mc ms MC MS : Nat) (kt : Kt) : Kt := fun lv st S c z => match okS (n + 1) st, (st.take (n + 1)).reverse with
  | true, .ref b :: As => sK S b = ci + 1 ∧ (c + mc ≤ MC ∧ z + ms ≤ MS) ∧ w (.ref b :: As) S (fun v S' => kt lv (v.toList ++ st.drop (n + 1)) S' (c + mc) (z + ms))
  | _, _ => False
def cC (n : Nat) (w : Mw) (mc ms MC MS : Nat) (kt : Kt) : Kt := fun lv st S c z => match okS (n + 1) st, (st.take (n + 1)).reverse with
  | true, .ref b :: As => (c + mc ≤ MC ∧ z + ms ≤ MS) ∧ w (.ref b :: As) S (fun v S' => kt lv (v.toList ++ st.drop (n + 1)) S' (c + mc) (z + ms))
  | _, _ => False
def oI (kt : Kt) : Kt := fun lv st S c z => match st with
  | .ref _ :: r => match cat8 r with
    | true => kt lv r S c z
    | false => False
  | _ => False
def mMn (kt : Kt) : Kt := fun lv st S c z => match st with
  | .int y :: .int x :: r => match cat8 r with
    | true => kt lv (.int (if y < x then y else x) :: r) S c z
    | false => False
  | _ => False
def rI (Q : Option Value → MM → Prop) : Kt := fun _ st S _ _ => match st with
  | [.int v] => Q (some (.int v)) S
  | _ => False
def rZ (Q : Option Value → MM → Prop) : Kt := fun _ st S _ _ => match st with
  | [.int v] => (v = 0 ∨ v = 1) ∧ Q (some (.int v)) S
  | _ => False
def rA (Q : Option Value → MM → Prop) : Kt := fun _ st S _ _ => match st with
  | [.ref v] => Q (some (.ref v)) S
  | [.null] => Q (some .null) S
  | _ => False
def rV (Q : Option Value → MM → Prop) : Kt := fun _ st S _ _ => match st with
  | [] => Q none S
  | _ => False
theorem x_ic {T : Ct} {cc : ByteArray} {nL : Nat} {own : String} {MC MS pc : Nat} {Qf : State → Prop} (C : Cx T cc nL own MC MS) {n : Int} {v : Int32} (d : decode cc pc = .ok (.iconst n, 1)) (hv : Int32.ofInt n = v) {k : Kt} (h : Sd T nL Qf MC MS (pc + 1) k) : Sd T nL Qf MC MS pc (cI v k) := by
  obtain ⟨p, l, e, R, s, m, args, below, meth, c, D, cA, base⟩ := T
  intro H locs ls lv st S cz zz hk hw hS hl hc hz
  obtain ⟨hx, hb, hml, hown, hts, hg, hlk, hRc, hRs⟩ := C
  exact lv_iconst hx hb d hv (h _ _ _ _ _ _ _ _ hk hw hS hl hc hz)
theorem x_bp {T : Ct} {cc : ByteArray} {nL : Nat} {own : String} {MC MS pc : Nat} {Qf : State → Prop} (C : Cx T cc nL own MC MS) {n : Int} {v : Int32} (d : decode cc pc = .ok (.bipush n, 2)) (hv : (Int8.ofInt n).toInt32 = v) {k : Kt} (h : Sd T nL Qf MC MS (pc + 2) k) : Sd T nL Qf MC MS pc (cI v k) := by
  obtain ⟨p, l, e, R, s, m, args, below, meth, c, D, cA, base⟩ := T
  intro H locs ls lv st S cz zz hk hw hS hl hc hz
  obtain ⟨hx, hb, hml, hown, hts, hg, hlk, hRc, hRs⟩ := C
  exact lv_bipush hx hb d hv (h _ _ _ _ _ _ _ _ hk hw hS hl hc hz)
theorem x_sp {T : Ct} {cc : ByteArray} {nL : Nat} {own : String} {MC MS pc : Nat} {Qf : State → Prop} (C : Cx T cc nL own MC MS) {n : Int} {v : Int32} (d : decode cc pc = .ok (.sipush n, 3)) (hv : (Int16.ofInt n).toInt32 = v) {k : Kt} (h : Sd T nL Qf MC MS (pc + 3) k) : Sd T nL Qf MC MS pc (cI v k) := by
  obtain ⟨p, l, e, R, s, m, args, below, meth, c, D, cA, base⟩ := T
  intro H locs ls lv st S cz zz hk hw hS hl hc hz
  obtain ⟨hx, hb, hml, hown, hts, hg, hlk, hRc, hRs⟩ := C
  exact lv_sipush hx hb d hv (h _ _ _ _ _ _ _ _ hk hw hS hl hc hz)
theorem x_lc {T : Ct} {cc : ByteArray} {nL : Nat} {own : String} {MC MS pc : Nat} {Qf : State → Prop} (C : Cx T cc nL own MC MS) {index : Nat} {v : Int32} (hm : Cond.constant own index v ∈ TT) (d : decode cc pc = .ok (.ldc index, 2)) {k : Kt} (h : Sd T nL Qf MC MS (pc + 2) k) : Sd T nL Qf MC MS pc (cI v k) := by
  obtain ⟨p, l, e, R, s, m, args, below, meth, c, D, cA, base⟩ := T
  intro H locs ls lv st S cz zz hk hw hS hl hc hz
  obtain ⟨hx, hb, hml, hown, hts, hg, hlk, hRc, hRs⟩ := C
  exact lv_ldc hx hb hown (hts _ hm) d (h _ _ _ _ _ _ _ _ hk hw hS hl hc hz)
theorem x_il_n {T : Ct} {cc : ByteArray} {nL : Nat} {own : String} {MC MS pc : Nat} {Qf : State → Prop} (C : Cx T cc nL own MC MS) {j : Fin 4} {i : Nat} (d : decode cc pc = .ok (.iload_n j, 1)) (hi : (j : Nat) = i) {k : Kt} (h : Sd T nL Qf MC MS (pc + 1) k) : Sd T nL Qf MC MS pc (ldI i k) := by
  obtain ⟨p, l, e, R, s, m, args, below, meth, c, D, cA, base⟩ := T
  intro H locs ls lv st S cz zz hk hw hS hl hc hz
  obtain ⟨hx, hb, hml, hown, hts, hg, hlk, hRc, hRs⟩ := C
  unfold ldI at hk
  split at hk
  · next x hv => exact lv_iload_n hx hb d hi (lvg_at hl hv) (h _ _ _ _ _ _ _ _ hk hw hS hl hc hz)
  · exact hk.elim
theorem x_il {T : Ct} {cc : ByteArray} {nL : Nat} {own : String} {MC MS pc : Nat} {Qf : State → Prop} (C : Cx T cc nL own MC MS) {i : Nat} (d : decode cc pc = .ok (.iload i, 2)) {k : Kt} (h : Sd T nL Qf MC MS (pc + 2) k) : Sd T nL Qf MC MS pc (ldI i k) := by
  obtain ⟨p, l, e, R, s, m, args, below, meth, c, D, cA, base⟩ := T
  intro H locs ls lv st S cz zz hk hw hS hl hc hz
  obtain ⟨hx, hb, hml, hown, hts, hg, hlk, hRc, hRs⟩ := C
  unfold ldI at hk
  split at hk
  · next x hv => exact lv_iload hx hb d (lvg_at hl hv) (h _ _ _ _ _ _ _ _ hk hw hS hl hc hz)
  · exact hk.elim
theorem x_al_n {T : Ct} {cc : ByteArray} {nL : Nat} {own : String} {MC MS pc : Nat} {Qf : State → Prop} (C : Cx T cc nL own MC MS) {j : Fin 4} {i : Nat} (d : decode cc pc = .ok (.aload_n j, 1)) (hi : (j : Nat) = i) {k : Kt} (h : Sd T nL Qf MC MS (pc + 1) k) : Sd T nL Qf MC MS pc (ldA i k) := by
  obtain ⟨p, l, e, R, s, m, args, below, meth, c, D, cA, base⟩ := T
  intro H locs ls lv st S cz zz hk hw hS hl hc hz
  obtain ⟨hx, hb, hml, hown, hts, hg, hlk, hRc, hRs⟩ := C
  unfold ldA at hk
  split at hk
  · next x hv => exact lv_aload_n hx hb d hi (lvg_at hl hv) (h _ _ _ _ _ _ _ _ hk hw hS hl hc hz)
  · next hv => exact lv_aload_nN hx hb d hi (lvg_at hl hv) (h _ _ _ _ _ _ _ _ hk hw hS hl hc hz)
  · exact hk.elim
theorem x_al {T : Ct} {cc : ByteArray} {nL : Nat} {own : String} {MC MS pc : Nat} {Qf : State → Prop} (C : Cx T cc nL own MC MS) {i : Nat} (d : decode cc pc = .ok (.aload i, 2)) {k : Kt} (h : Sd T nL Qf MC MS (pc + 2) k) : Sd T nL Qf MC MS pc (ldA i k) := by
  obtain ⟨p, l, e, R, s, m, args, below, meth, c, D, cA, base⟩ := T
  intro H locs ls lv st S cz zz hk hw hS hl hc hz
  obtain ⟨hx, hb, hml, hown, hts, hg, hlk, hRc, hRs⟩ := C
  unfold ldA at hk
  split at hk
  · next x hv => exact lv_aload hx hb d (lvg_at hl hv) (h _ _ _ _ _ _ _ _ hk hw hS hl hc hz)
  · next hv => exact lv_aloadN hx hb d (lvg_at hl hv) (h _ _ _ _ _ _ _ _ hk hw hS hl hc hz)
  · exact hk.elim
theorem x_is_n {T : Ct} {cc : ByteArray} {nL : Nat} {own : String} {MC MS pc : Nat} {Qf : State → Prop} (C : Cx T cc nL own MC MS) {j : Fin 4} {i : Nat} (d : decode cc pc = .ok (.istore_n j, 1)) (hi : (j : Nat) = i) (hn : i < nL) {k : Kt} (h : Sd T nL Qf MC MS (pc + 1) k) : Sd T nL Qf MC MS pc (stI i k) := by
  obtain ⟨p, l, e, R, s, m, args, below, meth, c, D, cA, base⟩ := T
  intro H locs ls lv st S cz zz hk hw hS hl hc hz
  obtain ⟨hx, hb, hml, hown, hts, hg, hlk, hRc, hRs⟩ := C
  unfold stI at hk
  split at hk
  · exact lv_istore_n hx hb d hi hl hn rfl (fun ls hl => h _ _ _ _ _ _ _ _ hk hw hS hl hc hz)
  · exact hk.elim
theorem x_is {T : Ct} {cc : ByteArray} {nL : Nat} {own : String} {MC MS pc : Nat} {Qf : State → Prop} (C : Cx T cc nL own MC MS) {i : Nat} (d : decode cc pc = .ok (.istore i, 2)) (hn : i < nL) {k : Kt} (h : Sd T nL Qf MC MS (pc + 2) k) : Sd T nL Qf MC MS pc (stI i k) := by
  obtain ⟨p, l, e, R, s, m, args, below, meth, c, D, cA, base⟩ := T
  intro H locs ls lv st S cz zz hk hw hS hl hc hz
  obtain ⟨hx, hb, hml, hown, hts, hg, hlk, hRc, hRs⟩ := C
  unfold stI at hk
  split at hk
  · exact lv_istore hx hb d hl hn rfl (fun ls hl => h _ _ _ _ _ _ _ _ hk hw hS hl hc hz)
  · exact hk.elim
theorem x_as_n {T : Ct} {cc : ByteArray} {nL : Nat} {own : String} {MC MS pc : Nat} {Qf : State → Prop} (C : Cx T cc nL own MC MS) {j : Fin 4} {i : Nat} (d : decode cc pc = .ok (.astore_n j, 1)) (hi : (j : Nat) = i) (hn : i < nL) {k : Kt} (h : Sd T nL Qf MC MS (pc + 1) k) : Sd T nL Qf MC MS pc (stA i k) := by
  obtain ⟨p, l, e, R, s, m, args, below, meth, c, D, cA, base⟩ := T
  intro H locs ls lv st S cz zz hk hw hS hl hc hz
  obtain ⟨hx, hb, hml, hown, hts, hg, hlk, hRc, hRs⟩ := C
  unfold stA at hk
  split at hk
  · exact lv_astore_n hx hb d hi hl hn rfl (fun ls hl => h _ _ _ _ _ _ _ _ hk hw hS hl hc hz)
  · exact lv_astore_nN hx hb d hi hl hn rfl (fun ls hl => h _ _ _ _ _ _ _ _ hk hw hS hl hc hz)
  · exact hk.elim
theorem x_as {T : Ct} {cc : ByteArray} {nL : Nat} {own : String} {MC MS pc : Nat} {Qf : State → Prop} (C : Cx T cc nL own MC MS) {i : Nat} (d : decode cc pc = .ok (.astore i, 2)) (hn : i < nL) {k : Kt} (h : Sd T nL Qf MC MS (pc + 2) k) : Sd T nL Qf MC MS pc (stA i k) := by
  obtain ⟨p, l, e, R, s, m, args, below, meth, c, D, cA, base⟩ := T
  intro H locs ls lv st S cz zz hk hw hS hl hc hz
  obtain ⟨hx, hb, hml, hown, hts, hg, hlk, hRc, hRs⟩ := C
  unfold stA at hk
  split at hk
  · exact lv_astore hx hb d hl hn rfl (fun ls hl => h _ _ _ _ _ _ _ _ hk hw hS hl hc hz)
  · exact lv_astoreN hx hb d hl hn rfl (fun ls hl => h _ _ _ _ _ _ _ _ hk hw hS hl hc hz)
  · exact hk.elim
theorem x_inc {T : Ct} {cc : ByteArray} {nL : Nat} {own : String} {MC MS pc : Nat} {Qf : State → Prop} (C : Cx T cc nL own MC MS) {i : Nat} {n : Int} {v : Int32} (d : decode cc pc = .ok (.iinc i n, 3)) (hv : Int32.ofInt n = v) (hn : i < nL) {k : Kt} (h : Sd T nL Qf MC MS (pc + 3) k) : Sd T nL Qf MC MS pc (inc i v k) := by
  obtain ⟨p, l, e, R, s, m, args, below, meth, c, D, cA, base⟩ := T
  intro H locs ls lv st S cz zz hk hw hS hl hc hz
  obtain ⟨hx, hb, hml, hown, hts, hg, hlk, hRc, hRs⟩ := C
  unfold inc at hk
  split at hk
  · next x hx1 =>
    obtain ⟨j, hj⟩ := List.getElem?_of_mem (lvg_mem hx1)
    exact lv_iinc hx hb d hl hj (by rw [hv]) hn rfl (fun ls hl => h _ _ _ _ _ _ _ _ hk hw hS hl hc hz)
  · exact hk.elim
theorem x_iadd {T : Ct} {cc : ByteArray} {nL : Nat} {own : String} {MC MS pc : Nat} {Qf : State → Prop} (C : Cx T cc nL own MC MS) (d : decode cc pc = .ok (.iadd, 1)) {k : Kt} (h : Sd T nL Qf MC MS (pc + 1) k) : Sd T nL Qf MC MS pc (bop (fun x y => x + y) k) := by
  obtain ⟨p, l, e, R, s, m, args, below, meth, c, D, cA, base⟩ := T
  intro H locs ls lv st S cz zz hk hw hS hl hc hz
  obtain ⟨hx, hb, hml, hown, hts, hg, hlk, hRc, hRs⟩ := C
  unfold bop at hk
  split at hk
  · exact lv_iadd hx hb d (h _ _ _ _ _ _ _ _ hk hw hS hl hc hz)
  · exact hk.elim
theorem x_isub {T : Ct} {cc : ByteArray} {nL : Nat} {own : String} {MC MS pc : Nat} {Qf : State → Prop} (C : Cx T cc nL own MC MS) (d : decode cc pc = .ok (.isub, 1)) {k : Kt} (h : Sd T nL Qf MC MS (pc + 1) k) : Sd T nL Qf MC MS pc (bop (fun x y => x - y) k) := by
  obtain ⟨p, l, e, R, s, m, args, below, meth, c, D, cA, base⟩ := T
  intro H locs ls lv st S cz zz hk hw hS hl hc hz
  obtain ⟨hx, hb, hml, hown, hts, hg, hlk, hRc, hRs⟩ := C
  unfold bop at hk
  split at hk
  · exact lv_isub hx hb d (h _ _ _ _ _ _ _ _ hk hw hS hl hc hz)
  · exact hk.elim
theorem x_imul {T : Ct} {cc : ByteArray} {nL : Nat} {own : String} {MC MS pc : Nat} {Qf : State → Prop} (C : Cx T cc nL own MC MS) (d : decode cc pc = .ok (.imul, 1)) {k : Kt} (h : Sd T nL Qf MC MS (pc + 1) k) : Sd T nL Qf MC MS pc (bop (fun x y => x * y) k) := by
  obtain ⟨p, l, e, R, s, m, args, below, meth, c, D, cA, base⟩ := T
  intro H locs ls lv st S cz zz hk hw hS hl hc hz
  obtain ⟨hx, hb, hml, hown, hts, hg, hlk, hRc, hRs⟩ := C
  unfold bop at hk
  split at hk
  · exact lv_imul hx hb d (h _ _ _ _ _ _ _ _ hk hw hS hl hc hz)
  · exact hk.elim
theorem x_iand {T : Ct} {cc : ByteArray} {nL : Nat} {own : String} {MC MS pc : Nat} {Qf : State → Prop} (C : Cx T cc nL own MC MS) (d : decode cc pc = .ok (.iand, 1)) {k : Kt} (h : Sd T nL Qf MC MS (pc + 1) k) : Sd T nL Qf MC MS pc (bop (fun x y => x &&& y) k) := by
  obtain ⟨p, l, e, R, s, m, args, below, meth, c, D, cA, base⟩ := T
  intro H locs ls lv st S cz zz hk hw hS hl hc hz
  obtain ⟨hx, hb, hml, hown, hts, hg, hlk, hRc, hRs⟩ := C
  unfold bop at hk
  split at hk
  · exact lv_iand hx hb d (h _ _ _ _ _ _ _ _ hk hw hS hl hc hz)
  · exact hk.elim
theorem x_ior {T : Ct} {cc : ByteArray} {nL : Nat} {own : String} {MC MS pc : Nat} {Qf : State → Prop} (C : Cx T cc nL own MC MS) (d : decode cc pc = .ok (.ior, 1)) {k : Kt} (h : Sd T nL Qf MC MS (pc + 1) k) : Sd T nL Qf MC MS pc (bop (fun x y => x ||| y) k) := by
  obtain ⟨p, l, e, R, s, m, args, below, meth, c, D, cA, base⟩ := T
  intro H locs ls lv st S cz zz hk hw hS hl hc hz
  obtain ⟨hx, hb, hml, hown, hts, hg, hlk, hRc, hRs⟩ := C
  unfold bop at hk
  split at hk
  · exact lv_ior hx hb d (h _ _ _ _ _ _ _ _ hk hw hS hl hc hz)
  · exact hk.elim
theorem x_ixor {T : Ct} {cc : ByteArray} {nL : Nat} {own : String} {MC MS pc : Nat} {Qf : State → Prop} (C : Cx T cc nL own MC MS) (d : decode cc pc = .ok (.ixor, 1)) {k : Kt} (h : Sd T nL Qf MC MS (pc + 1) k) : Sd T nL Qf MC MS pc (bop (fun x y => x ^^^ y) k) := by
  obtain ⟨p, l, e, R, s, m, args, below, meth, c, D, cA, base⟩ := T
  intro H locs ls lv st S cz zz hk hw hS hl hc hz
  obtain ⟨hx, hb, hml, hown, hts, hg, hlk, hRc, hRs⟩ := C
  unfold bop at hk
  split at hk
  · exact lv_ixor hx hb d (h _ _ _ _ _ _ _ _ hk hw hS hl hc hz)
  · exact hk.elim
theorem x_ishr {T : Ct} {cc : ByteArray} {nL : Nat} {own : String} {MC MS pc : Nat} {Qf : State → Prop} (C : Cx T cc nL own MC MS) (d : decode cc pc = .ok (.ishr, 1)) {k : Kt} (h : Sd T nL Qf MC MS (pc + 1) k) : Sd T nL Qf MC MS pc (bop (fun x y => x >>> (y &&& 31)) k) := by
  obtain ⟨p, l, e, R, s, m, args, below, meth, c, D, cA, base⟩ := T
  intro H locs ls lv st S cz zz hk hw hS hl hc hz
  obtain ⟨hx, hb, hml, hown, hts, hg, hlk, hRc, hRs⟩ := C
  unfold bop at hk
  split at hk
  · exact lv_ishr hx hb d (h _ _ _ _ _ _ _ _ hk hw hS hl hc hz)
  · exact hk.elim
theorem x_iushr {T : Ct} {cc : ByteArray} {nL : Nat} {own : String} {MC MS pc : Nat} {Qf : State → Prop} (C : Cx T cc nL own MC MS) (d : decode cc pc = .ok (.iushr, 1)) {k : Kt} (h : Sd T nL Qf MC MS (pc + 1) k) : Sd T nL Qf MC MS pc (bop (fun x y => (x.toUInt32 >>> (y.toUInt32 &&& Int32.toUInt32 31)).toInt32) k) := by
  obtain ⟨p, l, e, R, s, m, args, below, meth, c, D, cA, base⟩ := T
  intro H locs ls lv st S cz zz hk hw hS hl hc hz
  obtain ⟨hx, hb, hml, hown, hts, hg, hlk, hRc, hRs⟩ := C
  unfold bop at hk
  split at hk
  · exact lv_iushr hx hb d rfl (h _ _ _ _ _ _ _ _ hk hw hS hl hc hz)
  · exact hk.elim
theorem x_idiv {T : Ct} {cc : ByteArray} {nL : Nat} {own : String} {MC MS pc : Nat} {Qf : State → Prop} (C : Cx T cc nL own MC MS) (d : decode cc pc = .ok (.idiv, 1)) {k : Kt} (h : Sd T nL Qf MC MS (pc + 1) k) : Sd T nL Qf MC MS pc (bod (fun x y => x / y) k) := by
  obtain ⟨p, l, e, R, s, m, args, below, meth, c, D, cA, base⟩ := T
  intro H locs ls lv st S cz zz hk hw hS hl hc hz
  obtain ⟨hx, hb, hml, hown, hts, hg, hlk, hRc, hRs⟩ := C
  unfold bod at hk
  split at hk
  · obtain ⟨hk0, hk⟩ := hk
    exact lv_idiv hx hb d hk0 (h _ _ _ _ _ _ _ _ hk hw hS hl hc hz)
  · exact hk.elim
theorem x_irem {T : Ct} {cc : ByteArray} {nL : Nat} {own : String} {MC MS pc : Nat} {Qf : State → Prop} (C : Cx T cc nL own MC MS) (d : decode cc pc = .ok (.irem, 1)) {k : Kt} (h : Sd T nL Qf MC MS (pc + 1) k) : Sd T nL Qf MC MS pc (bod (fun x y => x - x / y * y) k) := by
  obtain ⟨p, l, e, R, s, m, args, below, meth, c, D, cA, base⟩ := T
  intro H locs ls lv st S cz zz hk hw hS hl hc hz
  obtain ⟨hx, hb, hml, hown, hts, hg, hlk, hRc, hRs⟩ := C
  unfold bod at hk
  split at hk
  · obtain ⟨hk0, hk⟩ := hk
    exact lv_irem hx hb d hk0 (h _ _ _ _ _ _ _ _ hk hw hS hl hc hz)
  · exact hk.elim
theorem x_dup {T : Ct} {cc : ByteArray} {nL : Nat} {own : String} {MC MS pc : Nat} {Qf : State → Prop} (C : Cx T cc nL own MC MS) (d : decode cc pc = .ok (.dup, 1)) {k : Kt} (h : Sd T nL Qf MC MS (pc + 1) k) : Sd T nL Qf MC MS pc (du k) := by
  obtain ⟨p, l, e, R, s, m, args, below, meth, c, D, cA, base⟩ := T
  intro H locs ls lv st S cz zz hk hw hS hl hc hz
  obtain ⟨hx, hb, hml, hown, hts, hg, hlk, hRc, hRs⟩ := C
  unfold du at hk
  split at hk
  · split at hk
    · next hv => exact lv_dup hx hb d (by simpa [c1] using hv) (h _ _ _ _ _ _ _ _ hk hw hS hl hc hz)
    · exact hk.elim
  · exact hk.elim
theorem x_dupx1 {T : Ct} {cc : ByteArray} {nL : Nat} {own : String} {MC MS pc : Nat} {Qf : State → Prop} (C : Cx T cc nL own MC MS) (d : decode cc pc = .ok (.dup_x1, 1)) {k : Kt} (h : Sd T nL Qf MC MS (pc + 1) k) : Sd T nL Qf MC MS pc (dux1 k) := by
  obtain ⟨p, l, e, R, s, m, args, below, meth, c, D, cA, base⟩ := T
  intro H locs ls lv st S cz zz hk hw hS hl hc hz
  obtain ⟨hx, hb, hml, hown, hts, hg, hlk, hRc, hRs⟩ := C
  unfold dux1 at hk
  split at hk
  · split at hk
    · next hv =>
      simp [c1] at hv
      exact lv_dup_x1 hx hb d hv.1 hv.2 (h _ _ _ _ _ _ _ _ hk hw hS hl hc hz)
    · exact hk.elim
  · exact hk.elim
theorem x_dup2 {T : Ct} {cc : ByteArray} {nL : Nat} {own : String} {MC MS pc : Nat} {Qf : State → Prop} (C : Cx T cc nL own MC MS) (d : decode cc pc = .ok (.dup2, 1)) {k : Kt} (h : Sd T nL Qf MC MS (pc + 1) k) : Sd T nL Qf MC MS pc (du2 k) := by
  obtain ⟨p, l, e, R, s, m, args, below, meth, c, D, cA, base⟩ := T
  intro H locs ls lv st S cz zz hk hw hS hl hc hz
  obtain ⟨hx, hb, hml, hown, hts, hg, hlk, hRc, hRs⟩ := C
  unfold du2 at hk
  split at hk
  · split at hk
    · next hv =>
      simp [c1] at hv
      exact lv_dup2_11 hx hb d hv.1 hv.2 (h _ _ _ _ _ _ _ _ hk hw hS hl hc hz)
    · exact hk.elim
  · exact hk.elim
theorem x_null {T : Ct} {cc : ByteArray} {nL : Nat} {own : String} {MC MS pc : Nat} {Qf : State → Prop} (C : Cx T cc nL own MC MS) (d : decode cc pc = .ok (.aconst_null, 1)) {k : Kt} (h : Sd T nL Qf MC MS (pc + 1) k) : Sd T nL Qf MC MS pc (nul k) := by
  obtain ⟨p, l, e, R, s, m, args, below, meth, c, D, cA, base⟩ := T
  intro H locs ls lv st S cz zz hk hw hS hl hc hz
  obtain ⟨hx, hb, hml, hown, hts, hg, hlk, hRc, hRs⟩ := C
  exact lv_null hx hb d (h _ _ _ _ _ _ _ _ hk hw hS hl hc hz)
theorem x_goto {T : Ct} {cc : ByteArray} {nL : Nat} {own : String} {MC MS pc : Nat} {Qf : State → Prop} (C : Cx T cc nL own MC MS) {off : Int} {tgt : Nat} {k : Kt} (h : Sd T nL Qf MC MS tgt k) (d : decode cc pc = .ok (.goto off, 3)) (ht : (pc : Int) + off = (tgt : Int)) : Sd T nL Qf MC MS pc (k) := by
  obtain ⟨p, l, e, R, s, m, args, below, meth, c, D, cA, base⟩ := T
  intro H locs ls lv st S cz zz hk hw hS hl hc hz
  obtain ⟨hx, hb, hml, hown, hts, hg, hlk, hRc, hRs⟩ := C
  exact lv_goto hx hb d ht (h _ _ _ _ _ _ _ _ hk hw hS hl hc hz)
theorem x_if_eq {T : Ct} {cc : ByteArray} {nL : Nat} {own : String} {MC MS pc : Nat} {Qf : State → Prop} (C : Cx T cc nL own MC MS) {off : Int} {tgt : Nat} {t : Kt} (ht : Sd T nL Qf MC MS tgt t) (d : decode cc pc = .ok (.ifCond .eq off, 3)) (ho : (pc : Int) + off = (tgt : Int)) {k : Kt} (h : Sd T nL Qf MC MS (pc + 3) k) : Sd T nL Qf MC MS pc (ifz (fun x => x = 0) t k) := by
  obtain ⟨p, l, e, R, s, m, args, below, meth, c, D, cA, base⟩ := T
  intro H locs ls lv st S cz zz hk hw hS hl hc hz
  obtain ⟨hx, hb, hml, hown, hts, hg, hlk, hRc, hRs⟩ := C
  unfold ifz at hk
  split at hk
  · exact lv_if_eq hx hb d ho (fun q => ht _ _ _ _ _ _ _ _ (hk.1 q) hw hS hl hc hz) (fun q => h _ _ _ _ _ _ _ _ (hk.2 q) hw hS hl hc hz)
  · exact hk.elim
theorem x_ic_eq {T : Ct} {cc : ByteArray} {nL : Nat} {own : String} {MC MS pc : Nat} {Qf : State → Prop} (C : Cx T cc nL own MC MS) {off : Int} {tgt : Nat} {t : Kt} (ht : Sd T nL Qf MC MS tgt t) (d : decode cc pc = .ok (.if_icmp .eq off, 3)) (ho : (pc : Int) + off = (tgt : Int)) {k : Kt} (h : Sd T nL Qf MC MS (pc + 3) k) : Sd T nL Qf MC MS pc (ifc (fun x y => x = y) t k) := by
  obtain ⟨p, l, e, R, s, m, args, below, meth, c, D, cA, base⟩ := T
  intro H locs ls lv st S cz zz hk hw hS hl hc hz
  obtain ⟨hx, hb, hml, hown, hts, hg, hlk, hRc, hRs⟩ := C
  unfold ifc at hk
  split at hk
  · exact lv_icmp_eq hx hb d ho (fun q => ht _ _ _ _ _ _ _ _ (hk.1 q) hw hS hl hc hz) (fun q => h _ _ _ _ _ _ _ _ (hk.2 q) hw hS hl hc hz)
  · exact hk.elim
theorem x_if_lt {T : Ct} {cc : ByteArray} {nL : Nat} {own : String} {MC MS pc : Nat} {Qf : State → Prop} (C : Cx T cc nL own MC MS) {off : Int} {tgt : Nat} {t : Kt} (ht : Sd T nL Qf MC MS tgt t) (d : decode cc pc = .ok (.ifCond .lt off, 3)) (ho : (pc : Int) + off = (tgt : Int)) {k : Kt} (h : Sd T nL Qf MC MS (pc + 3) k) : Sd T nL Qf MC MS pc (ifz (fun x => x < 0) t k) := by
  obtain ⟨p, l, e, R, s, m, args, below, meth, c, D, cA, base⟩ := T
  intro H locs ls lv st S cz zz hk hw hS hl hc hz
  obtain ⟨hx, hb, hml, hown, hts, hg, hlk, hRc, hRs⟩ := C
  unfold ifz at hk
  split at hk
  · exact lv_if_lt hx hb d ho (fun q => ht _ _ _ _ _ _ _ _ (hk.1 q) hw hS hl hc hz) (fun q => h _ _ _ _ _ _ _ _ (hk.2 q) hw hS hl hc hz)
  · exact hk.elim
theorem x_ic_lt {T : Ct} {cc : ByteArray} {nL : Nat} {own : String} {MC MS pc : Nat} {Qf : State → Prop} (C : Cx T cc nL own MC MS) {off : Int} {tgt : Nat} {t : Kt} (ht : Sd T nL Qf MC MS tgt t) (d : decode cc pc = .ok (.if_icmp .lt off, 3)) (ho : (pc : Int) + off = (tgt : Int)) {k : Kt} (h : Sd T nL Qf MC MS (pc + 3) k) : Sd T nL Qf MC MS pc (ifc (fun x y => x < y) t k) := by
  obtain ⟨p, l, e, R, s, m, args, below, meth, c, D, cA, base⟩ := T
  intro H locs ls lv st S cz zz hk hw hS hl hc hz
  obtain ⟨hx, hb, hml, hown, hts, hg, hlk, hRc, hRs⟩ := C
  unfold ifc at hk
  split at hk
  · exact lv_icmp_lt hx hb d ho (fun q => ht _ _ _ _ _ _ _ _ (hk.1 q) hw hS hl hc hz) (fun q => h _ _ _ _ _ _ _ _ (hk.2 q) hw hS hl hc hz)
  · exact hk.elim
theorem x_if_ge {T : Ct} {cc : ByteArray} {nL : Nat} {own : String} {MC MS pc : Nat} {Qf : State → Prop} (C : Cx T cc nL own MC MS) {off : Int} {tgt : Nat} {t : Kt} (ht : Sd T nL Qf MC MS tgt t) (d : decode cc pc = .ok (.ifCond .ge off, 3)) (ho : (pc : Int) + off = (tgt : Int)) {k : Kt} (h : Sd T nL Qf MC MS (pc + 3) k) : Sd T nL Qf MC MS pc (ifz (fun x => 0 ≤ x) t k) := by
  obtain ⟨p, l, e, R, s, m, args, below, meth, c, D, cA, base⟩ := T
  intro H locs ls lv st S cz zz hk hw hS hl hc hz
  obtain ⟨hx, hb, hml, hown, hts, hg, hlk, hRc, hRs⟩ := C
  unfold ifz at hk
  split at hk
  · exact lv_if_ge hx hb d ho (fun q => ht _ _ _ _ _ _ _ _ (hk.1 q) hw hS hl hc hz) (fun q => h _ _ _ _ _ _ _ _ (hk.2 q) hw hS hl hc hz)
  · exact hk.elim
theorem x_ic_ge {T : Ct} {cc : ByteArray} {nL : Nat} {own : String} {MC MS pc : Nat} {Qf : State → Prop} (C : Cx T cc nL own MC MS) {off : Int} {tgt : Nat} {t : Kt} (ht : Sd T nL Qf MC MS tgt t) (d : decode cc pc = .ok (.if_icmp .ge off, 3)) (ho : (pc : Int) + off = (tgt : Int)) {k : Kt} (h : Sd T nL Qf MC MS (pc + 3) k) : Sd T nL Qf MC MS pc (ifc (fun x y => y ≤ x) t k) := by
  obtain ⟨p, l, e, R, s, m, args, below, meth, c, D, cA, base⟩ := T
  intro H locs ls lv st S cz zz hk hw hS hl hc hz
  obtain ⟨hx, hb, hml, hown, hts, hg, hlk, hRc, hRs⟩ := C
  unfold ifc at hk
  split at hk
  · exact lv_icmp_ge hx hb d ho (fun q => ht _ _ _ _ _ _ _ _ (hk.1 q) hw hS hl hc hz) (fun q => h _ _ _ _ _ _ _ _ (hk.2 q) hw hS hl hc hz)
  · exact hk.elim
theorem x_if_gt {T : Ct} {cc : ByteArray} {nL : Nat} {own : String} {MC MS pc : Nat} {Qf : State → Prop} (C : Cx T cc nL own MC MS) {off : Int} {tgt : Nat} {t : Kt} (ht : Sd T nL Qf MC MS tgt t) (d : decode cc pc = .ok (.ifCond .gt off, 3)) (ho : (pc : Int) + off = (tgt : Int)) {k : Kt} (h : Sd T nL Qf MC MS (pc + 3) k) : Sd T nL Qf MC MS pc (ifz (fun x => 0 < x) t k) := by
  obtain ⟨p, l, e, R, s, m, args, below, meth, c, D, cA, base⟩ := T
  intro H locs ls lv st S cz zz hk hw hS hl hc hz
  obtain ⟨hx, hb, hml, hown, hts, hg, hlk, hRc, hRs⟩ := C
  unfold ifz at hk
  split at hk
  · exact lv_if_gt hx hb d ho (fun q => ht _ _ _ _ _ _ _ _ (hk.1 q) hw hS hl hc hz) (fun q => h _ _ _ _ _ _ _ _ (hk.2 q) hw hS hl hc hz)
  · exact hk.elim
theorem x_ic_gt {T : Ct} {cc : ByteArray} {nL : Nat} {own : String} {MC MS pc : Nat} {Qf : State → Prop} (C : Cx T cc nL own MC MS) {off : Int} {tgt : Nat} {t : Kt} (ht : Sd T nL Qf MC MS tgt t) (d : decode cc pc = .ok (.if_icmp .gt off, 3)) (ho : (pc : Int) + off = (tgt : Int)) {k : Kt} (h : Sd T nL Qf MC MS (pc + 3) k) : Sd T nL Qf MC MS pc (ifc (fun x y => y < x) t k) := by
  obtain ⟨p, l, e, R, s, m, args, below, meth, c, D, cA, base⟩ := T
  intro H locs ls lv st S cz zz hk hw hS hl hc hz
  obtain ⟨hx, hb, hml, hown, hts, hg, hlk, hRc, hRs⟩ := C
  unfold ifc at hk
  split at hk
  · exact lv_icmp_gt hx hb d ho (fun q => ht _ _ _ _ _ _ _ _ (hk.1 q) hw hS hl hc hz) (fun q => h _ _ _ _ _ _ _ _ (hk.2 q) hw hS hl hc hz)
  · exact hk.elim
theorem x_if_le {T : Ct} {cc : ByteArray} {nL : Nat} {own : String} {MC MS pc : Nat} {Qf : State → Prop} (C : Cx T cc nL own MC MS) {off : Int} {tgt : Nat} {t : Kt} (ht : Sd T nL Qf MC MS tgt t) (d : decode cc pc = .ok (.ifCond .le off, 3)) (ho : (pc : Int) + off = (tgt : Int)) {k : Kt} (h : Sd T nL Qf MC MS (pc + 3) k) : Sd T nL Qf MC MS pc (ifz (fun x => x ≤ 0) t k) := by
  obtain ⟨p, l, e, R, s, m, args, below, meth, c, D, cA, base⟩ := T
  intro H locs ls lv st S cz zz hk hw hS hl hc hz
  obtain ⟨hx, hb, hml, hown, hts, hg, hlk, hRc, hRs⟩ := C
  unfold ifz at hk
  split at hk
  · exact lv_if_le hx hb d ho (fun q => ht _ _ _ _ _ _ _ _ (hk.1 q) hw hS hl hc hz) (fun q => h _ _ _ _ _ _ _ _ (hk.2 q) hw hS hl hc hz)
  · exact hk.elim
theorem x_ic_le {T : Ct} {cc : ByteArray} {nL : Nat} {own : String} {MC MS pc : Nat} {Qf : State → Prop} (C : Cx T cc nL own MC MS) {off : Int} {tgt : Nat} {t : Kt} (ht : Sd T nL Qf MC MS tgt t) (d : decode cc pc = .ok (.if_icmp .le off, 3)) (ho : (pc : Int) + off = (tgt : Int)) {k : Kt} (h : Sd T nL Qf MC MS (pc + 3) k) : Sd T nL Qf MC MS pc (ifc (fun x y => x ≤ y) t k) := by
  obtain ⟨p, l, e, R, s, m, args, below, meth, c, D, cA, base⟩ := T
  intro H locs ls lv st S cz zz hk hw hS hl hc hz
  obtain ⟨hx, hb, hml, hown, hts, hg, hlk, hRc, hRs⟩ := C
  unfold ifc at hk
  split at hk
  · exact lv_icmp_le hx hb d ho (fun q => ht _ _ _ _ _ _ _ _ (hk.1 q) hw hS hl hc hz) (fun q => h _ _ _ _ _ _ _ _ (hk.2 q) hw hS hl hc hz)
  · exact hk.elim
theorem x_if_ne {T : Ct} {cc : ByteArray} {nL : Nat} {own : String} {MC MS pc : Nat} {Qf : State → Prop} (C : Cx T cc nL own MC MS) {off : Int} {tgt : Nat} {t : Kt} (ht : Sd T nL Qf MC MS tgt t) (d : decode cc pc = .ok (.ifCond .ne off, 3)) (ho : (pc : Int) + off = (tgt : Int)) {k : Kt} (h : Sd T nL Qf MC MS (pc + 3) k) : Sd T nL Qf MC MS pc (ifz (fun x => x = 0) k t) := by
  obtain ⟨p, l, e, R, s, m, args, below, meth, c, D, cA, base⟩ := T
  intro H locs ls lv st S cz zz hk hw hS hl hc hz
  obtain ⟨hx, hb, hml, hown, hts, hg, hlk, hRc, hRs⟩ := C
  unfold ifz at hk
  split at hk
  · exact lv_if_ne hx hb d ho (fun q => ht _ _ _ _ _ _ _ _ (hk.2 q) hw hS hl hc hz) (fun q => h _ _ _ _ _ _ _ _ (hk.1 q) hw hS hl hc hz)
  · exact hk.elim
theorem x_ic_ne {T : Ct} {cc : ByteArray} {nL : Nat} {own : String} {MC MS pc : Nat} {Qf : State → Prop} (C : Cx T cc nL own MC MS) {off : Int} {tgt : Nat} {t : Kt} (ht : Sd T nL Qf MC MS tgt t) (d : decode cc pc = .ok (.if_icmp .ne off, 3)) (ho : (pc : Int) + off = (tgt : Int)) {k : Kt} (h : Sd T nL Qf MC MS (pc + 3) k) : Sd T nL Qf MC MS pc (ifc (fun x y => x = y) k t) := by
  obtain ⟨p, l, e, R, s, m, args, below, meth, c, D, cA, base⟩ := T
  intro H locs ls lv st S cz zz hk hw hS hl hc hz
  obtain ⟨hx, hb, hml, hown, hts, hg, hlk, hRc, hRs⟩ := C
  unfold ifc at hk
  split at hk
  · exact lv_icmp_ne hx hb d ho (fun q => ht _ _ _ _ _ _ _ _ (hk.2 q) hw hS hl hc hz) (fun q => h _ _ _ _ _ _ _ _ (hk.1 q) hw hS hl hc hz)
  · exact hk.elim
theorem x_ifnull {T : Ct} {cc : ByteArray} {nL : Nat} {own : String} {MC MS pc : Nat} {Qf : State → Prop} (C : Cx T cc nL own MC MS) {off : Int} {tgt : Nat} {t : Kt} (ht : Sd T nL Qf MC MS tgt t) (d : decode cc pc = .ok (.ifnull off, 3)) (ho : (pc : Int) + off = (tgt : Int)) {k : Kt} (h : Sd T nL Qf MC MS (pc + 3) k) : Sd T nL Qf MC MS pc (ifn t k) := by
  obtain ⟨p, l, e, R, s, m, args, below, meth, c, D, cA, base⟩ := T
  intro H locs ls lv st S cz zz hk hw hS hl hc hz
  obtain ⟨hx, hb, hml, hown, hts, hg, hlk, hRc, hRs⟩ := C
  unfold ifn at hk
  split at hk
  · exact lv_ifnullN hx hb d ho (ht _ _ _ _ _ _ _ _ hk hw hS hl hc hz)
  · exact lv_ifnull hx hb d (h _ _ _ _ _ _ _ _ hk hw hS hl hc hz)
  · exact hk.elim
theorem x_ifnonnull {T : Ct} {cc : ByteArray} {nL : Nat} {own : String} {MC MS pc : Nat} {Qf : State → Prop} (C : Cx T cc nL own MC MS) {off : Int} {tgt : Nat} {t : Kt} (ht : Sd T nL Qf MC MS tgt t) (d : decode cc pc = .ok (.ifnonnull off, 3)) (ho : (pc : Int) + off = (tgt : Int)) {k : Kt} (h : Sd T nL Qf MC MS (pc + 3) k) : Sd T nL Qf MC MS pc (ifn k t) := by
  obtain ⟨p, l, e, R, s, m, args, below, meth, c, D, cA, base⟩ := T
  intro H locs ls lv st S cz zz hk hw hS hl hc hz
  obtain ⟨hx, hb, hml, hown, hts, hg, hlk, hRc, hRs⟩ := C
  unfold ifn at hk
  split at hk
  · exact lv_ifnonnullN hx hb d (h _ _ _ _ _ _ _ _ hk hw hS hl hc hz)
  · exact lv_ifnonnull hx hb d ho (ht _ _ _ _ _ _ _ _ hk hw hS hl hc hz)
  · exact hk.elim
theorem x_switch {T : Ct} {cc : ByteArray} {nL : Nat} {own : String} {MC MS pc : Nat} {Qf : State → Prop} (C : Cx T cc nL own MC MS) {dflt lo hi : Int} {offs : Array Int} {len tgt : Nat} {t : Kt} {ts : Nat → Kt} (ht : Sd T nL Qf MC MS tgt t) (d : decode cc pc = .ok (.tableswitch dflt lo hi offs, len)) (ho : (pc : Int) + dflt = (tgt : Int)) (hts0 : ∀ j : Nat, lo + (j : Int) ≤ hi → ∃ (off : Int) (tg : Nat), offs[j]? = some off ∧ (pc : Int) + off = (tg : Int) ∧ Sd T nL Qf MC MS tg (ts j)) : Sd T nL Qf MC MS pc (swt lo hi ts t) := by
  obtain ⟨p, l, e, R, s, m, args, below, meth, c, D, cA, base⟩ := T
  intro H locs ls lv st S cz zz hk hw hS hl hc hz
  obtain ⟨hx, hb, hml, hown, hts, hg, hlk, hRc, hRs⟩ := C
  unfold swt at hk
  split at hk
  · next x r =>
    by_cases h1 : x.toInt < lo ∨ hi < x.toInt
    · exact lv_tableOut hx hb d h1 ho (ht _ _ _ _ _ _ _ _ (hk.1 h1) hw hS hl hc hz)
    · have h2 : ¬ x.toInt < lo := fun q => h1 (Or.inl q)
      have h3 : ¬ hi < x.toInt := fun q => h1 (Or.inr q)
      have h4 : x.toInt = lo + ((x.toInt - lo).toNat : Int) := by omega
      have h5 : lo + ((x.toInt - lo).toNat : Int) ≤ hi := by omega
      obtain ⟨off, tg, g1, g2, g3⟩ := hts0 _ h5
      exact lv_tableIn hx hb d h2 h3 g1 g2 (g3 _ _ _ _ _ _ _ _ (hk.2 _ h4 h5) hw hS hl hc hz)
  · exact hk.elim
theorem x_gI {T : Ct} {cc : ByteArray} {nL : Nat} {own : String} {MC MS pc : Nat} {Qf : State → Prop} (C : Cx T cc nL own MC MS) {idx ci j N : Nat} {ref Cn : String} {TX : u_T} (hcl : vwCl[ci]? = some (Cn, TX, N)) (hci : ci < 9) (hin : ∀ w ∈ u_ws Cn TX N, w ∈ TT) (hj : j < N) (hm : Cond.fieldLink own idx ref (TX j).2.1 (TX j).2.2.1 ∈ TT) (hrf : (TX j).1 = ref) (hsg : (sg ci)[j]? = some false) (d : decode cc pc = .ok (.getfield idx, 3)) {k : Kt} (h : Sd T nL Qf MC MS (pc + 3) k) : Sd T nL Qf MC MS pc (gI ci j k) := by
  obtain ⟨p, l, e, R, s, m, args, below, meth, c, D, cA, base⟩ := T
  intro H locs ls lv st S cz zz hk hw hS hl hc hz
  obtain ⟨hx, hb, hml, hown, hts, hg, hlk, hRc, hRs⟩ := C
  unfold gI at hk
  split at hk
  · next a r =>
    obtain ⟨hka, hk⟩ := hk
    have hlen : j < (sg ci).length := (List.getElem?_eq_some_iff.mp hsg).1
    have hgd : (sg ci).getD j false = false := by rw [List.getD_eq_getElem?_getD, hsg]; rfl
    have hP : va_P D vwCl [(a, fF cA S a)] H := fun k2 q hq => by
      have hz2 : k2 < 1 := (List.getElem?_eq_some_iff.mp hq).1
      rw [show k2 = 0 by omega] at hq
      cases hq
      exact (hw a (by rw [hka]; omega)).2
    rw [fF_obj hka hci] at hP
    subst hrf
    exact va_get (D := D) (ci := ci) (v := .int (sI S a j)) hx hb hts hin hown hg.1 hP 0 rfl hcl j hj (hts _ hm) (fun _ h9 => h9) (by rw [fl_at _ _ hlen, fv_I _ _ hgd]) d (h _ _ _ _ _ _ _ _ hk hw hS hl hc hz)
  · exact hk.elim
theorem x_gR {T : Ct} {cc : ByteArray} {nL : Nat} {own : String} {MC MS pc : Nat} {Qf : State → Prop} (C : Cx T cc nL own MC MS) {idx ci j N : Nat} {ref Cn : String} {TX : u_T} (hcl : vwCl[ci]? = some (Cn, TX, N)) (hci : ci < 9) (hin : ∀ w ∈ u_ws Cn TX N, w ∈ TT) (hj : j < N) (hm : Cond.fieldLink own idx ref (TX j).2.1 (TX j).2.2.1 ∈ TT) (hrf : (TX j).1 = ref) (hsg : (sg ci)[j]? = some true) (d : decode cc pc = .ok (.getfield idx, 3)) {k : Kt} (h : Sd T nL Qf MC MS (pc + 3) k) : Sd T nL Qf MC MS pc (gR ci j k) := by
  obtain ⟨p, l, e, R, s, m, args, below, meth, c, D, cA, base⟩ := T
  intro H locs ls lv st S cz zz hk hw hS hl hc hz
  obtain ⟨hx, hb, hml, hown, hts, hg, hlk, hRc, hRs⟩ := C
  unfold gR at hk
  split at hk
  · next a r =>
    obtain ⟨hka, hk⟩ := hk
    have hk := hk _ rfl
    have hlen : j < (sg ci).length := (List.getElem?_eq_some_iff.mp hsg).1
    have hgd : (sg ci).getD j false = true := by rw [List.getD_eq_getElem?_getD, hsg]; rfl
    have hP : va_P D vwCl [(a, fF cA S a)] H := fun k2 q hq => by
      have hz2 : k2 < 1 := (List.getElem?_eq_some_iff.mp hq).1
      rw [show k2 = 0 by omega] at hq
      cases hq
      exact (hw a (by rw [hka]; omega)).2
    rw [fF_obj hka hci] at hP
    subst hrf
    exact va_get (D := D) (ci := ci) (v := va_rf (sR S a j)) hx hb hts hin hown hg.1 hP 0 rfl hcl j hj (hts _ hm) (fun _ h9 => h9) (by rw [fl_at _ _ hlen, fv_R _ _ hgd]) d (h _ _ _ _ _ _ _ _ hk hw hS hl hc hz)
  · exact hk.elim
theorem x_tI {T : Ct} {cc : ByteArray} {nL : Nat} {own : String} {MC MS pc : Nat} {Qf : State → Prop} (C : Cx T cc nL own MC MS) {idx ci j N : Nat} {ref Cn : String} {TX : u_T} (hcl : vwCl[ci]? = some (Cn, TX, N)) (hci : ci < 9) (hin : ∀ w ∈ u_ws Cn TX N, w ∈ TT) (hj : j < N) (hm : Cond.fieldLink own idx ref (TX j).2.1 (TX j).2.2.1 ∈ TT) (hrf : (TX j).1 = ref) (hsg : (sg ci)[j]? = some false) (ty0 : Nat → FieldType) (hty : ∀ k, k < N → parseFieldDescriptor (TX k).2.2.1 = some (ty0 k)) (hnm : ∀ a, a < N → ∀ b, b < N → a ≠ b → (TX a).2.1 ≠ (TX b).2.1) (hfin : (TX j).2.2.2 = false) (hd : parseFieldDescriptor (TX j).2.2.1 = some .int) (d : decode cc pc = .ok (.putfield idx, 3)) {k : Kt} (h : Sd T nL Qf MC MS (pc + 3) k) : Sd T nL Qf MC MS pc (tI ci j k) := by
  obtain ⟨p, l, e, R, s, m, args, below, meth, c, D, cA, base⟩ := T
  intro H locs ls lv st S cz zz hk hw hS hl hc hz
  obtain ⟨hx, hb, hml, hown, hts, hg, hlk, hRc, hRs⟩ := C
  unfold tI at hk
  split at hk
  · next v a r =>
    obtain ⟨hka, hk⟩ := hk
    have hlen : j < (sg ci).length := (List.getElem?_eq_some_iff.mp hsg).1
    have hgd : (sg ci).getD j false = false := by rw [List.getD_eq_getElem?_getD, hsg]; rfl
    have hne : sK S a ≠ 0 := by rw [hka]; omega
    obtain ⟨q, hq⟩ := va_pl_get (X := []) (f := fF cA S) (LL_mem hw hne)
    subst hrf
    refine va_put (D := D) (ci := ci) (v := .int v) hx hb hts hin ty0 hty hnm hown hg.1 (wd_P hw) (wd_D hw) hS q (by rw [hq, fF_obj hka hci]) hcl j hj (hts _ hm) (fun _ h9 => h9) hfin hd rfl rfl (by rw [fl_len]; exact hlen) d (fun H1 locs1 g1 g2 g3 => ?_)
    exact h _ _ _ _ _ _ _ _ hk (wd_set hw hne (fun _ => rfl) (set_pI hka hci hlen hgd) hq g1) g3 hl hc hz
  · exact hk.elim
theorem x_tZ {T : Ct} {cc : ByteArray} {nL : Nat} {own : String} {MC MS pc : Nat} {Qf : State → Prop} (C : Cx T cc nL own MC MS) {idx ci j N : Nat} {ref Cn : String} {TX : u_T} (hcl : vwCl[ci]? = some (Cn, TX, N)) (hci : ci < 9) (hin : ∀ w ∈ u_ws Cn TX N, w ∈ TT) (hj : j < N) (hm : Cond.fieldLink own idx ref (TX j).2.1 (TX j).2.2.1 ∈ TT) (hrf : (TX j).1 = ref) (hsg : (sg ci)[j]? = some false) (ty0 : Nat → FieldType) (hty : ∀ k, k < N → parseFieldDescriptor (TX k).2.2.1 = some (ty0 k)) (hnm : ∀ a, a < N → ∀ b, b < N → a ≠ b → (TX a).2.1 ≠ (TX b).2.1) (hfin : (TX j).2.2.2 = false) (hd : parseFieldDescriptor (TX j).2.2.1 = some .boolean) (d : decode cc pc = .ok (.putfield idx, 3)) {k : Kt} (h : Sd T nL Qf MC MS (pc + 3) k) : Sd T nL Qf MC MS pc (tZ ci j k) := by
  obtain ⟨p, l, e, R, s, m, args, below, meth, c, D, cA, base⟩ := T
  intro H locs ls lv st S cz zz hk hw hS hl hc hz
  obtain ⟨hx, hb, hml, hown, hts, hg, hlk, hRc, hRs⟩ := C
  unfold tZ at hk
  split at hk
  · next v a r =>
    obtain ⟨hka, hbv, hk⟩ := hk
    have hlen : j < (sg ci).length := (List.getElem?_eq_some_iff.mp hsg).1
    have hgd : (sg ci).getD j false = false := by rw [List.getD_eq_getElem?_getD, hsg]; rfl
    have hne : sK S a ≠ 0 := by rw [hka]; omega
    obtain ⟨q, hq⟩ := va_pl_get (X := []) (f := fF cA S) (LL_mem hw hne)
    subst hrf
    refine va_put (D := D) (ci := ci) (v := .int v) hx hb hts hin ty0 hty hnm hown hg.1 (wd_P hw) (wd_D hw) hS q (by rw [hq, fF_obj hka hci]) hcl j hj (hts _ hm) (fun _ h9 => h9) hfin hd (by rcases hbv with rfl | rfl <;> rfl) (by rcases hbv with rfl | rfl <;> rfl) (by rw [fl_len]; exact hlen) d (fun H1 locs1 g1 g2 g3 => ?_)
    exact h _ _ _ _ _ _ _ _ hk (wd_set hw hne (fun _ => rfl) (set_pI hka hci hlen hgd) hq g1) g3 hl hc hz
  · exact hk.elim
theorem x_tF {T : Ct} {cc : ByteArray} {nL : Nat} {own : String} {MC MS pc : Nat} {Qf : State → Prop} (C : Cx T cc nL own MC MS) {ty : FieldType} {idx ci j N : Nat} {ref Cn : String} {TX : u_T} (hcl : vwCl[ci]? = some (Cn, TX, N)) (hci : ci < 9) (hin : ∀ w ∈ u_ws Cn TX N, w ∈ TT) (hj : j < N) (hm : Cond.fieldLink own idx ref (TX j).2.1 (TX j).2.2.1 ∈ TT) (hrf : (TX j).1 = ref) (hsg : (sg ci)[j]? = some true) (ty0 : Nat → FieldType) (hty : ∀ k, k < N → parseFieldDescriptor (TX k).2.2.1 = some (ty0 k)) (hnm : ∀ a, a < N → ∀ b, b < N → a ≠ b → (TX a).2.1 ≠ (TX b).2.1) (hfin : (TX j).2.2.2 = true) (hd : parseFieldDescriptor (TX j).2.2.1 = some ty) (d : decode cc pc = .ok (.putfield idx, 3)) (hin2 : T.2.2.2.2.2.2.2.2.1.name = "<init>") (hdecl : (TX j).1 = own) (hn : ∀ v : Nat, narrow ty (.ref v) = .ref v) (hft : ∀ v : Nat, fits ty (.ref v) = true) {k : Kt} (h : Sd T nL Qf MC MS (pc + 3) k) : Sd T nL Qf MC MS pc (tF ci j k) := by
  obtain ⟨p, l, e, R, s, m, args, below, meth, c, D, cA, base⟩ := T
  intro H locs ls lv st S cz zz hk hw hS hl hc hz
  obtain ⟨hx, hb, hml, hown, hts, hg, hlk, hRc, hRs⟩ := C
  unfold tF at hk
  split at hk
  · next v a r =>
    obtain ⟨hka, hk⟩ := hk
    have hlen : j < (sg ci).length := (List.getElem?_eq_some_iff.mp hsg).1
    have hgd : (sg ci).getD j false = true := by rw [List.getD_eq_getElem?_getD, hsg]; rfl
    have hne : sK S a ≠ 0 := by rw [hka]; omega
    obtain ⟨q, hq⟩ := va_pl_get (X := []) (f := fF cA S) (LL_mem hw hne)
    subst hrf
    refine va_putF (D := D) (ci := ci) (v := .ref v) hx hb hts hin ty0 hty hnm hown hg.1 (wd_P hw) (wd_D hw) hS q (by rw [hq, fF_obj hka hci]) hcl j hj (hts _ hm) (fun _ h9 => h9) hfin hin2 hdecl hd (hn v) (hft v) (by rw [fl_len]; exact hlen) d (fun H1 locs1 g1 g2 g3 => ?_)
    exact h _ _ _ _ _ _ _ _ hk (wd_set hw hne (fun _ => rfl) (set_pR (v := some v) hka hci hlen hgd) hq g1) g3 hl hc hz
  · exact hk.elim
theorem x_iald {T : Ct} {cc : ByteArray} {nL : Nat} {own : String} {MC MS pc : Nat} {Qf : State → Prop} (C : Cx T cc nL own MC MS) (d : decode cc pc = .ok (.iaload, 1)) {k : Kt} (h : Sd T nL Qf MC MS (pc + 1) k) : Sd T nL Qf MC MS pc (aI 10 k) := by
  obtain ⟨p, l, e, R, s, m, args, below, meth, c, D, cA, base⟩ := T
  intro H locs ls lv st S cz zz hk hw hS hl hc hz
  obtain ⟨hx, hb, hml, hown, hts, hg, hlk, hRc, hRs⟩ := C
  unfold aI at hk
  split at hk
  · next i a r =>
    obtain ⟨hka, hi, hk⟩ := hk
    have hP : va_P D vwCl [(a, fF cA S a)] H := fun k2 q hq => by
      have hz2 : k2 < 1 := (List.getElem?_eq_some_iff.mp hq).1
      rw [show k2 = 0 by omega] at hq
      cases hq
      exact (hw a (by rw [hka]; omega)).2
    rw [fF_int hka (by omega) (by omega)] at hP
    exact va_iald hx hb hg.1 hP 0 0 rfl rfl hi d (h _ _ _ _ _ _ _ _ hk hw hS hl hc hz)
  · exact hk.elim
theorem x_zald {T : Ct} {cc : ByteArray} {nL : Nat} {own : String} {MC MS pc : Nat} {Qf : State → Prop} (C : Cx T cc nL own MC MS) (d : decode cc pc = .ok (.baload, 1)) {k : Kt} (h : Sd T nL Qf MC MS (pc + 1) k) : Sd T nL Qf MC MS pc (aI 11 k) := by
  obtain ⟨p, l, e, R, s, m, args, below, meth, c, D, cA, base⟩ := T
  intro H locs ls lv st S cz zz hk hw hS hl hc hz
  obtain ⟨hx, hb, hml, hown, hts, hg, hlk, hRc, hRs⟩ := C
  unfold aI at hk
  split at hk
  · next i a r =>
    obtain ⟨hka, hi, hk⟩ := hk
    have hP : va_P D vwCl [(a, fF cA S a)] H := fun k2 q hq => by
      have hz2 : k2 < 1 := (List.getElem?_eq_some_iff.mp hq).1
      rw [show k2 = 0 by omega] at hq
      cases hq
      exact (hw a (by rw [hka]; omega)).2
    rw [fF_int hka (by omega) (by omega)] at hP
    exact va_zald hx hb hg.1 hP 0 1 rfl rfl hi d (h _ _ _ _ _ _ _ _ hk hw hS hl hc hz)
  · exact hk.elim
theorem x_lald {T : Ct} {cc : ByteArray} {nL : Nat} {own : String} {MC MS pc : Nat} {Qf : State → Prop} (C : Cx T cc nL own MC MS) (d : decode cc pc = .ok (.laload, 1)) {k : Kt} (h : Sd T nL Qf MC MS (pc + 1) k) : Sd T nL Qf MC MS pc (aJ k) := by
  obtain ⟨p, l, e, R, s, m, args, below, meth, c, D, cA, base⟩ := T
  intro H locs ls lv st S cz zz hk hw hS hl hc hz
  obtain ⟨hx, hb, hml, hown, hts, hg, hlk, hRc, hRs⟩ := C
  unfold aJ at hk
  split at hk
  · next i a r =>
    obtain ⟨hka, hi, hk⟩ := hk
    have hP : va_P D vwCl [(a, fF cA S a)] H := fun k2 q hq => by
      have hz2 : k2 < 1 := (List.getElem?_eq_some_iff.mp hq).1
      rw [show k2 = 0 by omega] at hq
      cases hq
      exact (hw a (by rw [hka]; omega)).2
    rw [fF_long hka] at hP
    exact va_lald hx hb hg.1 hP 0 8 rfl rfl hi d (h _ _ _ _ _ _ _ _ hk hw hS hl hc hz)
  · exact hk.elim
theorem x_aald {T : Ct} {cc : ByteArray} {nL : Nat} {own : String} {MC MS pc : Nat} {Qf : State → Prop} (C : Cx T cc nL own MC MS) {kd t0 : Nat} {Cn : String} (h1 : 12 ≤ kd) (h2 : kd ≤ 17) (ht0 : ∀ cA : Nat → ClassId, (tyA cA)[t0]? = some (cA kd, .object Cn)) (d : decode cc pc = .ok (.aaload, 1)) {k : Kt} (h : Sd T nL Qf MC MS (pc + 1) k) : Sd T nL Qf MC MS pc (aR kd k) := by
  obtain ⟨p, l, e, R, s, m, args, below, meth, c, D, cA, base⟩ := T
  intro H locs ls lv st S cz zz hk hw hS hl hc hz
  obtain ⟨hx, hb, hml, hown, hts, hg, hlk, hRc, hRs⟩ := C
  unfold aR at hk
  split at hk
  · next i a r =>
    obtain ⟨hka, hi, hk⟩ := hk
    have hk := hk _ rfl
    have hP : va_P D vwCl [(a, fF cA S a)] H := fun k2 q hq => by
      have hz2 : k2 < 1 := (List.getElem?_eq_some_iff.mp hq).1
      rw [show k2 = 0 by omega] at hq
      cases hq
      exact (hw a (by rw [hka]; omega)).2
    rw [fF_ref hka h1 h2] at hP
    exact va_aldq hx hb hg.1 hP 0 t0 rfl (ht0 cA) hi d (h _ _ _ _ _ _ _ _ hk hw hS hl hc hz)
  · exact hk.elim
theorem x_iast {T : Ct} {cc : ByteArray} {nL : Nat} {own : String} {MC MS pc : Nat} {Qf : State → Prop} (C : Cx T cc nL own MC MS) (d : decode cc pc = .ok (.iastore, 1)) {k : Kt} (h : Sd T nL Qf MC MS (pc + 1) k) : Sd T nL Qf MC MS pc (sAI k) := by
  obtain ⟨p, l, e, R, s, m, args, below, meth, c, D, cA, base⟩ := T
  intro H locs ls lv st S cz zz hk hw hS hl hc hz
  obtain ⟨hx, hb, hml, hown, hts, hg, hlk, hRc, hRs⟩ := C
  unfold sAI at hk
  split at hk
  · next v i a r =>
    obtain ⟨hka, hi, hk⟩ := hk
    have hne : sK S a ≠ 0 := by rw [hka]; omega
    obtain ⟨q, hq⟩ := va_pl_get (X := []) (f := fF cA S) (LL_mem hw hne)
    refine va_iast hx hb hg.1 (wd_P hw) (wd_D hw) hS q 0 (by rw [hq, fF_int hka (by omega) (by omega)]) rfl hi d (fun H1 locs1 g1 g2 g3 => ?_)
    exact h _ _ _ _ _ _ _ _ hk (wd_set hw hne (fun _ => rfl) (set_aI hka (by omega) (by omega)) hq g1) g3 hl hc hz
  · exact hk.elim
theorem x_zast {T : Ct} {cc : ByteArray} {nL : Nat} {own : String} {MC MS pc : Nat} {Qf : State → Prop} (C : Cx T cc nL own MC MS) (d : decode cc pc = .ok (.bastore, 1)) {k : Kt} (h : Sd T nL Qf MC MS (pc + 1) k) : Sd T nL Qf MC MS pc (sAZ k) := by
  obtain ⟨p, l, e, R, s, m, args, below, meth, c, D, cA, base⟩ := T
  intro H locs ls lv st S cz zz hk hw hS hl hc hz
  obtain ⟨hx, hb, hml, hown, hts, hg, hlk, hRc, hRs⟩ := C
  unfold sAZ at hk
  split at hk
  · next v i a r =>
    obtain ⟨hka, hi, hbv, hk⟩ := hk
    have hne : sK S a ≠ 0 := by rw [hka]; omega
    obtain ⟨q, hq⟩ := va_pl_get (X := []) (f := fF cA S) (LL_mem hw hne)
    have hnv : vp_nar .boolean v = v := by rcases hbv with rfl | rfl <;> rfl
    refine va_zast hx hb hg.1 (wd_P hw) (wd_D hw) hS q 1 (by rw [hq, fF_int hka (by omega) (by omega)]) rfl hi d (fun H1 locs1 g1 g2 g3 => ?_)
    rw [hnv] at g1
    exact h _ _ _ _ _ _ _ _ hk (wd_set hw hne (fun _ => rfl) (set_aI hka (by omega) (by omega)) hq g1) g3 hl hc hz
  · exact hk.elim
theorem x_last {T : Ct} {cc : ByteArray} {nL : Nat} {own : String} {MC MS pc : Nat} {Qf : State → Prop} (C : Cx T cc nL own MC MS) (d : decode cc pc = .ok (.lastore, 1)) {k : Kt} (h : Sd T nL Qf MC MS (pc + 1) k) : Sd T nL Qf MC MS pc (sAJ k) := by
  obtain ⟨p, l, e, R, s, m, args, below, meth, c, D, cA, base⟩ := T
  intro H locs ls lv st S cz zz hk hw hS hl hc hz
  obtain ⟨hx, hb, hml, hown, hts, hg, hlk, hRc, hRs⟩ := C
  unfold sAJ at hk
  split at hk
  · next v i a r =>
    obtain ⟨hka, hi, hk⟩ := hk
    have hne : sK S a ≠ 0 := by rw [hka]; omega
    obtain ⟨q, hq⟩ := va_pl_get (X := []) (f := fF cA S) (LL_mem hw hne)
    refine va_last hx hb hg.1 (wd_P hw) (wd_D hw) hS q 8 (by rw [hq, fF_long hka]) rfl hi d (fun H1 locs1 g1 g2 g3 => ?_)
    exact h _ _ _ _ _ _ _ _ hk (wd_set hw hne (fun _ => rfl) (set_aJ hka) hq g1) g3 hl hc hz
  · exact hk.elim
theorem x_aast {T : Ct} {cc : ByteArray} {nL : Nat} {own : String} {MC MS pc : Nat} {Qf : State → Prop} (C : Cx T cc nL own MC MS) {ci t0 N : Nat} {Cn : String} {TX : u_T} (hci : ci < 6) (hcl : vwCl[ci]? = some (Cn, TX, N)) (ht0 : ∀ cA : Nat → ClassId, (tyA cA)[t0]? = some (cA (ci + 12), .object Cn)) (d : decode cc pc = .ok (.aastore, 1)) {k : Kt} (h : Sd T nL Qf MC MS (pc + 1) k) : Sd T nL Qf MC MS pc (sAR ci k) := by
  obtain ⟨p, l, e, R, s, m, args, below, meth, c, D, cA, base⟩ := T
  intro H locs ls lv st S cz zz hk hw hS hl hc hz
  obtain ⟨hx, hb, hml, hown, hts, hg, hlk, hRc, hRs⟩ := C
  unfold sAR at hk
  split at hk
  · next v i a r =>
    obtain ⟨hka, hi, hkv, hk⟩ := hk
    have hne : sK S a ≠ 0 := by rw [hka]; omega
    obtain ⟨q, hq⟩ := va_pl_get (X := []) (f := fF cA S) (LL_mem hw hne)
    obtain ⟨q2, hq2⟩ := va_pl_get (X := []) (f := fF cA S) (LL_mem hw (show sK S v ≠ 0 by rw [hkv]; omega))
    refine va_astq hx hb hg.1 (wd_P hw) (wd_D hw) hS q t0 q2 ci (r := (Cn, TX, N)) (by rw [hq, fF_ref hka (by omega) (by omega)]) (ht0 cA) (by rw [hq2, fF_obj hkv (by omega)]) hcl hi d (fun H1 locs1 g1 g2 g3 => ?_)
    exact h _ _ _ _ _ _ _ _ hk (wd_set hw hne (fun _ => rfl) (set_aR hka (by omega) (by omega)) hq g1) g3 hl hc hz
  · next i a r =>
    obtain ⟨hka, hi, hk⟩ := hk
    have hne : sK S a ≠ 0 := by rw [hka]; omega
    obtain ⟨q, hq⟩ := va_pl_get (X := []) (f := fF cA S) (LL_mem hw hne)
    refine va_astqN hx hb hg.1 (wd_P hw) (wd_D hw) hS q t0 (by rw [hq, fF_ref hka (by omega) (by omega)]) (ht0 cA) hi d (fun H1 locs1 g1 g2 g3 => ?_)
    exact h _ _ _ _ _ _ _ _ hk (wd_set hw hne (fun _ => rfl) (set_aR hka (by omega) (by omega)) hq g1) g3 hl hc hz
  · exact hk.elim
theorem x_i2l {T : Ct} {cc : ByteArray} {nL : Nat} {own : String} {MC MS pc : Nat} {Qf : State → Prop} (C : Cx T cc nL own MC MS) (d : decode cc pc = .ok (.i2l, 1)) {k : Kt} (h : Sd T nL Qf MC MS (pc + 1) k) : Sd T nL Qf MC MS pc (i2 k) := by
  obtain ⟨p, l, e, R, s, m, args, below, meth, c, D, cA, base⟩ := T
  intro H locs ls lv st S cz zz hk hw hS hl hc hz
  obtain ⟨hx, hb, hml, hown, hts, hg, hlk, hRc, hRs⟩ := C
  unfold i2 at hk
  split at hk
  · exact lv_i2l hx hb d rfl (h _ _ _ _ _ _ _ _ hk hw hS hl hc hz)
  · exact hk.elim
theorem x_lcmp {T : Ct} {cc : ByteArray} {nL : Nat} {own : String} {MC MS pc : Nat} {Qf : State → Prop} (C : Cx T cc nL own MC MS) (d : decode cc pc = .ok (.lcmp, 1)) {k : Kt} (h : Sd T nL Qf MC MS (pc + 1) k) : Sd T nL Qf MC MS pc (lcm k) := by
  obtain ⟨p, l, e, R, s, m, args, below, meth, c, D, cA, base⟩ := T
  intro H locs ls lv st S cz zz hk hw hS hl hc hz
  obtain ⟨hx, hb, hml, hown, hts, hg, hlk, hRc, hRs⟩ := C
  unfold lcm at hk
  split at hk
  · exact W.lcmp hx hb d (h _ _ _ _ _ _ _ _ hk hw hS hl hc hz)
  · exact hk.elim
end
section
theorem sg_len {ci N : Nat} {Cn : String} {TX : u_T} (h : vwCl[ci]? = some (Cn, TX, N)) : (sg ci).length = N := by
  match ci, h with
  | 0, h => cases h; rfl
  | 1, h => cases h; rfl
  | 2, h => cases h; rfl
  | 3, h => cases h; rfl
  | 4, h => cases h; rfl
  | 5, h => cases h; rfl
  | 6, h => cases h; rfl
  | 7, h => cases h; rfl
  | 8, h => cases h; rfl
  | n + 9, h => cases h
theorem fl_new {ci N : Nat} {Cn : String} {TX : u_T} {ty : Nat → FieldType} (h : vwCl[ci]? = some (Cn, TX, N)) (hd : ∀ j, j < N → defaultValue (ty j) = if (sg ci).getD j false then Value.null else .int 0) (S : MM) (q kd n : Nat) : ∀ j, j < N → defaultValue (ty j) = vp_V (fl ci (nw S q kd n) q) j := by
  intro j hj
  rw [hd j hj]
  unfold vp_V
  have e1 : (fl ci (nw S q kd n) q).getD j .null = fv ci (nw S q kd n) q j := by
    rw [List.getD_eq_getElem?_getD, fl_at _ _ (by rw [sg_len h]; exact hj)]
    rfl
  rw [e1]
  unfold fv
  rw [sR_nw, sI_nw]
  unfold cl2
  simp [va_rf]
theorem x_new {T : Ct} {cc : ByteArray} {nL : Nat} {own : String} {MC MS pc : Nat} {Qf : State → Prop} (C : Cx T cc nL own MC MS) {idx ci N : Nat} {Cn : String} {TX : u_T} {k : Kt} (hcl : vwCl[ci]? = some (Cn, TX, N)) (hci : ci < 9) (hin : ∀ w ∈ u_ws Cn TX N, w ∈ TT) (ty0 : Nat → FieldType) (hty : ∀ k, k < N → parseFieldDescriptor (TX k).2.2.1 = some (ty0 k)) (hd : ∀ j, j < N → defaultValue (ty0 j) = if (sg ci).getD j false then Value.null else .int 0) (h1 : Cond.classLink own idx Cn ∈ TT) (h2 : Cond.instantiable Cn N ∈ TT) (h3 : Cond.initialized Cn ∈ TT) (d : decode cc pc = .ok (.new idx, 3)) (h : Sd T nL Qf MC MS (pc + 3) k) : Sd T nL Qf MC MS pc (nO ci MC MS k) := by
  obtain ⟨p, l, e, R, s, m, args, below, meth, c, D, cA, base⟩ := T
  intro H locs ls lv st S cz zz hk hw hS hl hc hz
  obtain ⟨hx, hb, hml, hown, hts, hg, hlk, hRc, hRs⟩ := C
  obtain ⟨⟨hk1, hk2⟩, hk⟩ := hk
  have hlen := sg_len hcl
  generalize hf : fl ci (nw M0 0 0 0) 0 = fs at *
  have hfs : ∀ q kd n, fl ci (nw S q kd n) q = fs := by
    intro q kd n
    rw [← hf]
    unfold fl
    congr 1
    funext j
    unfold fv
    rw [sR_nw, sI_nw, sR_nw, sI_nw]
    unfold cl2
    simp
  refine va_new (D := D) (ci := ci) (fs := fs) hx hb hts hin ty0 hty hown (hts _ h1) (hts _ h2) (hts _ h3) hg.1 (wd_P hw) (wd_D hw) hS (fun q hq => Nat.le_trans hg.2.1 hq) hcl (by rw [← hfs 0 0 0]; exact fl_new hcl hd S 0 0 0) (by rw [hRc]; exact hk1) (by rw [hRs, ← hlen]; exact hk2) d (fun q H1 g1 g2 g3 => ?_)
  obtain ⟨hq0, hw1⟩ := wd_new (kd := ci + 1) (n := 0) hw (by rw [fF_obj (ci := ci) (by rw [sK_nw, va_up_self]) hci, hfs]) g2 g1
  rw [← hlen]
  exact h _ _ _ _ _ _ _ _ (hk q hq0) hw1 g3 hl hk1 hk2
theorem tyA_one {cA : Nat → ClassId} {D : va_G} {s : State} {c2 : ClassId} {kd t0 : Nat} {ty : FieldType} (h : va_K D vwCl (tyA cA ++ [(c2, ty)]) s) (ht : (tyA cA)[t0]? = some (cA kd, ty)) (hlen : (tyA cA).length = 9) : c2 = cA kd := by
  have h1 := (h.2 9 (c2, ty) (by rw [List.getElem?_append_right (by omega), hlen]; rfl)).2
  have ht0 : t0 < 9 := by rw [← hlen]; exact (List.getElem?_eq_some_iff.mp ht).1
  have h2 := (h.2 t0 (cA kd, ty) (by rw [List.getElem?_append_left (by omega)]; exact ht)).2
  cases ty with
  | object C =>
    obtain ⟨_, _, _, _, _, a1⟩ := h1
    obtain ⟨_, _, _, _, _, a2⟩ := h2
    exact Option.some.inj (a1.symm.trans a2)
  | _ => exact Option.some.inj (h1.symm.trans h2)
theorem x_newI {T : Ct} {cc : ByteArray} {nL : Nat} {own : String} {MC MS pc : Nat} {Qf : State → Prop} (C : Cx T cc nL own MC MS) {k : Kt} (h1 : Cond.arrayClass .int ∈ TT) (d : decode cc pc = .ok (.newarray .int, 2)) (h : Sd T nL Qf MC MS (pc + 2) k) : Sd T nL Qf MC MS pc (nA 10 MC MS k) := by
  obtain ⟨p, l, e, R, s, m, args, below, meth, c, D, cA, base⟩ := T
  intro H locs ls lv st S cz zz hk hw hS hl hc hz
  obtain ⟨hx, hb, hml, hown, hts, hg, hlk, hRc, hRs⟩ := C
  unfold nA at hk
  split at hk
  · next n r =>
    obtain ⟨hn, ⟨hb9, hk1, hk2⟩, hk⟩ := hk
    refine va_newa (atype := .int) (ty := .int) (a0 := (n.toNatClampNeg, .inl (fun _ => 0))) hx hb (hts _ h1) rfl hg.1 (wd_P hw) (wd_D hw) hS (fun q hq => Nat.le_trans hg.2.1 hq) (fun _ => rfl) hn rfl (by show _ * 4 ≤ _; omega) (by rw [hRc]; exact hk1) (by rw [hRs]; exact hk2) d (fun q c2 H1 g0 g1 g2 g3 => ?_)
    have hc2 : c2 = cA 10 := tyA_one (t0 := 0) g0 rfl rfl
    subst hc2
    obtain ⟨hq0, hw1⟩ := wd_new (kd := 10) (n := n.toNatClampNeg) hw (by rw [fF_int (kd := 10) (by rw [sK_nw, va_up_self]) (by omega) (by omega), sN_nw, va_up_self, sI_nw]; congr 3; congr 1; funext j; unfold cl2; simp) g2 g1
    exact h _ _ _ _ _ _ _ _ (hk q hq0) hw1 g3 hl hk1 hk2
  · exact hk.elim
theorem x_newZ {T : Ct} {cc : ByteArray} {nL : Nat} {own : String} {MC MS pc : Nat} {Qf : State → Prop} (C : Cx T cc nL own MC MS) {k : Kt} (h1 : Cond.arrayClass .boolean ∈ TT) (d : decode cc pc = .ok (.newarray .boolean, 2)) (h : Sd T nL Qf MC MS (pc + 2) k) : Sd T nL Qf MC MS pc (nA 11 MC MS k) := by
  obtain ⟨p, l, e, R, s, m, args, below, meth, c, D, cA, base⟩ := T
  intro H locs ls lv st S cz zz hk hw hS hl hc hz
  obtain ⟨hx, hb, hml, hown, hts, hg, hlk, hRc, hRs⟩ := C
  unfold nA at hk
  split at hk
  · next n r =>
    obtain ⟨hn, ⟨hb9, hk1, hk2⟩, hk⟩ := hk
    refine va_newa (atype := .boolean) (ty := .boolean) (a0 := (n.toNatClampNeg, .inl (fun _ => 0))) hx hb (hts _ h1) rfl hg.1 (wd_P hw) (wd_D hw) hS (fun q hq => Nat.le_trans hg.2.1 hq) (fun _ => rfl) hn rfl (by show _ * 1 ≤ _; omega) (by rw [hRc]; exact hk1) (by rw [hRs]; exact hk2) d (fun q c2 H1 g0 g1 g2 g3 => ?_)
    have hc2 : c2 = cA 11 := tyA_one (t0 := 1) g0 rfl rfl
    subst hc2
    obtain ⟨hq0, hw1⟩ := wd_new (kd := 11) (n := n.toNatClampNeg) hw (by rw [fF_int (kd := 11) (by rw [sK_nw, va_up_self]) (by omega) (by omega), sN_nw, va_up_self, sI_nw]; congr 3; congr 1; funext j; unfold cl2; simp) g2 g1
    exact h _ _ _ _ _ _ _ _ (hk q hq0) hw1 g3 hl hk1 hk2
  · exact hk.elim
theorem x_newJ {T : Ct} {cc : ByteArray} {nL : Nat} {own : String} {MC MS pc : Nat} {Qf : State → Prop} (C : Cx T cc nL own MC MS) {k : Kt} (h1 : Cond.arrayClass .long ∈ TT) (d : decode cc pc = .ok (.newarray .long, 2)) (h : Sd T nL Qf MC MS (pc + 2) k) : Sd T nL Qf MC MS pc (nA 18 MC MS k) := by
  obtain ⟨p, l, e, R, s, m, args, below, meth, c, D, cA, base⟩ := T
  intro H locs ls lv st S cz zz hk hw hS hl hc hz
  obtain ⟨hx, hb, hml, hown, hts, hg, hlk, hRc, hRs⟩ := C
  unfold nA at hk
  split at hk
  · next n r =>
    obtain ⟨hn, ⟨hb9, hk1, hk2⟩, hk⟩ := hk
    refine va_newa (atype := .long) (ty := .long) (a0 := (n.toNatClampNeg, .inr (.inl (fun _ => 0)))) hx hb (hts _ h1) rfl hg.1 (wd_P hw) (wd_D hw) hS (fun q hq => Nat.le_trans hg.2.1 hq) (fun _ => rfl) hn rfl (by show _ * 8 ≤ _; omega) (by rw [hRc]; exact hk1) (by rw [hRs]; exact hk2) d (fun q c2 H1 g0 g1 g2 g3 => ?_)
    have hc2 : c2 = cA 18 := tyA_one (t0 := 8) g0 rfl rfl
    subst hc2
    obtain ⟨hq0, hw1⟩ := wd_new (kd := 18) (n := n.toNatClampNeg) hw (by rw [fF_long (by rw [sK_nw, va_up_self]), sN_nw, va_up_self, sJ_nw]; congr 3; congr 2; funext j; unfold cl2; simp) g2 g1
    exact h _ _ _ _ _ _ _ _ (hk q hq0) hw1 g3 hl hk1 hk2
  · exact hk.elim
theorem x_newR {T : Ct} {cc : ByteArray} {nL : Nat} {own : String} {MC MS pc : Nat} {Qf : State → Prop} (C : Cx T cc nL own MC MS) {k : Kt} {idx ci t0 : Nat} {Cn : String} (hci : ci < 6) (hmem : Cn ∈ [RX0, RX1, RX2, RX3, RX4, RX5]) (ht0 : ∀ cA : Nat → ClassId, (tyA cA)[t0]? = some (cA (ci + 12), .object Cn)) (h1 : Cond.classLink own idx Cn ∈ TT) (d : decode cc pc = .ok (.anewarray idx, 3)) (h : Sd T nL Qf MC MS (pc + 3) k) : Sd T nL Qf MC MS pc (nA (ci + 12) MC MS k) := by
  obtain ⟨p, l, e, R, s, m, args, below, meth, c, D, cA, base⟩ := T
  intro H locs ls lv st S cz zz hk hw hS hl hc hz
  obtain ⟨hx, hb, hml, hown, hts, hg, hlk, hRc, hRs⟩ := C
  unfold nA at hk
  split at hk
  · next n r =>
    obtain ⟨hn, ⟨hb9, hk1, hk2⟩, hk⟩ := hk
    refine va_newq hx hb hown (hts _ h1) (hg.2.2.2 _ hmem) hg.1 (wd_P hw) (wd_D hw) hS (fun q hq => Nat.le_trans hg.2.1 hq) hn rfl (by omega) (by rw [hRc]; exact hk1) (by rw [hRs]; exact hk2) d (fun q c2 H1 g0 g1 g2 g3 => ?_)
    have hc2 : c2 = cA (ci + 12) := tyA_one (t0 := t0) g0 (ht0 cA) rfl
    subst hc2
    obtain ⟨hq0, hw1⟩ := wd_new (kd := ci + 12) (n := n.toNatClampNeg) hw (by rw [fF_ref (kd := ci + 12) (by rw [sK_nw, va_up_self]) (by omega) (by omega), sN_nw, va_up_self, sR_nw]; congr 3; congr 4; funext j; unfold cl2; simp) g2 g1
    exact h _ _ _ _ _ _ _ _ (hk q hq0) hw1 g3 hl hk1 hk2
  · exact hk.elim
end
section
def CxR (T : Ct) (FR LR : Nat) : Prop := T.2.2.2.1.frames = FR ∧ T.2.2.2.1.locals = LR
def qR (D : va_G) (cA : Nat → ClassId) (base : Nat) (Q : Option Value → MM → Prop) : Array Value → State → Outcome → State → Prop := fun _ st o t => (∃ (v : Option Value) (S' : MM), o = .returned v ∧ Q v S' ∧ wU D cA base S' t) ∧ va_F (aB base) st t
/-- a method's contract, out of what its code says of memory and answer -/
def Mc (l : Launch) (D : va_G) (cA : Nat → ClassId) (base : Nat) (y : MethodName) (cc : ByteArray) (nL : Nat) (ret : Option FieldType) (rm : Room) (w : Mw) : Prop := ∀ as S Q, w as S Q → Met l y (wsT y cc nL ret) rm (va_Pc as (wU D cA base S)) (qR D cA base Q) rm.cells rm.slots (aB base)
def QT (T : Ct) (Q : Option Value → MM → Prop) (MC MS : Nat) : State → Prop := match T with
  | (_, _, _, _, s, _, args, below, _, _, D, cA, base) => MQ below (qR D cA base Q) args s MC MS (aB base)
theorem gU_warm {D : va_G} {cA : Nat → ClassId} {base : Nat} {s U : State} {H : Heap} {locs : List Loc} (hg : gU D cA base s) (hS : va_S (aB base) s.heap H locs) (hU : U.heap = H) (hW : s.WarmedH U.vm) : gU D cA base U := ⟨va_K.moved hW.alike hg.1, by rw [hU]; exact Nat.le_trans hg.2.1 hS.1, gN_warm hW hg.2.2⟩
theorem wU_at {D : va_G} {cA : Nat → ClassId} {base : Nat} {s U : State} {H : Heap} {locs : List Loc} {S : MM} (hg : gU D cA base s) (hw : wd D cA base S H) (hS : va_S (aB base) s.heap H locs) (hU : U.heap = H) (hW : s.WarmedH U.vm) : wU D cA base S U := ⟨by rw [hU]; exact hw, gU_warm hg hS hU hW⟩
theorem wU_blind {D : va_G} {cA : Nat → ClassId} {base : Nat} {S : MM} {as : List Value} : FrameBlind (va_Pc as (wU D cA base S)) := fun a U g mk h => ⟨h.1, h.2.1, va_K.moved (u := U) (U := U.calling g mk a) (Vm.Alike.refl U.vm) h.2.2.1, h.2.2.2.1, fun q hq => va_Nw.same rfl rfl (h.2.2.2.2.1 q hq), fun C hC => va_AO.moved (u := U) (U := U.calling g mk a) (Vm.Alike.refl U.vm) (h.2.2.2.2.2 C hC)⟩
theorem k_run {p : Program} {l : Launch} {e : Env} {R : Room} {s : State} {m : MethodId} {args : Array Value} {below : List Frame} {meth : Method} {c : Code} {H : Heap} {locs : List Loc} {cells slots : Nat} {Qf : State → Prop} {D : va_G} {cA : Nat → ClassId} {base : Nat} {pc : Nat} {ls : Array Slot} {st0 rest : List Value} {a : Array Value} {mc ms : Nat} {Q : Option Value → MM → Prop}
    (hr : va_Run p l e R s m args below meth c H locs cells slots mc ms (F0 m pc ls st0) rest (qR D cA base Q a) (aB base)) (hS : va_S (aB base) s.heap H locs)
    (kk : ∀ (v : Option Value) (S' : MM) (H1 : Heap) (locs1 : List Loc), Q v S' → wd D cA base S' H1 → va_S (aB base) s.heap H1 locs1 → W p l e R s m args below meth c H1 locs1 (cells + mc) (slots + ms) Qf (F0 m (pc + 3) ls (v.toList ++ rest))) : W p l e R s m args below meth c H locs cells slots Qf (F0 m pc ls st0) := by
  intro T hT X
  obtain ⟨v, st₀, t, T', L, h0, X', hL, e1, e2, ⟨⟨v', S', hv, hp, hb⟩, hz, hk⟩, st⟩ := hr T hT X
  cases hv
  rw [h0] at hz hk
  obtain ⟨t2, a1, b1⟩ := kk v S' T'.heap (locs ++ L) hp (by rw [e1]; exact hb.1)
    ⟨Nat.le_trans hS.1 (by rw [e1]; exact hz), fun q h1 h2 => by rw [e1, hk q (Nat.lt_of_lt_of_le h1 hS.1) h2]; exact hS.2.1 q h1 h2, fun q hq => by
      rcases List.mem_append.mp hq with h | h
      · exact hS.2.2 q h
      · exact hL q h⟩ T' rfl X'
  exact ⟨t2, st t2 a1, b1⟩
theorem cat8_room {m : MethodId} {pc : Nat} {ls : Array Slot} {st rest : List Value} (h : cat8 rest = true) : 2 * (F0 m pc ls st).monitorRoom + (rest.map fun v => v.category).sum ≤ 8 := lv_room (Nat.le_of_ble_eq_true h)
def Wd (y : MethodName) (cc : ByteArray) (nL n : Nat) (ret : Option FieldType) (rm : Room) (FR LR : Nat) : Prop := Cond.code y cc nL ret ∈ TT ∧ Cond.initialized y.cls ∈ TT ∧ (y.cls ≠ "java/lang/invoke/MethodHandle" ∧ y.cls ≠ "java/lang/invoke/VarHandle" ∧ (parseMethodDescriptor y.desc).map (fun d => d.parameters.length) = some n) ∧ rm.frames + 1 ≤ FR ∧ 8 + (nL + 11) + rm.locals ≤ LR
theorem TT_wsT {y : MethodName} {cc : ByteArray} {nL : Nat} {ret : Option FieldType} (h : Cond.code y cc nL ret ∈ TT) : GoodIn TT (wsT y cc nL ret) := TT_good (fun _ h => h) (fun w hw => by
  rcases List.mem_cons.mp hw with e | e
  · rw [e]; exact h
  · exact e)
theorem CB {T : Ct} {cc : ByteArray} {nL : Nat} {own : String} {MC MS : Nat} {FR LR : Nat} (C : Cx T cc nL own MC MS) (CR : CxR T FR LR) {y : MethodName} {cy : ByteArray} {ny n idx : Nat} {ret : Option FieldType} {rm : Room} (hW : Wd y cy ny n ret rm FR LR) (hl : Cond.methodLink own idx y ∈ TT) : CallB T.2.2.2.1 T.2.2.2.2.1 T.2.2.2.2.2.2.1 own idx y cy ny ret (wsT y cy ny ret) rm rm.cells rm.slots n := by
  obtain ⟨p, l, e, R, s, m, args, below, meth, c, D, cA, base⟩ := T
  obtain ⟨hx, hb, hml, hown, hts, hg, hlk, hRc, hRs⟩ := C
  obtain ⟨h1, h2, h3, h4, h5⟩ := hW
  exact callB_of n hts (TT_wsT h1) rfl rfl rfl (hts _ h2) (hts _ hl) h3 ⟨by rw [CR.1]; exact h4, by rw [CR.2]; exact h5⟩
theorem x_cS {T : Ct} {cc : ByteArray} {nL : Nat} {own : String} {MC MS pc FR LR : Nat} {Qf : State → Prop} (C : Cx T cc nL own MC MS) (CR : CxR T FR LR) {y : MethodName} {cy : ByteArray} {ny n idx : Nat} {ret : Option FieldType} {rm : Room} {w : Mw} (hM : ∀ l D cA base, Mc l D cA base y cy ny ret rm w) (hW : Wd y cy ny n ret rm FR LR) (hl : Cond.methodLink own idx y ∈ TT) (hs : Cond.static y ∈ TT) {k : Kt} (d : decode cc pc = .ok (.invokestatic idx, 3)) (h : Sd T nL Qf MC MS (pc + 3) k) : Sd T nL Qf MC MS pc (cS n w rm.cells rm.slots MC MS k) := by
  have cb := CB C CR hW hl
  obtain ⟨p, l, e, R, s, m, args, below, meth, c, D, cA, base⟩ := T
  intro H locs ls lv st S cz zz hk hw hS hl0 hc hz
  obtain ⟨hx, hb, hml, hown, hts, hg, hlk, hRc, hRs⟩ := C
  unfold cS at hk
  split at hk
  · next hok =>
    obtain ⟨⟨k1, k2⟩, hk⟩ := hk
    refine k_run (va_runS (As := (st.take n).reverse) (rest := st.drop n) ⟨hx, hb, hml, hown, hts⟩ (hM l D cA base _ _ _ hk) ⟨cb, hts _ hs⟩ ⟨wU_blind, fun U hU hW2 => ⟨rfl, wU_at hg hw hS hU hW2⟩⟩ rfl (by rw [List.length_reverse]; exact okS_2 hok) hl0.1 (by rw [List.reverse_reverse, List.take_append_drop]) (cat8_room (okS_1 hok)) d ⟨by rw [hRc]; exact k1, by rw [hRs]; exact k2⟩) hS (fun v S' H1 locs1 hq hw1 hS1 => ?_)
    exact h _ _ _ _ _ _ _ _ hq hw1 hS1 hl0 k1 k2
  · exact hk.elim
theorem st_split {n : Nat} {st As : List Value} {v : Value} (h : (st.take (n + 1)).reverse = v :: As) (hn : (st.take (n + 1)).length = n + 1) : st = As.reverse ++ v :: st.drop (n + 1) ∧ As.length = n := by
  have h1 : st.take (n + 1) = As.reverse ++ [v] := by
    have := congrArg List.reverse h
    rw [List.reverse_reverse, List.reverse_cons] at this
    exact this
  refine ⟨?_, ?_⟩
  · have h2 := List.take_append_drop (n + 1) st
    rw [h1] at h2
    rw [List.append_assoc] at h2
    exact h2.symm
  · rw [h1] at hn
    simp at hn
    exact hn
theorem x_cV {T : Ct} {cc : ByteArray} {nL : Nat} {own : String} {MC MS pc FR LR : Nat} {Qf : State → Prop} (C : Cx T cc nL own MC MS) (CR : CxR T FR LR) {y : MethodName} {cy : ByteArray} {ny n idx ci N : Nat} {TX : u_T} {ret : Option FieldType} {rm : Room} {w : Mw} (hM : ∀ l D cA base, Mc l D cA base y cy ny ret rm w) (hW : Wd y cy ny n ret rm FR LR) (hcl : vwCl[ci]? = some (y.cls, TX, N)) (hci : ci < 9) (hl : Cond.methodLink own idx y ∈ TT) (hi : Cond.instanceMethod y ∈ TT) (hs : Cond.selects y.cls y y ∈ TT) {k : Kt} (d : decode cc pc = .ok (.invokevirtual idx, 3)) (h : Sd T nL Qf MC MS (pc + 3) k) : Sd T nL Qf MC MS pc (cV n ci w rm.cells rm.slots MC MS k) := by
  have cb := CB C CR hW hl
  obtain ⟨p, l, e, R, s, m, args, below, meth, c, D, cA, base⟩ := T
  intro H locs ls lv st S cz zz hk hw hS hl0 hc hz
  obtain ⟨hx, hb, hml, hown, hts, hg, hlk, hRc, hRs⟩ := C
  unfold cV at hk
  split at hk
  · next b As hok hrev =>
    obtain ⟨hka, ⟨k1, k2⟩, hk⟩ := hk
    obtain ⟨hst, hln⟩ := st_split hrev (okS_2 hok)
    have hP : va_P D vwCl [(b, fF cA S b)] H := fun k2 q hq => by
      have hz2 : k2 < 1 := (List.getElem?_eq_some_iff.mp hq).1
      rw [show k2 = 0 by omega] at hq
      cases hq
      exact (hw b (by rw [hka]; omega)).2
    rw [fF_obj hka hci] at hP
    refine k_run (va_runV (C := y.cls) (As := As) (b := b) (rest := st.drop (n + 1)) ⟨hx, hb, hml, hown, hts⟩ (hM l D cA base _ _ _ hk) ⟨cb, hts _ hi, hts _ hs⟩ ⟨wU_blind, va_recv hg.1 hP (ci := ci) (q0 := 0) hcl rfl, fun U hU hW2 => ⟨rfl, wU_at hg hw hS hU hW2⟩⟩ rfl hln hl0.1 hst (cat8_room (okS_1 hok)) d ⟨by rw [hRc]; exact k1, by rw [hRs]; exact k2⟩) hS (fun v S' H1 locs1 hq hw1 hS1 => ?_)
    exact h _ _ _ _ _ _ _ _ hq hw1 hS1 hl0 k1 k2
  · exact hk.elim
theorem x_cC {T : Ct} {cc : ByteArray} {nL : Nat} {own : String} {MC MS pc FR LR : Nat} {Qf : State → Prop} (C : Cx T cc nL own MC MS) (CR : CxR T FR LR) {y : MethodName} {cy : ByteArray} {ny n idx : Nat} {rm : Room} {w : Mw} (hM : ∀ l D cA base, Mc l D cA base y cy ny none rm w) (hW : Wd y cy ny n none rm FR LR) (hl : Cond.methodLink own idx y ∈ TT) (hi : Cond.instanceMethod y ∈ TT) (hy : y.name = "<init>") {k : Kt} (d : decode cc pc = .ok (.invokespecial idx, 3)) (h : Sd T nL Qf MC MS (pc + 3) k) : Sd T nL Qf MC MS pc (cC n w rm.cells rm.slots MC MS k) := by
  have cb := CB C CR hW hl
  obtain ⟨p, l, e, R, s, m, args, below, meth, c, D, cA, base⟩ := T
  intro H locs ls lv st S cz zz hk hw hS hl0 hc hz
  obtain ⟨hx, hb, hml, hown, hts, hg, hlk, hRc, hRs⟩ := C
  unfold cC at hk
  split at hk
  · next b As hok hrev =>
    obtain ⟨⟨k1, k2⟩, hk⟩ := hk
    obtain ⟨hst, hln⟩ := st_split hrev (okS_2 hok)
    refine k_run (va_runI (As := As) (b := b) (rest := st.drop (n + 1)) ⟨hx, hb, hml, hown, hts⟩ (hM l D cA base _ _ _ hk) ⟨cb, hy, hts _ hi⟩ ⟨wU_blind, fun U hU hW2 => ⟨rfl, wU_at hg hw hS hU hW2⟩⟩ rfl hln hl0.1 hst (cat8_room (okS_1 hok)) d ⟨by rw [hRc]; exact k1, by rw [hRs]; exact k2⟩) hS (fun v S' H1 locs1 hq hw1 hS1 => ?_)
    exact h _ _ _ _ _ _ _ _ hq hw1 hS1 hl0 k1 k2
  · exact hk.elim
/-- a constructor of a nest mate -/
theorem x_cN {T : Ct} {cc : ByteArray} {nL : Nat} {own : String} {MC MS pc FR LR : Nat} {Qf : State → Prop} (C : Cx T cc nL own MC MS) (CR : CxR T FR LR) {y : MethodName} {cy : ByteArray} {ny n idx : Nat} {rm : Room} {w : Mw} (hM : ∀ l D cA base, Mc l D cA base y cy ny none rm w) (hW : Wd y cy ny n none rm FR LR) (hl : ((own, idx, y) : String × Nat × MethodName) ∈ [((RX1, 28, yX5_init) : String × Nat × MethodName), (RX5, 11, yX6_init), (RX3, 23, yX4_init), (RX4, 9, yX6_init), (RX3, 57, yX2_init)]) (hi : Cond.instanceMethod y ∈ TT) (hy : y.name = "<init>") {k : Kt} (d : decode cc pc = .ok (.invokespecial idx, 3)) (h : Sd T nL Qf MC MS (pc + 3) k) : Sd T nL Qf MC MS pc (cC n w rm.cells rm.slots MC MS k) := by
  obtain ⟨p, l, e, R, s, m, args, below, meth, c, D, cA, base⟩ := T
  intro H locs ls lv st S cz zz hk hw hS hl0 hc hz
  obtain ⟨hx, hb, hml, hown, hts, hg, hlk, hRc, hRs⟩ := C
  obtain ⟨w1, w2, w3, w4, w5⟩ := hW
  unfold cC at hk
  split at hk
  · next b As hok hrev =>
    obtain ⟨⟨k1, k2⟩, hk⟩ := hk
    obtain ⟨hst, hln⟩ := st_split hrev (okS_2 hok)
    refine k_run (va_runIN (host := RX7) (As := As) (b := b) (rest := st.drop (n + 1)) ⟨hx, hb, hml, hown, hts⟩ (hM l D cA base _ _ _ hk) ⟨va_cnB n hts (TT_wsT w1) rfl rfl rfl (hg.2.2.1 _ hl) (hts _ w2) w3 ⟨by rw [CR.1]; exact w4, by rw [CR.2]; exact w5⟩, hy, hts _ hi⟩ ⟨wU_blind, fun U hU hW2 => ⟨rfl, wU_at hg hw hS hU hW2⟩⟩ rfl hln hl0.1 hst (cat8_room (okS_1 hok)) d ⟨by rw [hRc]; exact k1, by rw [hRs]; exact k2⟩) hS (fun v S' H1 locs1 hq hw1 hS1 => ?_)
    exact h _ _ _ _ _ _ _ _ hq hw1 hS1 hl0 k1 k2
  · exact hk.elim
theorem x_oI {T : Ct} {cc : ByteArray} {nL : Nat} {own : String} {MC MS pc FR LR : Nat} {Qf : State → Prop} (C : Cx T cc nL own MC MS) (CR : CxR T FR LR) {idx : Nat} (h1 : 1 ≤ FR) (h2 : 20 ≤ LR) (hl : Cond.methodLink own idx Lib.objectInit ∈ TT) (hi : Cond.instanceMethod Lib.objectInit ∈ TT) (hco : Cond.code Lib.objectInit ⟨#[0xb1]⟩ 1 none ∈ TT) {k : Kt} (d : decode cc pc = .ok (.invokespecial idx, 3)) (h : Sd T nL Qf MC MS (pc + 3) k) : Sd T nL Qf MC MS pc (oI k) := by
  obtain ⟨p, l, e, R, s, m, args, below, meth, c, D, cA, base⟩ := T
  intro H locs ls lv st S cz zz hk hw hS hl0 hc hz
  obtain ⟨hx, hb, hml, hown, hts, hg, hlk, hRc, hRs⟩ := C
  unfold oI at hk
  split at hk
  · next a r =>
    split at hk
    · next hcat =>
      have e1 : R.frames = FR := CR.1
      have e2 : R.locals = LR := CR.2
      have e3 : 2 * (F0 m pc ls (.ref a :: r)).monitorRoom + (r.map fun v => v.category).sum ≤ 8 := cat8_room hcat
      exact W.objInit hx hb hown (hts _ hl) (hts _ hi) (hts _ hco) rfl (hl0.1.trans hml.symm) rfl d (by omega) (by omega) (h _ _ _ _ _ _ _ _ hk hw hS hl0 hc hz)
    · exact hk.elim
  · exact hk.elim
theorem x_mMn {T : Ct} {cc : ByteArray} {nL : Nat} {own : String} {MC MS pc FR LR : Nat} {Qf : State → Prop} (C : Cx T cc nL own MC MS) (CR : CxR T FR LR) {idx : Nat} (h1 : 1 ≤ FR) (h2 : 21 ≤ LR) (hl : Cond.methodLink own idx Lib.Math.min.name ∈ TT) (hs : Cond.static Lib.Math.min.name ∈ TT) (hini : Cond.initialized "java/lang/Math" ∈ TT) (hco : Cond.code Lib.Math.min.name Lib.Math.min.code 2 (some .int) ∈ TT) {k : Kt} (d : decode cc pc = .ok (.invokestatic idx, 3)) (h : Sd T nL Qf MC MS (pc + 3) k) : Sd T nL Qf MC MS pc (mMn k) := by
  obtain ⟨p, l, e, R, s, m, args, below, meth, c, D, cA, base⟩ := T
  intro H locs ls lv st S cz zz hk hw hS hl0 hc hz
  obtain ⟨hx, hb, hml, hown, hts, hg, hlk, hRc, hRs⟩ := C
  unfold mMn at hk
  split at hk
  · next y x r =>
    split at hk
    · next hcat =>
      have e1 : R.frames = FR := CR.1
      have e2 : R.locals = LR := CR.2
      have e3 : (r.map fun v => v.category).sum ≤ 8 := Nat.le_of_ble_eq_true hcat
      exact va_mmin hx hb (hml.trans hl0.1.symm) hown (hts _ hl) (hts _ hs) (hts _ hini) (hts _ hco) (by omega) (by omega) (by omega) (by omega) d (h _ _ _ _ _ _ _ _ hk hw hS hl0 hc hz)
    · exact hk.elim
  · exact hk.elim
theorem x_rI {T : Ct} {cc : ByteArray} {nL : Nat} {own : String} {MC MS pc : Nat} (C : Cx T cc nL own MC MS) {Q : Option Value → MM → Prop} (hr : T.2.2.2.2.2.2.2.2.1.sig.returnType = some .int) (d : decode cc pc = .ok (.ireturn, 1)) : Sd T nL (QT T Q MC MS) MC MS pc (rI Q) := by
  obtain ⟨p, l, e, R, s, m, args, below, meth, c, D, cA, base⟩ := T
  intro H locs ls lv st S cz zz hk hw hS hl hc hz
  obtain ⟨hx, hb, hml, hown, hts, hg, hlk, hRc, hRs⟩ := C
  unfold rI at hk
  split at hk
  · next v =>
    refine W.widen hc hz ?_
    exact W.iret hx hb hr (fun t ht hW => ⟨⟨_, S, rfl, hk, wU_at hg hw hS ht hW⟩, hS.F ht⟩) hS.2.2 d hlk
  · exact hk.elim
theorem x_rZ {T : Ct} {cc : ByteArray} {nL : Nat} {own : String} {MC MS pc : Nat} (C : Cx T cc nL own MC MS) {Q : Option Value → MM → Prop} (hr : T.2.2.2.2.2.2.2.2.1.sig.returnType = some .boolean) (d : decode cc pc = .ok (.ireturn, 1)) : Sd T nL (QT T Q MC MS) MC MS pc (rZ Q) := by
  obtain ⟨p, l, e, R, s, m, args, below, meth, c, D, cA, base⟩ := T
  intro H locs ls lv st S cz zz hk hw hS hl hc hz
  obtain ⟨hx, hb, hml, hown, hts, hg, hlk, hRc, hRs⟩ := C
  unfold rZ at hk
  split at hk
  · next v =>
    obtain ⟨hbv, hk⟩ := hk
    refine W.widen hc hz ?_
    exact W.zret hx hb hr (by rcases hbv with rfl | rfl <;> rfl) (fun t ht hW => ⟨⟨_, S, rfl, hk, wU_at hg hw hS ht hW⟩, hS.F ht⟩) hS.2.2 d hlk
  · exact hk.elim
theorem x_rV {T : Ct} {cc : ByteArray} {nL : Nat} {own : String} {MC MS pc : Nat} (C : Cx T cc nL own MC MS) {Q : Option Value → MM → Prop} (hr : T.2.2.2.2.2.2.2.2.1.sig.returnType = none) (d : decode cc pc = .ok (.return_, 1)) : Sd T nL (QT T Q MC MS) MC MS pc (rV Q) := by
  obtain ⟨p, l, e, R, s, m, args, below, meth, c, D, cA, base⟩ := T
  intro H locs ls lv st S cz zz hk hw hS hl hc hz
  obtain ⟨hx, hb, hml, hown, hts, hg, hlk, hRc, hRs⟩ := C
  unfold rV at hk
  split at hk
  · refine W.widen hc hz ?_
    exact W.vret hx hb hr (fun t ht hW => ⟨⟨_, S, rfl, hk, wU_at hg hw hS ht hW⟩, hS.F ht⟩) hS.2.2 d hlk
  · exact hk.elim
theorem x_rA {T : Ct} {cc : ByteArray} {nL : Nat} {own nm : String} {MC MS pc : Nat} (C : Cx T cc nL own MC MS) {Q : Option Value → MM → Prop} (hr : T.2.2.2.2.2.2.2.2.1.sig.returnType = some (.object nm)) (d : decode cc pc = .ok (.areturn, 1)) : Sd T nL (QT T Q MC MS) MC MS pc (rA Q) := by
  obtain ⟨p, l, e, R, s, m, args, below, meth, c, D, cA, base⟩ := T
  intro H locs ls lv st S cz zz hk hw hS hl hc hz
  obtain ⟨hx, hb, hml, hown, hts, hg, hlk, hRc, hRs⟩ := C
  unfold rA at hk
  split at hk
  · next v =>
    refine W.widen hc hz ?_
    exact W.aret hx hb hr (Or.inl ⟨nm, rfl⟩) (Or.inr ⟨v, rfl⟩) (fun t ht hW => ⟨⟨_, S, rfl, hk, wU_at hg hw hS ht hW⟩, hS.F ht⟩) hS.2.2 d hlk
  · refine W.widen hc hz ?_
    exact W.aret hx hb hr (Or.inl ⟨nm, rfl⟩) (Or.inl rfl) (fun t ht hW => ⟨⟨_, S, rfl, hk, wU_at hg hw hS ht hW⟩, hS.F ht⟩) hS.2.2 d hlk
  · exact hk.elim
/-- blocks, each at its pc, with n steps between blocks left -/
def wpn (b : (Nat → Kt) → Nat → Kt) : Nat → Nat → Kt
  | 0, _ => fun _ _ _ _ _ => False
  | n + 1, pc => b (wpn b n) pc
def mw (nL : Nat) (b : (Option Value → MM → Prop) → (Nat → Kt) → Nat → Kt) : Mw := fun as S Q => match Nat.ble (lg_sl as).length nL with
  | true => ∃ n, wpn (b Q) n 0 (lv_args 0 as) [] S 0 0
  | false => False
/-- a method whose blocks are sound meets its contract -/
theorem mc_of {l : Launch} {D : va_G} {cA : Nat → ClassId} {base : Nat} {y : MethodName} {cc : ByteArray} {nL : Nat} {ret : Option FieldType} {rm : Room} (hy : plainName y.cls = true) (b : (Option Value → MM → Prop) → (Nat → Kt) → Nat → Kt)
    (hb : ∀ (T : Ct) (Q : Option Value → MM → Prop), Cx T cc nL y.cls rm.cells rm.slots → CxR T rm.frames rm.locals → T.2.2.2.2.2.2.2.2.1.sig.returnType = ret → T.2.2.2.2.2.2.2.2.1.name = y.name → ∀ nx : Nat → Kt, (∀ pc, Sd T nL (QT T Q rm.cells rm.slots) rm.cells rm.slots pc (nx pc)) → ∀ pc, Sd T nL (QT T Q rm.cells rm.slots) rm.cells rm.slots pc (b Q nx pc)) : Mc l D cA base y cc nL ret rm (mw nL b) := by
  intro as S Q hwp
  unfold mw at hwp
  split at hwp
  case h_2 => exact hwp.elim
  case h_1 hbl =>
  have hsl : (lg_sl as).length ≤ nL := Nat.le_of_ble_eq_true hbl
  obtain ⟨n, hwp⟩ := hwp
  refine Met.ofW (cc := cc) (maxL := nL) (ret := ret) hy rfl ?_
  intro p e s m args below meth c s₁ B hml hv
  obtain ⟨rfl, hw, hg⟩ := hv
  have hts : ∀ w ∈ wsT y cc nL ret, w.before as.toArray s = true := atoms_spec (ws := wsT y cc nL ret) B.pre
  have hC : Cx (p, l, e, rm, s, m, as.toArray, below, meth, c, D, cA, base) cc nL y.cls rm.cells rm.slots := ⟨B.exec, B.bytes, hml, findClass_of_methodNamed B.named, fun w h => hts w (List.mem_cons_of_mem _ h), hg, B.notSynchronized, rfl, rfl⟩
  have key : ∀ n pc, Sd (p, l, e, rm, s, m, as.toArray, below, meth, c, D, cA, base) nL (QT (p, l, e, rm, s, m, as.toArray, below, meth, c, D, cA, base) Q rm.cells rm.slots) rm.cells rm.slots pc (wpn (b Q) n pc) := by
    intro n
    induction n with
    | zero => intro pc H locs ls lv st S cz zz hk; exact hk.elim
    | succ n ih => intro pc; exact hb _ Q hC ⟨rfl, rfl⟩ B.returns (name_of_methodNamed B.named B.method).1 _ ih pc
  have hl := lv_entry as (n := nL) hsl
  rw [lg_entry_eq]
  generalize (lg_sl as ++ List.replicate (nL - (lg_sl as).length) Slot.unset).toArray = ls at hl ⊢
  exact key n 0 s.heap [] ls (lv_args 0 as) [] S 0 0 hwp hw va_S.rf hl (Nat.zero_le _) (Nat.zero_le _)
end
