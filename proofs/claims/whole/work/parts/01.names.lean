-- ===== PART A: goes FIRST, ahead of the names: the tables' words, and 'selects' of the private methods out of them =====
/-- a private method of a class that the tables say can be made, by its rows of tables_1 -/
def lw_okq (q : MethodName × Nat) : Prop := (q.1.cls ≠ "java/lang/invoke/MethodHandle" ∧ q.1.cls ≠ "java/lang/invoke/VarHandle") ∧ Cond.instantiable q.1.cls q.2 ∈ tables_1 ∧ Cond.privateMethod q.1 ∈ tables_1 ∧ Cond.instanceMethod q.1 ∈ tables_1
theorem lw_p0 : lw_okq (⟨"CoalGrate", "found", "(I)I"⟩, 17) := ⟨⟨by decide +kernel, by decide +kernel⟩, List.mem_of_getElem? (i := 18) (by decide +kernel), List.mem_of_getElem? (i := 345) (by decide +kernel), List.mem_of_getElem? (i := 346) (by decide +kernel)⟩
theorem lw_p1 : lw_okq (⟨"CoalGrate", "answered", "(I)I"⟩, 17) := ⟨⟨by decide +kernel, by decide +kernel⟩, List.mem_of_getElem? (i := 18) (by decide +kernel), List.mem_of_getElem? (i := 354) (by decide +kernel), List.mem_of_getElem? (i := 355) (by decide +kernel)⟩
theorem lw_p2 : lw_okq (⟨"CoalGrate", "remember", "()V"⟩, 17) := ⟨⟨by decide +kernel, by decide +kernel⟩, List.mem_of_getElem? (i := 18) (by decide +kernel), List.mem_of_getElem? (i := 499) (by decide +kernel), List.mem_of_getElem? (i := 500) (by decide +kernel)⟩
theorem lw_p3 : lw_okq (⟨"CoalGrate", "tryAsItLies", "(LCoalGrate$Thing;I)V"⟩, 17) := ⟨⟨by decide +kernel, by decide +kernel⟩, List.mem_of_getElem? (i := 18) (by decide +kernel), List.mem_of_getElem? (i := 696) (by decide +kernel), List.mem_of_getElem? (i := 697) (by decide +kernel)⟩
theorem lw_p4 : lw_okq (⟨"CoalGrate", "readyAt", "(LCoalGrate$Thing;II)I"⟩, 17) := ⟨⟨by decide +kernel, by decide +kernel⟩, List.mem_of_getElem? (i := 18) (by decide +kernel), List.mem_of_getElem? (i := 715) (by decide +kernel), List.mem_of_getElem? (i := 716) (by decide +kernel)⟩
theorem lw_p5 : lw_okq (⟨"CoalGrate", "foretellWarmth", "(II)V"⟩, 17) := ⟨⟨by decide +kernel, by decide +kernel⟩, List.mem_of_getElem? (i := 18) (by decide +kernel), List.mem_of_getElem? (i := 731) (by decide +kernel), List.mem_of_getElem? (i := 732) (by decide +kernel)⟩
theorem lw_p6 : lw_okq (⟨"CoalGrate", "tryFlips", "(IIIIII)V"⟩, 17) := ⟨⟨by decide +kernel, by decide +kernel⟩, List.mem_of_getElem? (i := 18) (by decide +kernel), List.mem_of_getElem? (i := 735) (by decide +kernel), List.mem_of_getElem? (i := 736) (by decide +kernel)⟩
theorem lw_p7 : lw_okq (⟨"CoalGrate", "isBetterWay", "(I)Z"⟩, 17) := ⟨⟨by decide +kernel, by decide +kernel⟩, List.mem_of_getElem? (i := 18) (by decide +kernel), List.mem_of_getElem? (i := 739) (by decide +kernel), List.mem_of_getElem? (i := 740) (by decide +kernel)⟩
theorem lw_p8 : lw_okq (⟨"CoalGrate", "tryMinute", "(IIIIII)V"⟩, 17) := ⟨⟨by decide +kernel, by decide +kernel⟩, List.mem_of_getElem? (i := 18) (by decide +kernel), List.mem_of_getElem? (i := 749) (by decide +kernel), List.mem_of_getElem? (i := 750) (by decide +kernel)⟩
theorem lw_p9 : lw_okq (⟨"CoalGrate", "isDoneStarting", "(LCoalGrate$Thing;III)Z"⟩, 17) := ⟨⟨by decide +kernel, by decide +kernel⟩, List.mem_of_getElem? (i := 18) (by decide +kernel), List.mem_of_getElem? (i := 758) (by decide +kernel), List.mem_of_getElem? (i := 759) (by decide +kernel)⟩
theorem lw_p10 : lw_okq (⟨"CoalGrate", "isDoneWithCoal", "(LCoalGrate$Thing;II)Z"⟩, 17) := ⟨⟨by decide +kernel, by decide +kernel⟩, List.mem_of_getElem? (i := 18) (by decide +kernel), List.mem_of_getElem? (i := 767) (by decide +kernel), List.mem_of_getElem? (i := 768) (by decide +kernel)⟩
theorem lw_p11 : lw_okq (⟨"CoalGrate", "doneAhead", "(I)I"⟩, 17) := ⟨⟨by decide +kernel, by decide +kernel⟩, List.mem_of_getElem? (i := 18) (by decide +kernel), List.mem_of_getElem? (i := 777) (by decide +kernel), List.mem_of_getElem? (i := 778) (by decide +kernel)⟩
theorem lw_p12 : lw_okq (⟨"CoalGrate", "firstFor", "(III)I"⟩, 17) := ⟨⟨by decide +kernel, by decide +kernel⟩, List.mem_of_getElem? (i := 18) (by decide +kernel), List.mem_of_getElem? (i := 781) (by decide +kernel), List.mem_of_getElem? (i := 782) (by decide +kernel)⟩
theorem lw_p13 : lw_okq (⟨"CoalGrate", "tryWholeYard", "()V"⟩, 17) := ⟨⟨by decide +kernel, by decide +kernel⟩, List.mem_of_getElem? (i := 18) (by decide +kernel), List.mem_of_getElem? (i := 789) (by decide +kernel), List.mem_of_getElem? (i := 790) (by decide +kernel)⟩
theorem lw_p14 : lw_okq (⟨"CoalGrate", "tellsTurns", "(III)Z"⟩, 17) := ⟨⟨by decide +kernel, by decide +kernel⟩, List.mem_of_getElem? (i := 18) (by decide +kernel), List.mem_of_getElem? (i := 810) (by decide +kernel), List.mem_of_getElem? (i := 811) (by decide +kernel)⟩
theorem lw_p15 : lw_okq (⟨"CoalGrateModel", "found", "(I)I"⟩, 24) := ⟨⟨by decide +kernel, by decide +kernel⟩, List.mem_of_getElem? (i := 923) (by decide +kernel), List.mem_of_getElem? (i := 1014) (by decide +kernel), List.mem_of_getElem? (i := 1015) (by decide +kernel)⟩
def lw_privs_1 : List (MethodName × Nat) := [(⟨"CoalGrate", "found", "(I)I"⟩, 17), (⟨"CoalGrate", "answered", "(I)I"⟩, 17), (⟨"CoalGrate", "remember", "()V"⟩, 17), (⟨"CoalGrate", "tryAsItLies", "(LCoalGrate$Thing;I)V"⟩, 17), (⟨"CoalGrate", "readyAt", "(LCoalGrate$Thing;II)I"⟩, 17), (⟨"CoalGrate", "foretellWarmth", "(II)V"⟩, 17), (⟨"CoalGrate", "tryFlips", "(IIIIII)V"⟩, 17), (⟨"CoalGrate", "isBetterWay", "(I)Z"⟩, 17), (⟨"CoalGrate", "tryMinute", "(IIIIII)V"⟩, 17), (⟨"CoalGrate", "isDoneStarting", "(LCoalGrate$Thing;III)Z"⟩, 17), (⟨"CoalGrate", "isDoneWithCoal", "(LCoalGrate$Thing;II)Z"⟩, 17), (⟨"CoalGrate", "doneAhead", "(I)I"⟩, 17), (⟨"CoalGrate", "firstFor", "(III)I"⟩, 17), (⟨"CoalGrate", "tryWholeYard", "()V"⟩, 17), (⟨"CoalGrate", "tellsTurns", "(III)Z"⟩, 17), (⟨"CoalGrateModel", "found", "(I)I"⟩, 24)]
theorem lw_r1 : ∀ q ∈ lw_privs_1, lw_okq q := List.forall_mem_cons.mpr ⟨lw_p0, List.forall_mem_cons.mpr ⟨lw_p1, List.forall_mem_cons.mpr ⟨lw_p2, List.forall_mem_cons.mpr ⟨lw_p3, List.forall_mem_cons.mpr ⟨lw_p4, List.forall_mem_cons.mpr ⟨lw_p5, List.forall_mem_cons.mpr ⟨lw_p6, List.forall_mem_cons.mpr ⟨lw_p7, List.forall_mem_cons.mpr ⟨lw_p8, List.forall_mem_cons.mpr ⟨lw_p9, List.forall_mem_cons.mpr ⟨lw_p10, List.forall_mem_cons.mpr ⟨lw_p11, List.forall_mem_cons.mpr ⟨lw_p12, List.forall_mem_cons.mpr ⟨lw_p13, List.forall_mem_cons.mpr ⟨lw_p14, List.forall_mem_cons.mpr ⟨lw_p15, fun _ h => absurd h List.not_mem_nil⟩⟩⟩⟩⟩⟩⟩⟩⟩⟩⟩⟩⟩⟩⟩⟩
theorem lw_p16 : lw_okq (⟨"CoalGrateModel", "well", "(I)I"⟩, 24) := ⟨⟨by decide +kernel, by decide +kernel⟩, List.mem_of_getElem? (i := 923) (by decide +kernel), List.mem_of_getElem? (i := 1019) (by decide +kernel), List.mem_of_getElem? (i := 1020) (by decide +kernel)⟩
theorem lw_p17 : lw_okq (⟨"CoalGrateModel", "isSpan", "(III)Z"⟩, 24) := ⟨⟨by decide +kernel, by decide +kernel⟩, List.mem_of_getElem? (i := 923) (by decide +kernel), List.mem_of_getElem? (i := 1031) (by decide +kernel), List.mem_of_getElem? (i := 1032) (by decide +kernel)⟩
theorem lw_p18 : lw_okq (⟨"CoalGrateModel", "next", "()V"⟩, 24) := ⟨⟨by decide +kernel, by decide +kernel⟩, List.mem_of_getElem? (i := 923) (by decide +kernel), List.mem_of_getElem? (i := 1048) (by decide +kernel), List.mem_of_getElem? (i := 1049) (by decide +kernel)⟩
theorem lw_p19 : lw_okq (⟨"CoalGrateModel", "byteAt", "(I)I"⟩, 24) := ⟨⟨by decide +kernel, by decide +kernel⟩, List.mem_of_getElem? (i := 923) (by decide +kernel), List.mem_of_getElem? (i := 1052) (by decide +kernel), List.mem_of_getElem? (i := 1053) (by decide +kernel)⟩
theorem lw_p20 : lw_okq (⟨"CoalGrateModel", "readGrate", "()V"⟩, 24) := ⟨⟨by decide +kernel, by decide +kernel⟩, List.mem_of_getElem? (i := 923) (by decide +kernel), List.mem_of_getElem? (i := 1056) (by decide +kernel), List.mem_of_getElem? (i := 1057) (by decide +kernel)⟩
theorem lw_p21 : lw_okq (⟨"CoalGrateModel", "must", "(ZI)V"⟩, 24) := ⟨⟨by decide +kernel, by decide +kernel⟩, List.mem_of_getElem? (i := 923) (by decide +kernel), List.mem_of_getElem? (i := 1060) (by decide +kernel), List.mem_of_getElem? (i := 1061) (by decide +kernel)⟩
theorem lw_p22 : lw_okq (⟨"CoalGrateModel", "goesOn", "()V"⟩, 24) := ⟨⟨by decide +kernel, by decide +kernel⟩, List.mem_of_getElem? (i := 923) (by decide +kernel), List.mem_of_getElem? (i := 1064) (by decide +kernel), List.mem_of_getElem? (i := 1065) (by decide +kernel)⟩
theorem lw_p23 : lw_okq (⟨"CoalGrateModel", "readNumber", "(II)I"⟩, 24) := ⟨⟨by decide +kernel, by decide +kernel⟩, List.mem_of_getElem? (i := 923) (by decide +kernel), List.mem_of_getElem? (i := 1068) (by decide +kernel), List.mem_of_getElem? (i := 1069) (by decide +kernel)⟩
theorem lw_p24 : lw_okq (⟨"CoalGrateModel", "readSign", "(I)V"⟩, 24) := ⟨⟨by decide +kernel, by decide +kernel⟩, List.mem_of_getElem? (i := 923) (by decide +kernel), List.mem_of_getElem? (i := 1072) (by decide +kernel), List.mem_of_getElem? (i := 1073) (by decide +kernel)⟩
theorem lw_p25 : lw_okq (⟨"CoalGrateModel", "isLetter", "(I)Z"⟩, 24) := ⟨⟨by decide +kernel, by decide +kernel⟩, List.mem_of_getElem? (i := 923) (by decide +kernel), List.mem_of_getElem? (i := 1076) (by decide +kernel), List.mem_of_getElem? (i := 1077) (by decide +kernel)⟩
theorem lw_p26 : lw_okq (⟨"CoalGrateModel", "readCoal", "()V"⟩, 24) := ⟨⟨by decide +kernel, by decide +kernel⟩, List.mem_of_getElem? (i := 923) (by decide +kernel), List.mem_of_getElem? (i := 1080) (by decide +kernel), List.mem_of_getElem? (i := 1081) (by decide +kernel)⟩
theorem lw_p27 : lw_okq (⟨"CoalGrateModel", "isSort", "()Z"⟩, 24) := ⟨⟨by decide +kernel, by decide +kernel⟩, List.mem_of_getElem? (i := 923) (by decide +kernel), List.mem_of_getElem? (i := 1084) (by decide +kernel), List.mem_of_getElem? (i := 1085) (by decide +kernel)⟩
theorem lw_p28 : lw_okq (⟨"CoalGrateModel", "sortOf", "(I)I"⟩, 24) := ⟨⟨by decide +kernel, by decide +kernel⟩, List.mem_of_getElem? (i := 923) (by decide +kernel), List.mem_of_getElem? (i := 1088) (by decide +kernel), List.mem_of_getElem? (i := 1089) (by decide +kernel)⟩
theorem lw_p29 : lw_okq (⟨"CoalGrateModel", "readThing", "()V"⟩, 24) := ⟨⟨by decide +kernel, by decide +kernel⟩, List.mem_of_getElem? (i := 923) (by decide +kernel), List.mem_of_getElem? (i := 1092) (by decide +kernel), List.mem_of_getElem? (i := 1093) (by decide +kernel)⟩
theorem lw_p30 : lw_okq (⟨"CoalGrateModel", "isTold", "(I)Z"⟩, 24) := ⟨⟨by decide +kernel, by decide +kernel⟩, List.mem_of_getElem? (i := 923) (by decide +kernel), List.mem_of_getElem? (i := 1096) (by decide +kernel), List.mem_of_getElem? (i := 1097) (by decide +kernel)⟩
theorem lw_p31 : lw_okq (⟨"CoalGrateModel", "readEater", "()V"⟩, 24) := ⟨⟨by decide +kernel, by decide +kernel⟩, List.mem_of_getElem? (i := 923) (by decide +kernel), List.mem_of_getElem? (i := 1100) (by decide +kernel), List.mem_of_getElem? (i := 1101) (by decide +kernel)⟩
def lw_privs_2 : List (MethodName × Nat) := [(⟨"CoalGrateModel", "well", "(I)I"⟩, 24), (⟨"CoalGrateModel", "isSpan", "(III)Z"⟩, 24), (⟨"CoalGrateModel", "next", "()V"⟩, 24), (⟨"CoalGrateModel", "byteAt", "(I)I"⟩, 24), (⟨"CoalGrateModel", "readGrate", "()V"⟩, 24), (⟨"CoalGrateModel", "must", "(ZI)V"⟩, 24), (⟨"CoalGrateModel", "goesOn", "()V"⟩, 24), (⟨"CoalGrateModel", "readNumber", "(II)I"⟩, 24), (⟨"CoalGrateModel", "readSign", "(I)V"⟩, 24), (⟨"CoalGrateModel", "isLetter", "(I)Z"⟩, 24), (⟨"CoalGrateModel", "readCoal", "()V"⟩, 24), (⟨"CoalGrateModel", "isSort", "()Z"⟩, 24), (⟨"CoalGrateModel", "sortOf", "(I)I"⟩, 24), (⟨"CoalGrateModel", "readThing", "()V"⟩, 24), (⟨"CoalGrateModel", "isTold", "(I)Z"⟩, 24), (⟨"CoalGrateModel", "readEater", "()V"⟩, 24)]
theorem lw_r2 : ∀ q ∈ lw_privs_2, lw_okq q := List.forall_mem_cons.mpr ⟨lw_p16, List.forall_mem_cons.mpr ⟨lw_p17, List.forall_mem_cons.mpr ⟨lw_p18, List.forall_mem_cons.mpr ⟨lw_p19, List.forall_mem_cons.mpr ⟨lw_p20, List.forall_mem_cons.mpr ⟨lw_p21, List.forall_mem_cons.mpr ⟨lw_p22, List.forall_mem_cons.mpr ⟨lw_p23, List.forall_mem_cons.mpr ⟨lw_p24, List.forall_mem_cons.mpr ⟨lw_p25, List.forall_mem_cons.mpr ⟨lw_p26, List.forall_mem_cons.mpr ⟨lw_p27, List.forall_mem_cons.mpr ⟨lw_p28, List.forall_mem_cons.mpr ⟨lw_p29, List.forall_mem_cons.mpr ⟨lw_p30, List.forall_mem_cons.mpr ⟨lw_p31, fun _ h => absurd h List.not_mem_nil⟩⟩⟩⟩⟩⟩⟩⟩⟩⟩⟩⟩⟩⟩⟩⟩
theorem lw_p32 : lw_okq (⟨"CoalGrateModel", "isYard", "()Z"⟩, 24) := ⟨⟨by decide +kernel, by decide +kernel⟩, List.mem_of_getElem? (i := 923) (by decide +kernel), List.mem_of_getElem? (i := 1113) (by decide +kernel), List.mem_of_getElem? (i := 1114) (by decide +kernel)⟩
theorem lw_p33 : lw_okq (⟨"CoalGrateModel", "remembers", "()V"⟩, 24) := ⟨⟨by decide +kernel, by decide +kernel⟩, List.mem_of_getElem? (i := 923) (by decide +kernel), List.mem_of_getElem? (i := 1118) (by decide +kernel), List.mem_of_getElem? (i := 1119) (by decide +kernel)⟩
theorem lw_p34 : lw_okq (⟨"CoalGrateModel", "goMinute", "()V"⟩, 24) := ⟨⟨by decide +kernel, by decide +kernel⟩, List.mem_of_getElem? (i := 923) (by decide +kernel), List.mem_of_getElem? (i := 1122) (by decide +kernel), List.mem_of_getElem? (i := 1123) (by decide +kernel)⟩
theorem lw_p35 : lw_okq (⟨"CoalGrateModel", "isOn", "(I)Z"⟩, 24) := ⟨⟨by decide +kernel, by decide +kernel⟩, List.mem_of_getElem? (i := 923) (by decide +kernel), List.mem_of_getElem? (i := 1126) (by decide +kernel), List.mem_of_getElem? (i := 1127) (by decide +kernel)⟩
theorem lw_p36 : lw_okq (⟨"CoalGrateModel", "heatOf", "(I)I"⟩, 24) := ⟨⟨by decide +kernel, by decide +kernel⟩, List.mem_of_getElem? (i := 923) (by decide +kernel), List.mem_of_getElem? (i := 1130) (by decide +kernel), List.mem_of_getElem? (i := 1131) (by decide +kernel)⟩
theorem lw_p37 : lw_okq (⟨"CoalGrateModel", "below", "(I)I"⟩, 24) := ⟨⟨by decide +kernel, by decide +kernel⟩, List.mem_of_getElem? (i := 923) (by decide +kernel), List.mem_of_getElem? (i := 1143) (by decide +kernel), List.mem_of_getElem? (i := 1144) (by decide +kernel)⟩
theorem lw_p38 : lw_okq (⟨"CoalGrateModel", "isGone", "(I)Z"⟩, 24) := ⟨⟨by decide +kernel, by decide +kernel⟩, List.mem_of_getElem? (i := 923) (by decide +kernel), List.mem_of_getElem? (i := 1147) (by decide +kernel), List.mem_of_getElem? (i := 1148) (by decide +kernel)⟩
theorem lw_p39 : lw_okq (⟨"CoalGrateModel", "goThing", "(I)V"⟩, 24) := ⟨⟨by decide +kernel, by decide +kernel⟩, List.mem_of_getElem? (i := 923) (by decide +kernel), List.mem_of_getElem? (i := 1151) (by decide +kernel), List.mem_of_getElem? (i := 1152) (by decide +kernel)⟩
theorem lw_p40 : lw_okq (⟨"CoalGrateModel", "thick", "(I)I"⟩, 24) := ⟨⟨by decide +kernel, by decide +kernel⟩, List.mem_of_getElem? (i := 923) (by decide +kernel), List.mem_of_getElem? (i := 1158) (by decide +kernel), List.mem_of_getElem? (i := 1159) (by decide +kernel)⟩
theorem lw_p41 : lw_okq (⟨"CoalGrateModel", "limit", "(I)I"⟩, 24) := ⟨⟨by decide +kernel, by decide +kernel⟩, List.mem_of_getElem? (i := 923) (by decide +kernel), List.mem_of_getElem? (i := 1162) (by decide +kernel), List.mem_of_getElem? (i := 1163) (by decide +kernel)⟩
theorem lw_p42 : lw_okq (⟨"CoalGrateModel", "isThing", "(I)Z"⟩, 24) := ⟨⟨by decide +kernel, by decide +kernel⟩, List.mem_of_getElem? (i := 923) (by decide +kernel), List.mem_of_getElem? (i := 1170) (by decide +kernel), List.mem_of_getElem? (i := 1171) (by decide +kernel)⟩
theorem lw_p43 : lw_okq (⟨"CoalGrateModel", "isTaken", "(II)Z"⟩, 24) := ⟨⟨by decide +kernel, by decide +kernel⟩, List.mem_of_getElem? (i := 923) (by decide +kernel), List.mem_of_getElem? (i := 1178) (by decide +kernel), List.mem_of_getElem? (i := 1179) (by decide +kernel)⟩
theorem lw_p44 : lw_okq (⟨"CoalGrateModel", "adds", "(II)V"⟩, 24) := ⟨⟨by decide +kernel, by decide +kernel⟩, List.mem_of_getElem? (i := 923) (by decide +kernel), List.mem_of_getElem? (i := 1186) (by decide +kernel), List.mem_of_getElem? (i := 1187) (by decide +kernel)⟩
theorem lw_p45 : lw_okq (⟨"CoalGrateModel", "isWell", "(I)Z"⟩, 24) := ⟨⟨by decide +kernel, by decide +kernel⟩, List.mem_of_getElem? (i := 923) (by decide +kernel), List.mem_of_getElem? (i := 1198) (by decide +kernel), List.mem_of_getElem? (i := 1199) (by decide +kernel)⟩
theorem lw_p46 : lw_okq (⟨"CoalGrateModel", "isThrough", "(I)Z"⟩, 24) := ⟨⟨by decide +kernel, by decide +kernel⟩, List.mem_of_getElem? (i := 923) (by decide +kernel), List.mem_of_getElem? (i := 1202) (by decide +kernel), List.mem_of_getElem? (i := 1203) (by decide +kernel)⟩
theorem lw_p47 : lw_okq (⟨"CoalGrateModel", "need", "(I)I"⟩, 24) := ⟨⟨by decide +kernel, by decide +kernel⟩, List.mem_of_getElem? (i := 923) (by decide +kernel), List.mem_of_getElem? (i := 1206) (by decide +kernel), List.mem_of_getElem? (i := 1207) (by decide +kernel)⟩
def lw_privs_3 : List (MethodName × Nat) := [(⟨"CoalGrateModel", "isYard", "()Z"⟩, 24), (⟨"CoalGrateModel", "remembers", "()V"⟩, 24), (⟨"CoalGrateModel", "goMinute", "()V"⟩, 24), (⟨"CoalGrateModel", "isOn", "(I)Z"⟩, 24), (⟨"CoalGrateModel", "heatOf", "(I)I"⟩, 24), (⟨"CoalGrateModel", "below", "(I)I"⟩, 24), (⟨"CoalGrateModel", "isGone", "(I)Z"⟩, 24), (⟨"CoalGrateModel", "goThing", "(I)V"⟩, 24), (⟨"CoalGrateModel", "thick", "(I)I"⟩, 24), (⟨"CoalGrateModel", "limit", "(I)I"⟩, 24), (⟨"CoalGrateModel", "isThing", "(I)Z"⟩, 24), (⟨"CoalGrateModel", "isTaken", "(II)Z"⟩, 24), (⟨"CoalGrateModel", "adds", "(II)V"⟩, 24), (⟨"CoalGrateModel", "isWell", "(I)Z"⟩, 24), (⟨"CoalGrateModel", "isThrough", "(I)Z"⟩, 24), (⟨"CoalGrateModel", "need", "(I)I"⟩, 24)]
theorem lw_r3 : ∀ q ∈ lw_privs_3, lw_okq q := List.forall_mem_cons.mpr ⟨lw_p32, List.forall_mem_cons.mpr ⟨lw_p33, List.forall_mem_cons.mpr ⟨lw_p34, List.forall_mem_cons.mpr ⟨lw_p35, List.forall_mem_cons.mpr ⟨lw_p36, List.forall_mem_cons.mpr ⟨lw_p37, List.forall_mem_cons.mpr ⟨lw_p38, List.forall_mem_cons.mpr ⟨lw_p39, List.forall_mem_cons.mpr ⟨lw_p40, List.forall_mem_cons.mpr ⟨lw_p41, List.forall_mem_cons.mpr ⟨lw_p42, List.forall_mem_cons.mpr ⟨lw_p43, List.forall_mem_cons.mpr ⟨lw_p44, List.forall_mem_cons.mpr ⟨lw_p45, List.forall_mem_cons.mpr ⟨lw_p46, List.forall_mem_cons.mpr ⟨lw_p47, fun _ h => absurd h List.not_mem_nil⟩⟩⟩⟩⟩⟩⟩⟩⟩⟩⟩⟩⟩⟩⟩⟩
theorem lw_p48 : lw_okq (⟨"CoalGrateModel", "servedNow", "()I"⟩, 24) := ⟨⟨by decide +kernel, by decide +kernel⟩, List.mem_of_getElem? (i := 923) (by decide +kernel), List.mem_of_getElem? (i := 1210) (by decide +kernel), List.mem_of_getElem? (i := 1211) (by decide +kernel)⟩
theorem lw_p49 : lw_okq (⟨"CoalGrateModel", "holds", "()V"⟩, 24) := ⟨⟨by decide +kernel, by decide +kernel⟩, List.mem_of_getElem? (i := 923) (by decide +kernel), List.mem_of_getElem? (i := 1238) (by decide +kernel), List.mem_of_getElem? (i := 1239) (by decide +kernel)⟩
theorem lw_p50 : lw_okq (⟨"CoalGrateModel", "go", "(I)V"⟩, 24) := ⟨⟨by decide +kernel, by decide +kernel⟩, List.mem_of_getElem? (i := 923) (by decide +kernel), List.mem_of_getElem? (i := 1242) (by decide +kernel), List.mem_of_getElem? (i := 1243) (by decide +kernel)⟩
theorem lw_p51 : lw_okq (⟨"CoalGrateModel", "above", "(I)I"⟩, 24) := ⟨⟨by decide +kernel, by decide +kernel⟩, List.mem_of_getElem? (i := 923) (by decide +kernel), List.mem_of_getElem? (i := 1246) (by decide +kernel), List.mem_of_getElem? (i := 1247) (by decide +kernel)⟩
theorem lw_p52 : lw_okq (⟨"CoalGrateModel", "putsBack", "()V"⟩, 24) := ⟨⟨by decide +kernel, by decide +kernel⟩, List.mem_of_getElem? (i := 923) (by decide +kernel), List.mem_of_getElem? (i := 1250) (by decide +kernel), List.mem_of_getElem? (i := 1251) (by decide +kernel)⟩
theorem lw_p53 : lw_okq (⟨"CoalGrateModel", "readyIn", "(II)I"⟩, 24) := ⟨⟨by decide +kernel, by decide +kernel⟩, List.mem_of_getElem? (i := 923) (by decide +kernel), List.mem_of_getElem? (i := 1262) (by decide +kernel), List.mem_of_getElem? (i := 1263) (by decide +kernel)⟩
theorem lw_p54 : lw_okq (⟨"CoalGrateModel", "isWellBy", "(III)Z"⟩, 24) := ⟨⟨by decide +kernel, by decide +kernel⟩, List.mem_of_getElem? (i := 923) (by decide +kernel), List.mem_of_getElem? (i := 1281) (by decide +kernel), List.mem_of_getElem? (i := 1282) (by decide +kernel)⟩
theorem lw_p55 : lw_okq (⟨"CoalGrateModel", "most", "(III)I"⟩, 24) := ⟨⟨by decide +kernel, by decide +kernel⟩, List.mem_of_getElem? (i := 923) (by decide +kernel), List.mem_of_getElem? (i := 1297) (by decide +kernel), List.mem_of_getElem? (i := 1298) (by decide +kernel)⟩
theorem lw_p56 : lw_okq (⟨"CoalGrateModel", "mayGet", "(III)Z"⟩, 24) := ⟨⟨by decide +kernel, by decide +kernel⟩, List.mem_of_getElem? (i := 923) (by decide +kernel), List.mem_of_getElem? (i := 1304) (by decide +kernel), List.mem_of_getElem? (i := 1305) (by decide +kernel)⟩
theorem lw_p57 : lw_okq (⟨"CoalGrateModel", "handles", "()I"⟩, 24) := ⟨⟨by decide +kernel, by decide +kernel⟩, List.mem_of_getElem? (i := 923) (by decide +kernel), List.mem_of_getElem? (i := 1312) (by decide +kernel), List.mem_of_getElem? (i := 1313) (by decide +kernel)⟩
theorem lw_p58 : lw_okq (⟨"CoalGrateModel", "setOf", "(Z)I"⟩, 24) := ⟨⟨by decide +kernel, by decide +kernel⟩, List.mem_of_getElem? (i := 923) (by decide +kernel), List.mem_of_getElem? (i := 1316) (by decide +kernel), List.mem_of_getElem? (i := 1317) (by decide +kernel)⟩
theorem lw_p59 : lw_okq (⟨"CoalGrateModel", "areItems", "(III)Z"⟩, 24) := ⟨⟨by decide +kernel, by decide +kernel⟩, List.mem_of_getElem? (i := 923) (by decide +kernel), List.mem_of_getElem? (i := 1324) (by decide +kernel), List.mem_of_getElem? (i := 1325) (by decide +kernel)⟩
theorem lw_p60 : lw_okq (⟨"CoalGrateModel", "fireNow", "()I"⟩, 24) := ⟨⟨by decide +kernel, by decide +kernel⟩, List.mem_of_getElem? (i := 923) (by decide +kernel), List.mem_of_getElem? (i := 1332) (by decide +kernel), List.mem_of_getElem? (i := 1333) (by decide +kernel)⟩
theorem lw_p61 : lw_okq (⟨"CoalGrateModel", "sizeOf", "(I)I"⟩, 24) := ⟨⟨by decide +kernel, by decide +kernel⟩, List.mem_of_getElem? (i := 923) (by decide +kernel), List.mem_of_getElem? (i := 1356) (by decide +kernel), List.mem_of_getElem? (i := 1357) (by decide +kernel)⟩
theorem lw_p62 : lw_okq (⟨"CoalGrateModel", "sizeOfCheese", "(I)I"⟩, 24) := ⟨⟨by decide +kernel, by decide +kernel⟩, List.mem_of_getElem? (i := 923) (by decide +kernel), List.mem_of_getElem? (i := 1360) (by decide +kernel), List.mem_of_getElem? (i := 1361) (by decide +kernel)⟩
theorem lw_p63 : lw_okq (⟨"CoalGrateModel", "begins", "(I)V"⟩, 24) := ⟨⟨by decide +kernel, by decide +kernel⟩, List.mem_of_getElem? (i := 923) (by decide +kernel), List.mem_of_getElem? (i := 1364) (by decide +kernel), List.mem_of_getElem? (i := 1365) (by decide +kernel)⟩
def lw_privs_4 : List (MethodName × Nat) := [(⟨"CoalGrateModel", "servedNow", "()I"⟩, 24), (⟨"CoalGrateModel", "holds", "()V"⟩, 24), (⟨"CoalGrateModel", "go", "(I)V"⟩, 24), (⟨"CoalGrateModel", "above", "(I)I"⟩, 24), (⟨"CoalGrateModel", "putsBack", "()V"⟩, 24), (⟨"CoalGrateModel", "readyIn", "(II)I"⟩, 24), (⟨"CoalGrateModel", "isWellBy", "(III)Z"⟩, 24), (⟨"CoalGrateModel", "most", "(III)I"⟩, 24), (⟨"CoalGrateModel", "mayGet", "(III)Z"⟩, 24), (⟨"CoalGrateModel", "handles", "()I"⟩, 24), (⟨"CoalGrateModel", "setOf", "(Z)I"⟩, 24), (⟨"CoalGrateModel", "areItems", "(III)Z"⟩, 24), (⟨"CoalGrateModel", "fireNow", "()I"⟩, 24), (⟨"CoalGrateModel", "sizeOf", "(I)I"⟩, 24), (⟨"CoalGrateModel", "sizeOfCheese", "(I)I"⟩, 24), (⟨"CoalGrateModel", "begins", "(I)V"⟩, 24)]
theorem lw_r4 : ∀ q ∈ lw_privs_4, lw_okq q := List.forall_mem_cons.mpr ⟨lw_p48, List.forall_mem_cons.mpr ⟨lw_p49, List.forall_mem_cons.mpr ⟨lw_p50, List.forall_mem_cons.mpr ⟨lw_p51, List.forall_mem_cons.mpr ⟨lw_p52, List.forall_mem_cons.mpr ⟨lw_p53, List.forall_mem_cons.mpr ⟨lw_p54, List.forall_mem_cons.mpr ⟨lw_p55, List.forall_mem_cons.mpr ⟨lw_p56, List.forall_mem_cons.mpr ⟨lw_p57, List.forall_mem_cons.mpr ⟨lw_p58, List.forall_mem_cons.mpr ⟨lw_p59, List.forall_mem_cons.mpr ⟨lw_p60, List.forall_mem_cons.mpr ⟨lw_p61, List.forall_mem_cons.mpr ⟨lw_p62, List.forall_mem_cons.mpr ⟨lw_p63, fun _ h => absurd h List.not_mem_nil⟩⟩⟩⟩⟩⟩⟩⟩⟩⟩⟩⟩⟩⟩⟩⟩
theorem lw_p64 : lw_okq (⟨"CoalGrateModel", "cheeseSize", "(I)I"⟩, 24) := ⟨⟨by decide +kernel, by decide +kernel⟩, List.mem_of_getElem? (i := 923) (by decide +kernel), List.mem_of_getElem? (i := 1368) (by decide +kernel), List.mem_of_getElem? (i := 1369) (by decide +kernel)⟩
theorem lw_p65 : lw_okq (⟨"CoalGrateModel", "lentSize", "(I)I"⟩, 24) := ⟨⟨by decide +kernel, by decide +kernel⟩, List.mem_of_getElem? (i := 923) (by decide +kernel), List.mem_of_getElem? (i := 1372) (by decide +kernel), List.mem_of_getElem? (i := 1373) (by decide +kernel)⟩
theorem lw_p66 : lw_okq (⟨"CoalGrateModel", "sausageSize", "(I)I"⟩, 24) := ⟨⟨by decide +kernel, by decide +kernel⟩, List.mem_of_getElem? (i := 923) (by decide +kernel), List.mem_of_getElem? (i := 1376) (by decide +kernel), List.mem_of_getElem? (i := 1377) (by decide +kernel)⟩
theorem lw_p67 : lw_okq (⟨"CoalGrateModel", "markOfSausages", "(I)I"⟩, 24) := ⟨⟨by decide +kernel, by decide +kernel⟩, List.mem_of_getElem? (i := 923) (by decide +kernel), List.mem_of_getElem? (i := 1380) (by decide +kernel), List.mem_of_getElem? (i := 1381) (by decide +kernel)⟩
theorem lw_p68 : lw_okq (⟨"CoalGrateModel", "sausageMark", "(I)I"⟩, 24) := ⟨⟨by decide +kernel, by decide +kernel⟩, List.mem_of_getElem? (i := 923) (by decide +kernel), List.mem_of_getElem? (i := 1384) (by decide +kernel), List.mem_of_getElem? (i := 1385) (by decide +kernel)⟩
theorem lw_p69 : lw_okq (⟨"CoalGrateModel", "lentMark", "(I)I"⟩, 24) := ⟨⟨by decide +kernel, by decide +kernel⟩, List.mem_of_getElem? (i := 923) (by decide +kernel), List.mem_of_getElem? (i := 1388) (by decide +kernel), List.mem_of_getElem? (i := 1389) (by decide +kernel)⟩
theorem lw_p70 : lw_okq (⟨"CoalGrateModel", "markOf", "(I)I"⟩, 24) := ⟨⟨by decide +kernel, by decide +kernel⟩, List.mem_of_getElem? (i := 923) (by decide +kernel), List.mem_of_getElem? (i := 1392) (by decide +kernel), List.mem_of_getElem? (i := 1393) (by decide +kernel)⟩
def lw_privs_5 : List (MethodName × Nat) := [(⟨"CoalGrateModel", "cheeseSize", "(I)I"⟩, 24), (⟨"CoalGrateModel", "lentSize", "(I)I"⟩, 24), (⟨"CoalGrateModel", "sausageSize", "(I)I"⟩, 24), (⟨"CoalGrateModel", "markOfSausages", "(I)I"⟩, 24), (⟨"CoalGrateModel", "sausageMark", "(I)I"⟩, 24), (⟨"CoalGrateModel", "lentMark", "(I)I"⟩, 24), (⟨"CoalGrateModel", "markOf", "(I)I"⟩, 24)]
theorem lw_r5 : ∀ q ∈ lw_privs_5, lw_okq q := List.forall_mem_cons.mpr ⟨lw_p64, List.forall_mem_cons.mpr ⟨lw_p65, List.forall_mem_cons.mpr ⟨lw_p66, List.forall_mem_cons.mpr ⟨lw_p67, List.forall_mem_cons.mpr ⟨lw_p68, List.forall_mem_cons.mpr ⟨lw_p69, List.forall_mem_cons.mpr ⟨lw_p70, fun _ h => absurd h List.not_mem_nil⟩⟩⟩⟩⟩⟩⟩
def lw_privs : List (MethodName × Nat) := lw_privs_1 ++ (lw_privs_2 ++ (lw_privs_3 ++ (lw_privs_4 ++ (lw_privs_5))))
def lw_tbl : List Cond := k2_sels lw_privs ++ tables_1
theorem lw_privs_ok : ∀ q ∈ lw_privs, lw_okq q := by
  show ∀ q ∈ lw_privs_1 ++ (lw_privs_2 ++ (lw_privs_3 ++ (lw_privs_4 ++ (lw_privs_5)))), lw_okq q
  exact List.forall_mem_append.mpr ⟨lw_r1, List.forall_mem_append.mpr ⟨lw_r2, List.forall_mem_append.mpr ⟨lw_r3, List.forall_mem_append.mpr ⟨lw_r4, lw_r5⟩⟩⟩⟩
-- ===== end of PART A; then your names; then what follows =====
/-! ===== BEGIN words of one list among another's, by their places ===== -/
theorem goodIn_r {big : List Cond} (ws : List Cond) (ps : List Nat) (hp : ws = ps.filterMap (fun i => big[i]?)) (h : ws.all goodWord = true) : GoodIn big ws := by
  intro w hw
  have h1 := List.all_eq_true.mp h w hw
  rw [hp] at hw
  obtain ⟨i, -, hi⟩ := List.mem_filterMap.mp hw
  have hm : w ∈ big := by first | exact List.mem_of_getElem? hi | exact List.getElem?_mem hi
  exact ⟨hm, good_of_word h1⟩
theorem goodIn_app {big a b : List Cond} (ha : GoodIn big a) (hb : GoodIn big b) : GoodIn big (a ++ b) := fun w h => (List.mem_append.mp h).elim (ha w) (hb w)
theorem goodIn_ca {big a b : List Cond} {c : Cond} (ha : GoodIn big (c :: a)) (hb : GoodIn big b) : GoodIn big (c :: (a ++ b)) := fun w h => (List.mem_cons.mp h).elim (fun e => ha w (List.mem_cons.mpr (Or.inl e))) (fun h => (List.mem_append.mp h).elim (fun h => ha w (List.mem_cons.mpr (Or.inr h))) (hb w))
theorem goodIn_sub {big ws : List Cond} (hm : ∀ w ∈ ws, w ∈ big) (h : ws.all goodWord = true) : GoodIn big ws := fun w hw => ⟨hm w hw, good_of_word (List.all_eq_true.mp h w hw)⟩
/-! ===== END ===== -/

/-! ===== BEGIN printed: names, fields, word lists, decode rows ===== -/
def RX0 : String := "CoalGrate$Cheese"
def TX0 : u_T := fun k => match k with
  | 0 => ("CoalGrate$Kind", "number", "I", true)
  | 1 => ("CoalGrate$Kind", "thick", "I", true)
  | 2 => ("CoalGrate$Kind", "need", "I", true)
  | _ => ("CoalGrate$Kind", "limit", "I", true)
def tyX0 : Nat → FieldType := fun k => match k with
  | 0 => .int
  | 1 => .int
  | 2 => .int
  | _ => .int
abbrev wsX00 : List Cond := u_ws RX0 TX0 4
theorem nmX0 : ∀ a, a < 4 → ∀ b, b < 4 → a ≠ b → (TX0 a).2.1 ≠ (TX0 b).2.1 := by decide +kernel
theorem tyX0_ok : ∀ k, k < 4 → parseFieldDescriptor (TX0 k).2.2.1 = some (tyX0 k) := by decide +kernel
abbrev cX0_init : ByteArray := prog_2_method_1_code
def yX0_init : MethodName := ⟨RX0, "<init>", "(IIII)V"⟩
abbrev cX0_sizeOf : ByteArray := prog_2_method_2_code
def yX0_sizeOf : MethodName := ⟨RX0, "sizeOf", "(LCoalGrate$Thing;LCoalGrate$Trace;)I"⟩
abbrev cX0_markOf : ByteArray := prog_2_method_3_code
def yX0_markOf : MethodName := ⟨RX0, "markOf", "(LCoalGrate$Thing;LCoalGrate$Trace;)I"⟩
def RX1 : String := "CoalGrate$Chicken"
def TX1 : u_T := fun k => match k with
  | 0 => ("CoalGrate$Kind", "number", "I", true)
  | 1 => ("CoalGrate$Kind", "thick", "I", true)
  | 2 => ("CoalGrate$Kind", "need", "I", true)
  | _ => ("CoalGrate$Kind", "limit", "I", true)
def tyX1 : Nat → FieldType := fun k => match k with
  | 0 => .int
  | 1 => .int
  | 2 => .int
  | _ => .int
abbrev wsX10 : List Cond := u_ws RX1 TX1 4
theorem nmX1 : ∀ a, a < 4 → ∀ b, b < 4 → a ≠ b → (TX1 a).2.1 ≠ (TX1 b).2.1 := by decide +kernel
theorem tyX1_ok : ∀ k, k < 4 → parseFieldDescriptor (TX1 k).2.2.1 = some (tyX1 k) := by decide +kernel
abbrev cX1_init : ByteArray := prog_3_method_1_code
def yX1_init : MethodName := ⟨RX1, "<init>", "(IIII)V"⟩
abbrev cX1_sizeOf : ByteArray := prog_3_method_2_code
def yX1_sizeOf : MethodName := ⟨RX1, "sizeOf", "(LCoalGrate$Thing;LCoalGrate$Trace;)I"⟩
abbrev cX1_markOf : ByteArray := prog_3_method_3_code
def yX1_markOf : MethodName := ⟨RX1, "markOf", "(LCoalGrate$Thing;LCoalGrate$Trace;)I"⟩
def RX2 : String := "CoalGrate$Corn"
def TX2 : u_T := fun k => match k with
  | 0 => ("CoalGrate$Kind", "number", "I", true)
  | 1 => ("CoalGrate$Kind", "thick", "I", true)
  | 2 => ("CoalGrate$Kind", "need", "I", true)
  | _ => ("CoalGrate$Kind", "limit", "I", true)
def tyX2 : Nat → FieldType := fun k => match k with
  | 0 => .int
  | 1 => .int
  | 2 => .int
  | _ => .int
abbrev wsX20 : List Cond := u_ws RX2 TX2 4
theorem nmX2 : ∀ a, a < 4 → ∀ b, b < 4 → a ≠ b → (TX2 a).2.1 ≠ (TX2 b).2.1 := by decide +kernel
theorem tyX2_ok : ∀ k, k < 4 → parseFieldDescriptor (TX2 k).2.2.1 = some (tyX2 k) := by decide +kernel
abbrev cX2_init : ByteArray := prog_4_method_1_code
def yX2_init : MethodName := ⟨RX2, "<init>", "(IIII)V"⟩
abbrev cX2_sizeOf : ByteArray := prog_4_method_2_code
def yX2_sizeOf : MethodName := ⟨RX2, "sizeOf", "(LCoalGrate$Thing;LCoalGrate$Trace;)I"⟩
def RX3 : String := "CoalGrate$Kind"
def TX3 : u_T := fun k => match k with
  | 0 => ("CoalGrate$Kind", "number", "I", true)
  | 1 => ("CoalGrate$Kind", "thick", "I", true)
  | 2 => ("CoalGrate$Kind", "need", "I", true)
  | _ => ("CoalGrate$Kind", "limit", "I", true)
def tyX3 : Nat → FieldType := fun k => match k with
  | 0 => .int
  | 1 => .int
  | 2 => .int
  | _ => .int
abbrev wsX30 : List Cond := u_ws RX3 TX3 4
theorem nmX3 : ∀ a, a < 4 → ∀ b, b < 4 → a ≠ b → (TX3 a).2.1 ≠ (TX3 b).2.1 := by decide +kernel
theorem tyX3_ok : ∀ k, k < 4 → parseFieldDescriptor (TX3 k).2.2.1 = some (tyX3 k) := by decide +kernel
abbrev cX3_init : ByteArray := prog_5_method_1_code
def yX3_init : MethodName := ⟨RX3, "<init>", "(IIII)V"⟩
abbrev cX3_share : ByteArray := prog_5_method_2_code
def yX3_share : MethodName := ⟨RX3, "share", "(I)I"⟩
abbrev cX3_drips : ByteArray := prog_5_method_3_code
def yX3_drips : MethodName := ⟨RX3, "drips", "()Z"⟩
abbrev cX3_sizeOf : ByteArray := prog_5_method_4_code
def yX3_sizeOf : MethodName := ⟨RX3, "sizeOf", "(LCoalGrate$Thing;LCoalGrate$Trace;)I"⟩
abbrev cX3_markOf : ByteArray := prog_5_method_5_code
def yX3_markOf : MethodName := ⟨RX3, "markOf", "(LCoalGrate$Thing;LCoalGrate$Trace;)I"⟩
def RX4 : String := "CoalGrate$Reader"
def TX4 : u_T := fun k => match k with
  | 0 => ("CoalGrate$Reader", "tape", "[I", true)
  | 1 => ("CoalGrate$Reader", "length", "I", false)
  | 2 => ("CoalGrate$Reader", "at", "I", false)
  | 3 => ("CoalGrate$Reader", "failed", "Z", false)
  | 4 => ("CoalGrate$Reader", "faultPlace", "I", false)
  | _ => ("CoalGrate$Reader", "latestFault", "I", false)
def tyX4 : Nat → FieldType := fun k => match k with
  | 0 => .array .int
  | 1 => .int
  | 2 => .int
  | 3 => .boolean
  | 4 => .int
  | _ => .int
abbrev wsX40 : List Cond := u_ws RX4 TX4 6
theorem nmX4 : ∀ a, a < 6 → ∀ b, b < 6 → a ≠ b → (TX4 a).2.1 ≠ (TX4 b).2.1 := by decide +kernel
theorem tyX4_ok : ∀ k, k < 6 → parseFieldDescriptor (TX4 k).2.2.1 = some (tyX4 k) := by decide +kernel
abbrev cX4_init : ByteArray := prog_6_method_1_code
def yX4_init : MethodName := ⟨RX4, "<init>", "()V"⟩
abbrev cX4_take : ByteArray := prog_6_method_2_code
def yX4_take : MethodName := ⟨RX4, "take", "(I)Z"⟩
abbrev cX4_readInto : ByteArray := prog_6_method_3_code
def yX4_readInto : MethodName := ⟨RX4, "readInto", "(LCoalGrate$Yard;)Z"⟩
abbrev cX4_readGrate : ByteArray := prog_6_method_4_code
def yX4_readGrate : MethodName := ⟨RX4, "readGrate", "(LCoalGrate$Yard;)V"⟩
abbrev cX4_readCoal : ByteArray := prog_6_method_5_code
def yX4_readCoal : MethodName := ⟨RX4, "readCoal", "(LCoalGrate$Yard;)V"⟩
abbrev cX4_readThing : ByteArray := prog_6_method_6_code
def yX4_readThing : MethodName := ⟨RX4, "readThing", "(LCoalGrate$Yard;)V"⟩
abbrev cX4_readEater : ByteArray := prog_6_method_7_code
def yX4_readEater : MethodName := ⟨RX4, "readEater", "(LCoalGrate$Yard;)V"⟩
abbrev cX4_next : ByteArray := prog_6_method_8_code
def yX4_next : MethodName := ⟨RX4, "next", "()I"⟩
abbrev cX4_readSign : ByteArray := prog_6_method_9_code
def yX4_readSign : MethodName := ⟨RX4, "readSign", "(I)V"⟩
abbrev cX4_readSort : ByteArray := prog_6_method_10_code
def yX4_readSort : MethodName := ⟨RX4, "readSort", "()I"⟩
abbrev cX4_readNumber : ByteArray := prog_6_method_11_code
def yX4_readNumber : MethodName := ⟨RX4, "readNumber", "(II)I"⟩
abbrev cX4_fail : ByteArray := prog_6_method_12_code
def yX4_fail : MethodName := ⟨RX4, "fail", "(II)V"⟩
abbrev cX4_isFigure : ByteArray := prog_6_method_13_code
def yX4_isFigure : MethodName := ⟨RX4, "isFigure", "(I)Z"⟩
abbrev cX4_sortOf : ByteArray := prog_6_method_14_code
def yX4_sortOf : MethodName := ⟨RX4, "sortOf", "(I)I"⟩
def RX5 : String := "CoalGrate$Rows"
def TX5 : u_T := fun k => match k with
  | 0 => ("CoalGrate$Rows", "items", "[I", true)
  | 1 => ("CoalGrate$Rows", "lanes", "[I", true)
  | _ => ("CoalGrate$Rows", "sizes", "[I", true)
def tyX5 : Nat → FieldType := fun k => match k with
  | 0 => .array .int
  | 1 => .array .int
  | _ => .array .int
abbrev wsX50 : List Cond := u_ws RX5 TX5 3
theorem nmX5 : ∀ a, a < 3 → ∀ b, b < 3 → a ≠ b → (TX5 a).2.1 ≠ (TX5 b).2.1 := by decide +kernel
theorem tyX5_ok : ∀ k, k < 3 → parseFieldDescriptor (TX5 k).2.2.1 = some (tyX5 k) := by decide +kernel
abbrev cX5_init : ByteArray := prog_7_method_1_code
def yX5_init : MethodName := ⟨RX5, "<init>", "()V"⟩
abbrev cX5_isRow : ByteArray := prog_7_method_2_code
def yX5_isRow : MethodName := ⟨RX5, "isRow", "(I)Z"⟩
abbrev cX5_isMissing : ByteArray := prog_7_method_3_code
def yX5_isMissing : MethodName := ⟨RX5, "isMissing", "(I)Z"⟩
abbrev cX5_sameLane : ByteArray := prog_7_method_4_code
def yX5_sameLane : MethodName := ⟨RX5, "sameLane", "(II)Z"⟩
abbrev cX5_hasPlaces : ByteArray := prog_7_method_5_code
def yX5_hasPlaces : MethodName := ⟨RX5, "hasPlaces", "(III)Z"⟩
abbrev cX5_lay : ByteArray := prog_7_method_6_code
def yX5_lay : MethodName := ⟨RX5, "lay", "(III)V"⟩
abbrev cX5_get : ByteArray := prog_7_method_7_code
def yX5_get : MethodName := ⟨RX5, "get", "(II)I"⟩
abbrev cX5_put : ByteArray := prog_7_method_8_code
def yX5_put : MethodName := ⟨RX5, "put", "(III)I"⟩
abbrev cX5_carry : ByteArray := prog_7_method_9_code
def yX5_carry : MethodName := ⟨RX5, "carry", "(IIIII)V"⟩
abbrev cX5_forget : ByteArray := prog_7_method_10_code
def yX5_forget : MethodName := ⟨RX5, "forget", "(I)I"⟩
abbrev cX5_present : ByteArray := prog_7_method_11_code
def yX5_present : MethodName := ⟨RX5, "present", "()I"⟩
def RX6 : String := "CoalGrate$Sausage"
def TX6 : u_T := fun k => match k with
  | 0 => ("CoalGrate$Kind", "number", "I", true)
  | 1 => ("CoalGrate$Kind", "thick", "I", true)
  | 2 => ("CoalGrate$Kind", "need", "I", true)
  | _ => ("CoalGrate$Kind", "limit", "I", true)
def tyX6 : Nat → FieldType := fun k => match k with
  | 0 => .int
  | 1 => .int
  | 2 => .int
  | _ => .int
abbrev wsX60 : List Cond := u_ws RX6 TX6 4
theorem nmX6 : ∀ a, a < 4 → ∀ b, b < 4 → a ≠ b → (TX6 a).2.1 ≠ (TX6 b).2.1 := by decide +kernel
theorem tyX6_ok : ∀ k, k < 4 → parseFieldDescriptor (TX6 k).2.2.1 = some (tyX6 k) := by decide +kernel
abbrev cX6_init : ByteArray := prog_8_method_1_code
def yX6_init : MethodName := ⟨RX6, "<init>", "(IIII)V"⟩
abbrev cX6_drips : ByteArray := prog_8_method_2_code
def yX6_drips : MethodName := ⟨RX6, "drips", "()Z"⟩
abbrev cX6_sizeOf : ByteArray := prog_8_method_3_code
def yX6_sizeOf : MethodName := ⟨RX6, "sizeOf", "(LCoalGrate$Thing;LCoalGrate$Trace;)I"⟩
abbrev cX6_markOf : ByteArray := prog_8_method_4_code
def yX6_markOf : MethodName := ⟨RX6, "markOf", "(LCoalGrate$Thing;LCoalGrate$Trace;)I"⟩
def RX7 : String := "CoalGrate$Thin"
def TX7 : u_T := fun k => match k with
  | 0 => ("CoalGrate$Kind", "number", "I", true)
  | 1 => ("CoalGrate$Kind", "thick", "I", true)
  | 2 => ("CoalGrate$Kind", "need", "I", true)
  | _ => ("CoalGrate$Kind", "limit", "I", true)
def tyX7 : Nat → FieldType := fun k => match k with
  | 0 => .int
  | 1 => .int
  | 2 => .int
  | _ => .int
abbrev wsX70 : List Cond := u_ws RX7 TX7 4
theorem nmX7 : ∀ a, a < 4 → ∀ b, b < 4 → a ≠ b → (TX7 a).2.1 ≠ (TX7 b).2.1 := by decide +kernel
theorem tyX7_ok : ∀ k, k < 4 → parseFieldDescriptor (TX7 k).2.2.1 = some (tyX7 k) := by decide +kernel
abbrev cX7_init : ByteArray := prog_9_method_1_code
def yX7_init : MethodName := ⟨RX7, "<init>", "(IIII)V"⟩
abbrev cX7_markOf : ByteArray := prog_9_method_2_code
def yX7_markOf : MethodName := ⟨RX7, "markOf", "(LCoalGrate$Thing;LCoalGrate$Trace;)I"⟩
def RX8 : String := "CoalGrate$Thing"
def TX8 : u_T := fun k => match k with
  | 0 => ("CoalGrate$Thing", "number", "I", true)
  | 1 => ("CoalGrate$Thing", "kind", "LCoalGrate$Kind;", false)
  | 2 => ("CoalGrate$Thing", "place", "I", false)
  | 3 => ("CoalGrate$Thing", "core", "I", false)
  | 4 => ("CoalGrate$Thing", "lower", "I", false)
  | 5 => ("CoalGrate$Thing", "upper", "I", false)
  | 6 => ("CoalGrate$Thing", "side", "I", false)
  | _ => ("CoalGrate$Thing", "burnt", "Z", false)
def tyX8 : Nat → FieldType := fun k => match k with
  | 0 => .int
  | 1 => .object "CoalGrate$Kind"
  | 2 => .int
  | 3 => .int
  | 4 => .int
  | 5 => .int
  | 6 => .int
  | _ => .boolean
abbrev wsX80 : List Cond := u_ws RX8 TX8 8
theorem nmX8 : ∀ a, a < 8 → ∀ b, b < 8 → a ≠ b → (TX8 a).2.1 ≠ (TX8 b).2.1 := by decide +kernel
theorem tyX8_ok : ∀ k, k < 8 → parseFieldDescriptor (TX8 k).2.2.1 = some (tyX8 k) := by decide +kernel
abbrev cX8_init : ByteArray := prog_10_method_1_code
def yX8_init : MethodName := ⟨RX8, "<init>", "(ILCoalGrate$Kind;)V"⟩
abbrev cX8_layCold : ByteArray := prog_10_method_2_code
def yX8_layCold : MethodName := ⟨RX8, "layCold", "(LCoalGrate$Kind;I)V"⟩
abbrev cX8_become : ByteArray := prog_10_method_3_code
def yX8_become : MethodName := ⟨RX8, "become", "(LCoalGrate$Thing;)V"⟩
abbrev cX8_isServed : ByteArray := prog_10_method_4_code
def yX8_isServed : MethodName := ⟨RX8, "isServed", "()Z"⟩
abbrev cX8_isThrough : ByteArray := prog_10_method_5_code
def yX8_isThrough : MethodName := ⟨RX8, "isThrough", "()Z"⟩
abbrev cX8_isDone : ByteArray := prog_10_method_6_code
def yX8_isDone : MethodName := ⟨RX8, "isDone", "()Z"⟩
abbrev cX8_skinOf : ByteArray := prog_10_method_7_code
def yX8_skinOf : MethodName := ⟨RX8, "skinOf", "(I)I"⟩
abbrev cX8_flip : ByteArray := prog_10_method_8_code
def yX8_flip : MethodName := ⟨RX8, "flip", "()V"⟩
abbrev cX8_heatBy : ByteArray := prog_10_method_9_code
def yX8_heatBy : MethodName := ⟨RX8, "heatBy", "(II)I"⟩
abbrev cX8_roastBy : ByteArray := prog_10_method_10_code
def yX8_roastBy : MethodName := ⟨RX8, "roastBy", "(II)V"⟩
abbrev cX8_rest : ByteArray := prog_10_method_11_code
def yX8_rest : MethodName := ⟨RX8, "rest", "(I)V"⟩
abbrev cX8_saveIn : ByteArray := prog_10_method_12_code
def yX8_saveIn : MethodName := ⟨RX8, "saveIn", "([II)V"⟩
abbrev cX8_loadFrom : ByteArray := prog_10_method_13_code
def yX8_loadFrom : MethodName := ⟨RX8, "loadFrom", "([IILCoalGrate$Kind;)V"⟩
def RX9 : String := "CoalGrate$Trace"
def TX9 : u_T := fun k => match k with
  | 0 => ("CoalGrate$Trace", "numbers", "[I", true)
  | _ => ("CoalGrate$Trace", "length", "I", false)
def tyX9 : Nat → FieldType := fun k => match k with
  | 0 => .array .int
  | _ => .int
abbrev wsX90 : List Cond := u_ws RX9 TX9 2
theorem nmX9 : ∀ a, a < 2 → ∀ b, b < 2 → a ≠ b → (TX9 a).2.1 ≠ (TX9 b).2.1 := by decide +kernel
theorem tyX9_ok : ∀ k, k < 2 → parseFieldDescriptor (TX9 k).2.2.1 = some (tyX9 k) := by decide +kernel
abbrev cX9_init : ByteArray := prog_11_method_1_code
def yX9_init : MethodName := ⟨RX9, "<init>", "()V"⟩
abbrev cX9_leave : ByteArray := prog_11_method_2_code
def yX9_leave : MethodName := ⟨RX9, "leave", "(I)V"⟩
def RX10 : String := "CoalGrate$Yard"
def TX10 : u_T := fun k => match k with
  | 0 => ("CoalGrate$Yard", "kinds", "[LCoalGrate$Kind;", true)
  | 1 => ("CoalGrate$Yard", "sink", "I", false)
  | 2 => ("CoalGrate$Yard", "wind", "I", false)
  | 3 => ("CoalGrate$Yard", "minute", "I", false)
  | 4 => ("CoalGrate$Yard", "coalCount", "I", false)
  | 5 => ("CoalGrate$Yard", "coalCell", "[I", true)
  | 6 => ("CoalGrate$Yard", "coalFire", "[I", true)
  | 7 => ("CoalGrate$Yard", "coalFresh", "[I", true)
  | 8 => ("CoalGrate$Yard", "thingCount", "I", false)
  | 9 => ("CoalGrate$Yard", "things", "[LCoalGrate$Thing;", true)
  | 10 => ("CoalGrate$Yard", "eaterCount", "I", false)
  | 11 => ("CoalGrate$Yard", "eaterKind", "[I", true)
  | 12 => ("CoalGrate$Yard", "eaterMinute", "[I", true)
  | _ => ("CoalGrate$Yard", "eaterThing", "[I", true)
def tyX10 : Nat → FieldType := fun k => match k with
  | 0 => .array (.object "CoalGrate$Kind")
  | 1 => .int
  | 2 => .int
  | 3 => .int
  | 4 => .int
  | 5 => .array .int
  | 6 => .array .int
  | 7 => .array .int
  | 8 => .int
  | 9 => .array (.object "CoalGrate$Thing")
  | 10 => .int
  | 11 => .array .int
  | 12 => .array .int
  | _ => .array .int
abbrev wsX100 : List Cond := u_ws RX10 TX10 14
theorem nmX10 : ∀ a, a < 14 → ∀ b, b < 14 → a ≠ b → (TX10 a).2.1 ≠ (TX10 b).2.1 := by decide +kernel
theorem tyX10_ok : ∀ k, k < 14 → parseFieldDescriptor (TX10 k).2.2.1 = some (tyX10 k) := by decide +kernel
abbrev cX10_init : ByteArray := prog_12_method_1_code
def yX10_init : MethodName := ⟨RX10, "<init>", "([LCoalGrate$Kind;)V"⟩
abbrev cX10_clear : ByteArray := prog_12_method_2_code
def yX10_clear : MethodName := ⟨RX10, "clear", "()V"⟩
abbrev cX10_addCoal : ByteArray := prog_12_method_3_code
def yX10_addCoal : MethodName := ⟨RX10, "addCoal", "(III)V"⟩
abbrev cX10_addThing : ByteArray := prog_12_method_4_code
def yX10_addThing : MethodName := ⟨RX10, "addThing", "(II)V"⟩
abbrev cX10_addEater : ByteArray := prog_12_method_5_code
def yX10_addEater : MethodName := ⟨RX10, "addEater", "(II)V"⟩
abbrev cX10_kindOf : ByteArray := prog_12_method_6_code
def yX10_kindOf : MethodName := ⟨RX10, "kindOf", "(I)LCoalGrate$Kind;"⟩
abbrev cX10_thingAt : ByteArray := prog_12_method_7_code
def yX10_thingAt : MethodName := ⟨RX10, "thingAt", "(I)LCoalGrate$Thing;"⟩
abbrev cX10_isEater : ByteArray := prog_12_method_8_code
def yX10_isEater : MethodName := ⟨RX10, "isEater", "(I)Z"⟩
abbrev cX10_lyingIn : ByteArray := prog_12_method_9_code
def yX10_lyingIn : MethodName := ⟨RX10, "lyingIn", "(I)LCoalGrate$Thing;"⟩
abbrev cX10_isOpenTo : ByteArray := prog_12_method_10_code
def yX10_isOpenTo : MethodName := ⟨RX10, "isOpenTo", "(LCoalGrate$Thing;I)Z"⟩
abbrev cX10_wants : ByteArray := prog_12_method_11_code
def yX10_wants : MethodName := ⟨RX10, "wants", "(ILCoalGrate$Thing;I)Z"⟩
abbrev cX10_sunkBy : ByteArray := prog_12_method_12_code
def yX10_sunkBy : MethodName := ⟨RX10, "sunkBy", "(I)I"⟩
abbrev cX10_warmthIn : ByteArray := prog_12_method_13_code
def yX10_warmthIn : MethodName := ⟨RX10, "warmthIn", "(II)I"⟩
abbrev cX10_isBeside : ByteArray := prog_12_method_14_code
def yX10_isBeside : MethodName := ⟨RX10, "isBeside", "(II)Z"⟩
abbrev cX10_windIn : ByteArray := prog_12_method_15_code
def yX10_windIn : MethodName := ⟨RX10, "windIn", "(I)I"⟩
abbrev cX10_roast : ByteArray := prog_12_method_16_code
def yX10_roast : MethodName := ⟨RX10, "roast", "(LCoalGrate$Thing;I)V"⟩
abbrev cX10_passMinute : ByteArray := prog_12_method_17_code
def yX10_passMinute : MethodName := ⟨RX10, "passMinute", "()V"⟩
abbrev cX10_pourWater : ByteArray := prog_12_method_18_code
def yX10_pourWater : MethodName := ⟨RX10, "pourWater", "()I"⟩
abbrev cX10_fireOfAll : ByteArray := prog_12_method_19_code
def yX10_fireOfAll : MethodName := ⟨RX10, "fireOfAll", "()I"⟩
abbrev cX10_minutesOfFire : ByteArray := prog_12_method_20_code
def yX10_minutesOfFire : MethodName := ⟨RX10, "minutesOfFire", "()I"⟩
abbrev cX10_servedCount : ByteArray := prog_12_method_21_code
def yX10_servedCount : MethodName := ⟨RX10, "servedCount", "()I"⟩
abbrev cX10_hottestBelow : ByteArray := prog_12_method_22_code
def yX10_hottestBelow : MethodName := ⟨RX10, "hottestBelow", "()LCoalGrate$Thing;"⟩
abbrev cX10_burntOnes : ByteArray := prog_12_method_23_code
def yX10_burntOnes : MethodName := ⟨RX10, "burntOnes", "()I"⟩
abbrev cX10_doneOnes : ByteArray := prog_12_method_24_code
def yX10_doneOnes : MethodName := ⟨RX10, "doneOnes", "()I"⟩
abbrev cX10_save : ByteArray := prog_12_method_25_code
def yX10_save : MethodName := ⟨RX10, "save", "([II)V"⟩
abbrev cX10_load : ByteArray := prog_12_method_26_code
def yX10_load : MethodName := ⟨RX10, "load", "([II)V"⟩
def RX11 : String := "CoalGrate"
def TX11 : u_T := fun k => match k with
  | 0 => ("CoalGrate", "rows", "LCoalGrate$Rows;", true)
  | 1 => ("CoalGrate", "reader", "LCoalGrate$Reader;", true)
  | 2 => ("CoalGrate", "path", "LCoalGrate$Trace;", true)
  | 3 => ("CoalGrate", "kinds", "[LCoalGrate$Kind;", true)
  | 4 => ("CoalGrate", "trial", "LCoalGrate$Thing;", true)
  | 5 => ("CoalGrate", "now", "LCoalGrate$Yard;", false)
  | 6 => ("CoalGrate", "spare", "LCoalGrate$Yard;", false)
  | 7 => ("CoalGrate", "stands", "Z", false)
  | 8 => ("CoalGrate", "past", "[I", true)
  | 9 => ("CoalGrate", "pastNext", "I", false)
  | 10 => ("CoalGrate", "pastCount", "I", false)
  | 11 => ("CoalGrate", "images", "[I", true)
  | 12 => ("CoalGrate", "kept", "[Z", true)
  | 13 => ("CoalGrate", "scratch", "[I", true)
  | 14 => ("CoalGrate", "warmth", "[I", true)
  | 15 => ("CoalGrate", "bestFlips", "I", false)
  | _ => ("CoalGrate", "finding", "I", false)
def tyX11 : Nat → FieldType := fun k => match k with
  | 0 => .object "CoalGrate$Rows"
  | 1 => .object "CoalGrate$Reader"
  | 2 => .object "CoalGrate$Trace"
  | 3 => .array (.object "CoalGrate$Kind")
  | 4 => .object "CoalGrate$Thing"
  | 5 => .object "CoalGrate$Yard"
  | 6 => .object "CoalGrate$Yard"
  | 7 => .boolean
  | 8 => .array .int
  | 9 => .int
  | 10 => .int
  | 11 => .array .int
  | 12 => .array .boolean
  | 13 => .array .int
  | 14 => .array .int
  | 15 => .int
  | _ => .int
abbrev wsX110 : List Cond := u_ws RX11 TX11 17
theorem nmX11 : ∀ a, a < 17 → ∀ b, b < 17 → a ≠ b → (TX11 a).2.1 ≠ (TX11 b).2.1 := by decide +kernel
theorem tyX11_ok : ∀ k, k < 17 → parseFieldDescriptor (TX11 k).2.2.1 = some (tyX11 k) := by decide +kernel
abbrev cX11_init : ByteArray := prog_1_method_1_code
def yX11_init : MethodName := ⟨RX11, "<init>", "()V"⟩
abbrev cX11_newKinds : ByteArray := prog_1_method_2_code
def yX11_newKinds : MethodName := ⟨RX11, "newKinds", "()[LCoalGrate$Kind;"⟩
abbrev cX11_row : ByteArray := prog_1_method_3_code
def yX11_row : MethodName := ⟨RX11, "row", "(III)I"⟩
abbrev cX11_set : ByteArray := prog_1_method_4_code
def yX11_set : MethodName := ⟨RX11, "set", "(III)I"⟩
abbrev cX11_copy : ByteArray := prog_1_method_5_code
def yX11_copy : MethodName := ⟨RX11, "copy", "(IIIII)I"⟩
abbrev cX11_drop : ByteArray := prog_1_method_6_code
def yX11_drop : MethodName := ⟨RX11, "drop", "(I)I"⟩
abbrev cX11_found : ByteArray := prog_1_method_7_code
def yX11_found : MethodName := ⟨RX11, "found", "(I)I"⟩
abbrev cX11_answered : ByteArray := prog_1_method_8_code
def yX11_answered : MethodName := ⟨RX11, "answered", "(I)I"⟩
abbrev cX11_feed : ByteArray := prog_1_method_9_code
def yX11_feed : MethodName := ⟨RX11, "feed", "(I)I"⟩
abbrev cX11_yard : ByteArray := prog_1_method_10_code
def yX11_yard : MethodName := ⟨RX11, "yard", "()I"⟩
abbrev cX11_fault : ByteArray := prog_1_method_11_code
def yX11_fault : MethodName := ⟨RX11, "fault", "()I"⟩
abbrev cX11_minutes : ByteArray := prog_1_method_12_code
def yX11_minutes : MethodName := ⟨RX11, "minutes", "(I)I"⟩
abbrev cX11_turn : ByteArray := prog_1_method_13_code
def yX11_turn : MethodName := ⟨RX11, "turn", "(I)I"⟩
abbrev cX11_move : ByteArray := prog_1_method_14_code
def yX11_move : MethodName := ⟨RX11, "move", "(II)I"⟩
abbrev cX11_coal : ByteArray := prog_1_method_15_code
def yX11_coal : MethodName := ⟨RX11, "coal", "(II)I"⟩
abbrev cX11_water : ByteArray := prog_1_method_16_code
def yX11_water : MethodName := ⟨RX11, "water", "()I"⟩
abbrev cX11_serve : ByteArray := prog_1_method_17_code
def yX11_serve : MethodName := ⟨RX11, "serve", "(II)I"⟩
abbrev cX11_undo : ByteArray := prog_1_method_18_code
def yX11_undo : MethodName := ⟨RX11, "undo", "()I"⟩
abbrev cX11_remember : ByteArray := prog_1_method_19_code
def yX11_remember : MethodName := ⟨RX11, "remember", "()V"⟩
abbrev cX11_thing : ByteArray := prog_1_method_20_code
def yX11_thing : MethodName := ⟨RX11, "thing", "(II)I"⟩
abbrev cX11_eater : ByteArray := prog_1_method_21_code
def yX11_eater : MethodName := ⟨RX11, "eater", "(II)I"⟩
abbrev cX11_ember : ByteArray := prog_1_method_22_code
def yX11_ember : MethodName := ⟨RX11, "ember", "(II)I"⟩
abbrev cX11_heat : ByteArray := prog_1_method_23_code
def yX11_heat : MethodName := ⟨RX11, "heat", "(I)I"⟩
abbrev cX11_asBit : ByteArray := prog_1_method_24_code
def yX11_asBit : MethodName := ⟨RX11, "asBit", "(Z)I"⟩
abbrev cX11_isCell : ByteArray := prog_1_method_25_code
def yX11_isCell : MethodName := ⟨RX11, "isCell", "(I)Z"⟩
abbrev cX11_ahead : ByteArray := prog_1_method_26_code
def yX11_ahead : MethodName := ⟨RX11, "ahead", "(III)I"⟩
abbrev cX11_heatAhead : ByteArray := prog_1_method_27_code
def yX11_heatAhead : MethodName := ⟨RX11, "heatAhead", "(II)I"⟩
abbrev cX11_isAhead : ByteArray := prog_1_method_28_code
def yX11_isAhead : MethodName := ⟨RX11, "isAhead", "(II)Z"⟩
abbrev cX11_tryAsItLies : ByteArray := prog_1_method_29_code
def yX11_tryAsItLies : MethodName := ⟨RX11, "tryAsItLies", "(LCoalGrate$Thing;I)V"⟩
abbrev cX11_ready : ByteArray := prog_1_method_30_code
def yX11_ready : MethodName := ⟨RX11, "ready", "(I)I"⟩
abbrev cX11_where : ByteArray := prog_1_method_31_code
def yX11_where : MethodName := ⟨RX11, "where", "(I)I"⟩
abbrev cX11_inTime : ByteArray := prog_1_method_32_code
def yX11_inTime : MethodName := ⟨RX11, "inTime", "(II)I"⟩
abbrev cX11_readyAt : ByteArray := prog_1_method_33_code
def yX11_readyAt : MethodName := ⟨RX11, "readyAt", "(LCoalGrate$Thing;II)I"⟩
abbrev cX11_flips : ByteArray := prog_1_method_34_code
def yX11_flips : MethodName := ⟨RX11, "flips", "(III)I"⟩
abbrev cX11_foretellWarmth : ByteArray := prog_1_method_35_code
def yX11_foretellWarmth : MethodName := ⟨RX11, "foretellWarmth", "(II)V"⟩
abbrev cX11_tryFlips : ByteArray := prog_1_method_36_code
def yX11_tryFlips : MethodName := ⟨RX11, "tryFlips", "(IIIIII)V"⟩
abbrev cX11_tryMinute : ByteArray := prog_1_method_37_code
def yX11_tryMinute : MethodName := ⟨RX11, "tryMinute", "(IIIIII)V"⟩
abbrev cX11_isBetterWay : ByteArray := prog_1_method_38_code
def yX11_isBetterWay : MethodName := ⟨RX11, "isBetterWay", "(I)Z"⟩
abbrev cX11_start : ByteArray := prog_1_method_39_code
def yX11_start : MethodName := ⟨RX11, "start", "(III)I"⟩
abbrev cX11_isDoneStarting : ByteArray := prog_1_method_40_code
def yX11_isDoneStarting : MethodName := ⟨RX11, "isDoneStarting", "(LCoalGrate$Thing;III)Z"⟩
abbrev cX11_fuelFor : ByteArray := prog_1_method_41_code
def yX11_fuelFor : MethodName := ⟨RX11, "fuelFor", "(II)I"⟩
abbrev cX11_isDoneWithCoal : ByteArray := prog_1_method_42_code
def yX11_isDoneWithCoal : MethodName := ⟨RX11, "isDoneWithCoal", "(LCoalGrate$Thing;II)Z"⟩
abbrev cX11_servable : ByteArray := prog_1_method_43_code
def yX11_servable : MethodName := ⟨RX11, "servable", "(II)I"⟩
abbrev cX11_doneAhead : ByteArray := prog_1_method_44_code
def yX11_doneAhead : MethodName := ⟨RX11, "doneAhead", "(I)I"⟩
abbrev cX11_firstFor : ByteArray := prog_1_method_45_code
def yX11_firstFor : MethodName := ⟨RX11, "firstFor", "(III)I"⟩
abbrev cX11_hand : ByteArray := prog_1_method_46_code
def yX11_hand : MethodName := ⟨RX11, "hand", "(II)I"⟩
abbrev cX11_judged : ByteArray := prog_1_method_47_code
def yX11_judged : MethodName := ⟨RX11, "judged", "(III)I"⟩
abbrev cX11_tellsTurns : ByteArray := prog_1_method_48_code
def yX11_tellsTurns : MethodName := ⟨RX11, "tellsTurns", "(III)Z"⟩
abbrev cX11_tryWholeYard : ByteArray := prog_1_method_49_code
def yX11_tryWholeYard : MethodName := ⟨RX11, "tryWholeYard", "()V"⟩
abbrev cX11_fuel : ByteArray := prog_1_method_50_code
def yX11_fuel : MethodName := ⟨RX11, "fuel", "()I"⟩
abbrev cX11_image : ByteArray := prog_1_method_51_code
def yX11_image : MethodName := ⟨RX11, "image", "(I)I"⟩
abbrev cX11_restore : ByteArray := prog_1_method_52_code
def yX11_restore : MethodName := ⟨RX11, "restore", "(I)I"⟩
abbrev cX11_isImage : ByteArray := prog_1_method_53_code
def yX11_isImage : MethodName := ⟨RX11, "isImage", "(I)Z"⟩
abbrev cX11_kind : ByteArray := prog_1_method_54_code
def yX11_kind : MethodName := ⟨RX11, "kind", "(I)I"⟩
abbrev cX11_as : ByteArray := prog_1_method_55_code
def yX11_as : MethodName := ⟨RX11, "as", "(II)I"⟩
abbrev cX11_isOneOf : ByteArray := prog_1_method_56_code
def yX11_isOneOf : MethodName := ⟨RX11, "isOneOf", "(LCoalGrate$Kind;I)Z"⟩
abbrev cX11_ask : ByteArray := prog_1_method_57_code
def yX11_ask : MethodName := ⟨RX11, "ask", "(II)I"⟩
abbrev cX11_trace : ByteArray := prog_1_method_58_code
def yX11_trace : MethodName := ⟨RX11, "trace", "(I)I"⟩
abbrev cX11_count : ByteArray := prog_1_method_59_code
def yX11_count : MethodName := ⟨RX11, "count", "(I)I"⟩
abbrev cX11_status : ByteArray := prog_1_method_60_code
def yX11_status : MethodName := ⟨RX11, "status", "()I"⟩
def RX12 : String := "CoalGrateModel"
def TX12 : u_T := fun k => match k with
  | 0 => ("CoalGrateModel", "st", "[I", true)
  | 1 => ("CoalGrateModel", "kept", "[I", true)
  | 2 => ("CoalGrateModel", "isKept", "[Z", true)
  | 3 => ("CoalGrateModel", "was", "[I", true)
  | 4 => ("CoalGrateModel", "acts", "I", false)
  | 5 => ("CoalGrateModel", "lanes", "[I", true)
  | 6 => ("CoalGrateModel", "sizes", "[I", true)
  | 7 => ("CoalGrateModel", "items", "[I", true)
  | 8 => ("CoalGrateModel", "status", "I", false)
  | 9 => ("CoalGrateModel", "tape", "[I", true)
  | 10 => ("CoalGrateModel", "taped", "I", false)
  | 11 => ("CoalGrateModel", "cursor", "I", false)
  | 12 => ("CoalGrateModel", "start", "I", false)
  | 13 => ("CoalGrateModel", "token", "I", false)
  | 14 => ("CoalGrateModel", "value", "I", false)
  | 15 => ("CoalGrateModel", "fault", "I", false)
  | 16 => ("CoalGrateModel", "latestFault", "I", false)
  | 17 => ("CoalGrateModel", "read", "[I", true)
  | 18 => ("CoalGrateModel", "heats", "[I", true)
  | 19 => ("CoalGrateModel", "hold", "[I", true)
  | 20 => ("CoalGrateModel", "canBe", "[Z", true)
  | 21 => ("CoalGrateModel", "gets", "[I", true)
  | 22 => ("CoalGrateModel", "trace", "[I", true)
  | _ => ("CoalGrateModel", "traced", "I", false)
def tyX12 : Nat → FieldType := fun k => match k with
  | 0 => .array .int
  | 1 => .array .int
  | 2 => .array .boolean
  | 3 => .array .int
  | 4 => .int
  | 5 => .array .int
  | 6 => .array .int
  | 7 => .array .int
  | 8 => .int
  | 9 => .array .int
  | 10 => .int
  | 11 => .int
  | 12 => .int
  | 13 => .int
  | 14 => .int
  | 15 => .int
  | 16 => .int
  | 17 => .array .int
  | 18 => .array .int
  | 19 => .array .int
  | 20 => .array .boolean
  | 21 => .array .int
  | 22 => .array .int
  | _ => .int
abbrev wsX120 : List Cond := u_ws RX12 TX12 24
theorem nmX12 : ∀ a, a < 24 → ∀ b, b < 24 → a ≠ b → (TX12 a).2.1 ≠ (TX12 b).2.1 := by decide +kernel
theorem tyX12_ok : ∀ k, k < 24 → parseFieldDescriptor (TX12 k).2.2.1 = some (tyX12 k) := by decide +kernel
abbrev cX12_init : ByteArray := prog_14_method_1_code
def yX12_init : MethodName := ⟨RX12, "<init>", "()V"⟩
abbrev cX12_in : ByteArray := prog_14_method_3_code
def yX12_in : MethodName := ⟨RX12, "in", "(III)Z"⟩
abbrev cX12_has : ByteArray := prog_14_method_4_code
def yX12_has : MethodName := ⟨RX12, "has", "(II)Z"⟩
abbrev cX12_found : ByteArray := prog_14_method_5_code
def yX12_found : MethodName := ⟨RX12, "found", "(I)I"⟩
abbrev cX12_well : ByteArray := prog_14_method_6_code
def yX12_well : MethodName := ⟨RX12, "well", "(I)I"⟩
abbrev cX12_isRow : ByteArray := prog_14_method_7_code
def yX12_isRow : MethodName := ⟨RX12, "isRow", "(I)Z"⟩
abbrev cX12_row : ByteArray := prog_14_method_8_code
def yX12_row : MethodName := ⟨RX12, "row", "(III)I"⟩
abbrev cX12_set : ByteArray := prog_14_method_9_code
def yX12_set : MethodName := ⟨RX12, "set", "(III)I"⟩
abbrev cX12_isSpan : ByteArray := prog_14_method_10_code
def yX12_isSpan : MethodName := ⟨RX12, "isSpan", "(III)Z"⟩
abbrev cX12_copy : ByteArray := prog_14_method_11_code
def yX12_copy : MethodName := ⟨RX12, "copy", "(IIIII)I"⟩
abbrev cX12_drop : ByteArray := prog_14_method_12_code
def yX12_drop : MethodName := ⟨RX12, "drop", "(I)I"⟩
abbrev cX12_feed : ByteArray := prog_14_method_13_code
def yX12_feed : MethodName := ⟨RX12, "feed", "(I)I"⟩
abbrev cX12_byteAt : ByteArray := prog_14_method_14_code
def yX12_byteAt : MethodName := ⟨RX12, "byteAt", "(I)I"⟩
abbrev cX12_next : ByteArray := prog_14_method_15_code
def yX12_next : MethodName := ⟨RX12, "next", "()V"⟩
abbrev cX12_must : ByteArray := prog_14_method_16_code
def yX12_must : MethodName := ⟨RX12, "must", "(ZI)V"⟩
abbrev cX12_goesOn : ByteArray := prog_14_method_17_code
def yX12_goesOn : MethodName := ⟨RX12, "goesOn", "()V"⟩
abbrev cX12_isLetter : ByteArray := prog_14_method_18_code
def yX12_isLetter : MethodName := ⟨RX12, "isLetter", "(I)Z"⟩
abbrev cX12_readSign : ByteArray := prog_14_method_19_code
def yX12_readSign : MethodName := ⟨RX12, "readSign", "(I)V"⟩
abbrev cX12_readNumber : ByteArray := prog_14_method_20_code
def yX12_readNumber : MethodName := ⟨RX12, "readNumber", "(II)I"⟩
abbrev cX12_sortOf : ByteArray := prog_14_method_21_code
def yX12_sortOf : MethodName := ⟨RX12, "sortOf", "(I)I"⟩
abbrev cX12_isSort : ByteArray := prog_14_method_22_code
def yX12_isSort : MethodName := ⟨RX12, "isSort", "()Z"⟩
abbrev cX12_readGrate : ByteArray := prog_14_method_23_code
def yX12_readGrate : MethodName := ⟨RX12, "readGrate", "()V"⟩
abbrev cX12_readCoal : ByteArray := prog_14_method_24_code
def yX12_readCoal : MethodName := ⟨RX12, "readCoal", "()V"⟩
abbrev cX12_isTold : ByteArray := prog_14_method_25_code
def yX12_isTold : MethodName := ⟨RX12, "isTold", "(I)Z"⟩
abbrev cX12_readThing : ByteArray := prog_14_method_26_code
def yX12_readThing : MethodName := ⟨RX12, "readThing", "()V"⟩
abbrev cX12_readEater : ByteArray := prog_14_method_27_code
def yX12_readEater : MethodName := ⟨RX12, "readEater", "()V"⟩
abbrev cX12_yard : ByteArray := prog_14_method_28_code
def yX12_yard : MethodName := ⟨RX12, "yard", "()I"⟩
abbrev cX12_fault : ByteArray := prog_14_method_29_code
def yX12_fault : MethodName := ⟨RX12, "fault", "()I"⟩
abbrev cX12_isYard : ByteArray := prog_14_method_30_code
def yX12_isYard : MethodName := ⟨RX12, "isYard", "()Z"⟩
abbrev cX12_isThing : ByteArray := prog_14_method_31_code
def yX12_isThing : MethodName := ⟨RX12, "isThing", "(I)Z"⟩
abbrev cX12_isOn : ByteArray := prog_14_method_32_code
def yX12_isOn : MethodName := ⟨RX12, "isOn", "(I)Z"⟩
abbrev cX12_isGone : ByteArray := prog_14_method_33_code
def yX12_isGone : MethodName := ⟨RX12, "isGone", "(I)Z"⟩
abbrev cX12_isA : ByteArray := prog_14_method_34_code
def yX12_isA : MethodName := ⟨RX12, "isA", "(II)Z"⟩
abbrev cX12_below : ByteArray := prog_14_method_35_code
def yX12_below : MethodName := ⟨RX12, "below", "(I)I"⟩
abbrev cX12_above : ByteArray := prog_14_method_36_code
def yX12_above : MethodName := ⟨RX12, "above", "(I)I"⟩
abbrev cX12_size : ByteArray := prog_14_method_37_code
def yX12_size : MethodName := ⟨RX12, "size", "(I)I"⟩
abbrev cX12_areBeside : ByteArray := prog_14_method_38_code
def yX12_areBeside : MethodName := ⟨RX12, "areBeside", "(II)Z"⟩
abbrev cX12_heatOf : ByteArray := prog_14_method_39_code
def yX12_heatOf : MethodName := ⟨RX12, "heatOf", "(I)I"⟩
abbrev cX12_thick : ByteArray := prog_14_method_40_code
def yX12_thick : MethodName := ⟨RX12, "thick", "(I)I"⟩
abbrev cX12_need : ByteArray := prog_14_method_41_code
def yX12_need : MethodName := ⟨RX12, "need", "(I)I"⟩
abbrev cX12_limit : ByteArray := prog_14_method_42_code
def yX12_limit : MethodName := ⟨RX12, "limit", "(I)I"⟩
abbrev cX12_least : ByteArray := prog_14_method_43_code
def yX12_least : MethodName := ⟨RX12, "least", "(I)I"⟩
abbrev cX12_goThing : ByteArray := prog_14_method_44_code
def yX12_goThing : MethodName := ⟨RX12, "goThing", "(I)V"⟩
abbrev cX12_goMinute : ByteArray := prog_14_method_45_code
def yX12_goMinute : MethodName := ⟨RX12, "goMinute", "()V"⟩
abbrev cX12_remembers : ByteArray := prog_14_method_46_code
def yX12_remembers : MethodName := ⟨RX12, "remembers", "()V"⟩
abbrev cX12_minutes : ByteArray := prog_14_method_47_code
def yX12_minutes : MethodName := ⟨RX12, "minutes", "(I)I"⟩
abbrev cX12_turn : ByteArray := prog_14_method_48_code
def yX12_turn : MethodName := ⟨RX12, "turn", "(I)I"⟩
abbrev cX12_isTaken : ByteArray := prog_14_method_49_code
def yX12_isTaken : MethodName := ⟨RX12, "isTaken", "(II)Z"⟩
abbrev cX12_move : ByteArray := prog_14_method_50_code
def yX12_move : MethodName := ⟨RX12, "move", "(II)I"⟩
abbrev cX12_adds : ByteArray := prog_14_method_51_code
def yX12_adds : MethodName := ⟨RX12, "adds", "(II)V"⟩
abbrev cX12_coal : ByteArray := prog_14_method_52_code
def yX12_coal : MethodName := ⟨RX12, "coal", "(II)I"⟩
abbrev cX12_water : ByteArray := prog_14_method_53_code
def yX12_water : MethodName := ⟨RX12, "water", "()I"⟩
abbrev cX12_isThrough : ByteArray := prog_14_method_54_code
def yX12_isThrough : MethodName := ⟨RX12, "isThrough", "(I)Z"⟩
abbrev cX12_isWell : ByteArray := prog_14_method_55_code
def yX12_isWell : MethodName := ⟨RX12, "isWell", "(I)Z"⟩
abbrev cX12_servedNow : ByteArray := prog_14_method_56_code
def yX12_servedNow : MethodName := ⟨RX12, "servedNow", "()I"⟩
abbrev cX12_serve : ByteArray := prog_14_method_57_code
def yX12_serve : MethodName := ⟨RX12, "serve", "(II)I"⟩
abbrev cX12_undo : ByteArray := prog_14_method_58_code
def yX12_undo : MethodName := ⟨RX12, "undo", "()I"⟩
abbrev cX12_thing : ByteArray := prog_14_method_59_code
def yX12_thing : MethodName := ⟨RX12, "thing", "(II)I"⟩
abbrev cX12_eater : ByteArray := prog_14_method_60_code
def yX12_eater : MethodName := ⟨RX12, "eater", "(II)I"⟩
abbrev cX12_ember : ByteArray := prog_14_method_61_code
def yX12_ember : MethodName := ⟨RX12, "ember", "(II)I"⟩
abbrev cX12_heat : ByteArray := prog_14_method_62_code
def yX12_heat : MethodName := ⟨RX12, "heat", "(I)I"⟩
abbrev cX12_holds : ByteArray := prog_14_method_63_code
def yX12_holds : MethodName := ⟨RX12, "holds", "()V"⟩
abbrev cX12_putsBack : ByteArray := prog_14_method_64_code
def yX12_putsBack : MethodName := ⟨RX12, "putsBack", "()V"⟩
abbrev cX12_go : ByteArray := prog_14_method_65_code
def yX12_go : MethodName := ⟨RX12, "go", "(I)V"⟩
abbrev cX12_ahead : ByteArray := prog_14_method_66_code
def yX12_ahead : MethodName := ⟨RX12, "ahead", "(III)I"⟩
abbrev cX12_heatAhead : ByteArray := prog_14_method_67_code
def yX12_heatAhead : MethodName := ⟨RX12, "heatAhead", "(II)I"⟩
abbrev cX12_readyIn : ByteArray := prog_14_method_68_code
def yX12_readyIn : MethodName := ⟨RX12, "readyIn", "(II)I"⟩
abbrev cX12_ready : ByteArray := prog_14_method_69_code
def yX12_ready : MethodName := ⟨RX12, "ready", "(I)I"⟩
abbrev cX12_where : ByteArray := prog_14_method_70_code
def yX12_where : MethodName := ⟨RX12, "where", "(I)I"⟩
abbrev cX12_inTime : ByteArray := prog_14_method_71_code
def yX12_inTime : MethodName := ⟨RX12, "inTime", "(II)I"⟩
abbrev cX12_bits : ByteArray := prog_14_method_72_code
def yX12_bits : MethodName := ⟨RX12, "bits", "(I)I"⟩
abbrev cX12_isWellBy : ByteArray := prog_14_method_73_code
def yX12_isWellBy : MethodName := ⟨RX12, "isWellBy", "(III)Z"⟩
abbrev cX12_flips : ByteArray := prog_14_method_74_code
def yX12_flips : MethodName := ⟨RX12, "flips", "(III)I"⟩
abbrev cX12_start : ByteArray := prog_14_method_75_code
def yX12_start : MethodName := ⟨RX12, "start", "(III)I"⟩
abbrev cX12_fuelFor : ByteArray := prog_14_method_76_code
def yX12_fuelFor : MethodName := ⟨RX12, "fuelFor", "(II)I"⟩
abbrev cX12_mayGet : ByteArray := prog_14_method_77_code
def yX12_mayGet : MethodName := ⟨RX12, "mayGet", "(III)Z"⟩
abbrev cX12_most : ByteArray := prog_14_method_78_code
def yX12_most : MethodName := ⟨RX12, "most", "(III)I"⟩
abbrev cX12_servable : ByteArray := prog_14_method_79_code
def yX12_servable : MethodName := ⟨RX12, "servable", "(II)I"⟩
abbrev cX12_setOf : ByteArray := prog_14_method_80_code
def yX12_setOf : MethodName := ⟨RX12, "setOf", "(Z)I"⟩
abbrev cX12_handles : ByteArray := prog_14_method_81_code
def yX12_handles : MethodName := ⟨RX12, "handles", "()I"⟩
abbrev cX12_hand : ByteArray := prog_14_method_82_code
def yX12_hand : MethodName := ⟨RX12, "hand", "(II)I"⟩
abbrev cX12_areItems : ByteArray := prog_14_method_83_code
def yX12_areItems : MethodName := ⟨RX12, "areItems", "(III)Z"⟩
abbrev cX12_judged : ByteArray := prog_14_method_84_code
def yX12_judged : MethodName := ⟨RX12, "judged", "(III)I"⟩
abbrev cX12_fireNow : ByteArray := prog_14_method_85_code
def yX12_fireNow : MethodName := ⟨RX12, "fireNow", "()I"⟩
abbrev cX12_fuel : ByteArray := prog_14_method_86_code
def yX12_fuel : MethodName := ⟨RX12, "fuel", "()I"⟩
abbrev cX12_image : ByteArray := prog_14_method_87_code
def yX12_image : MethodName := ⟨RX12, "image", "(I)I"⟩
abbrev cX12_restore : ByteArray := prog_14_method_88_code
def yX12_restore : MethodName := ⟨RX12, "restore", "(I)I"⟩
abbrev cX12_kind : ByteArray := prog_14_method_89_code
def yX12_kind : MethodName := ⟨RX12, "kind", "(I)I"⟩
abbrev cX12_as : ByteArray := prog_14_method_90_code
def yX12_as : MethodName := ⟨RX12, "as", "(II)I"⟩
abbrev cX12_begins : ByteArray := prog_14_method_91_code
def yX12_begins : MethodName := ⟨RX12, "begins", "(I)V"⟩
abbrev cX12_lentSize : ByteArray := prog_14_method_92_code
def yX12_lentSize : MethodName := ⟨RX12, "lentSize", "(I)I"⟩
abbrev cX12_lentMark : ByteArray := prog_14_method_93_code
def yX12_lentMark : MethodName := ⟨RX12, "lentMark", "(I)I"⟩
abbrev cX12_sausageMark : ByteArray := prog_14_method_94_code
def yX12_sausageMark : MethodName := ⟨RX12, "sausageMark", "(I)I"⟩
abbrev cX12_markOfSausages : ByteArray := prog_14_method_95_code
def yX12_markOfSausages : MethodName := ⟨RX12, "markOfSausages", "(I)I"⟩
abbrev cX12_sausageSize : ByteArray := prog_14_method_96_code
def yX12_sausageSize : MethodName := ⟨RX12, "sausageSize", "(I)I"⟩
abbrev cX12_cheeseSize : ByteArray := prog_14_method_97_code
def yX12_cheeseSize : MethodName := ⟨RX12, "cheeseSize", "(I)I"⟩
abbrev cX12_sizeOfCheese : ByteArray := prog_14_method_98_code
def yX12_sizeOfCheese : MethodName := ⟨RX12, "sizeOfCheese", "(I)I"⟩
abbrev cX12_sizeOf : ByteArray := prog_14_method_99_code
def yX12_sizeOf : MethodName := ⟨RX12, "sizeOf", "(I)I"⟩
abbrev cX12_markOf : ByteArray := prog_14_method_100_code
def yX12_markOf : MethodName := ⟨RX12, "markOf", "(I)I"⟩
abbrev cX12_ask : ByteArray := prog_14_method_101_code
def yX12_ask : MethodName := ⟨RX12, "ask", "(II)I"⟩
abbrev cX12_trace : ByteArray := prog_14_method_102_code
def yX12_trace : MethodName := ⟨RX12, "trace", "(I)I"⟩
abbrev cX12_count : ByteArray := prog_14_method_103_code
def yX12_count : MethodName := ⟨RX12, "count", "(I)I"⟩
abbrev cX12_status : ByteArray := prog_14_method_104_code
def yX12_status : MethodName := ⟨RX12, "status", "()I"⟩
def RJ6 : String := "java/lang/Integer"
def TJ6 : u_T := fun k => match k with
  | _ => ("", "", "", false)
def tyJ6 : Nat → FieldType := fun k => match k with
  | _ => .int
abbrev wsJ60 : List Cond := u_ws RJ6 TJ6 0
theorem nmJ6 : ∀ a, a < 0 → ∀ b, b < 0 → a ≠ b → (TJ6 a).2.1 ≠ (TJ6 b).2.1 := by decide +kernel
theorem tyJ6_ok : ∀ k, k < 0 → parseFieldDescriptor (TJ6 k).2.2.1 = some (tyJ6 k) := by decide +kernel
abbrev cJ6_bitCount_0f7a4 : ByteArray := prog_15_method_49_code
def yJ6_bitCount_0f7a4 : MethodName := ⟨RJ6, "bitCount", "(I)I"⟩
def RJ9 : String := "java/lang/Math"
def TJ9 : u_T := fun k => match k with
  | _ => ("", "", "", false)
def tyJ9 : Nat → FieldType := fun k => match k with
  | _ => .int
abbrev wsJ90 : List Cond := u_ws RJ9 TJ9 0
theorem nmJ9 : ∀ a, a < 0 → ∀ b, b < 0 → a ≠ b → (TJ9 a).2.1 ≠ (TJ9 b).2.1 := by decide +kernel
theorem tyJ9_ok : ∀ k, k < 0 → parseFieldDescriptor (TJ9 k).2.2.1 = some (tyJ9 k) := by decide +kernel
abbrev cJ9_abs_0f7a4 : ByteArray := prog_16_method_59_code
def yJ9_abs_0f7a4 : MethodName := ⟨RJ9, "abs", "(I)I"⟩
abbrev cJ9_max_7cf53 : ByteArray := prog_16_method_65_code
def yJ9_max_7cf53 : MethodName := ⟨RJ9, "max", "(II)I"⟩
abbrev cJ9_min_7cf53 : ByteArray := prog_16_method_69_code
def yJ9_min_7cf53 : MethodName := ⟨RJ9, "min", "(II)I"⟩
def RJ10 : String := "java/lang/System"
def TJ10 : u_T := fun k => match k with
  | _ => ("", "", "", false)
def tyJ10 : Nat → FieldType := fun k => match k with
  | _ => .int
abbrev wsJ100 : List Cond := u_ws RJ10 TJ10 0
theorem nmJ10 : ∀ a, a < 0 → ∀ b, b < 0 → a ≠ b → (TJ10 a).2.1 ≠ (TJ10 b).2.1 := by decide +kernel
theorem tyJ10_ok : ∀ k, k < 0 → parseFieldDescriptor (TJ10 k).2.2.1 = some (tyJ10 k) := by decide +kernel
def RL : String := "CoalGrateLaw"
abbrev cL_law : ByteArray := code
def yL_law : MethodName := ⟨RL, "law", "([I)Z"⟩
