section
-- ===== PART A: goes FIRST, ahead of the names: the tables' words, and 'selects' of the private methods out of them =====
/-- a private method of a class that the tables say can be made, by its rows of tables_1 -/
def lw_okq (q : MethodName × Nat) : Prop := (q.1.cls ≠ "java/lang/invoke/MethodHandle" ∧ q.1.cls ≠ "java/lang/invoke/VarHandle") ∧ Cond.instantiable q.1.cls q.2 ∈ tables_1 ∧ Cond.privateMethod q.1 ∈ tables_1 ∧ Cond.instanceMethod q.1 ∈ tables_1
theorem lw_p0 : lw_okq (⟨"CoalGrate", "found", "(I)I"⟩, 17) := ⟨⟨by decide +kernel, by decide +kernel⟩, List.mem_of_getElem? (i := 18) (by decide +kernel), List.mem_of_getElem? (i := 345) (by decide +kernel), List.mem_of_getElem? (i := 346) (by decide +kernel)⟩
theorem lw_p1 : lw_okq (⟨"CoalGrate", "answered", "(I)I"⟩, 17) := ⟨⟨by decide +kernel, by decide +kernel⟩, List.mem_of_getElem? (i := 18) (by decide +kernel), List.mem_of_getElem? (i := 354) (by decide +kernel), List.mem_of_getElem? (i := 355) (by decide +kernel)⟩
theorem lw_p2 : lw_okq (⟨"CoalGrate", "remember", "()V"⟩, 17) := ⟨⟨by decide +kernel, by decide +kernel⟩, List.mem_of_getElem? (i := 18) (by decide +kernel), List.mem_of_getElem? (i := 499) (by decide +kernel), List.mem_of_getElem? (i := 500) (by decide +kernel)⟩
theorem lw_p3 : lw_okq (⟨"CoalGrate", "tryAsItLies", "(LCoalGrate$Thing;I)V"⟩, 17) := ⟨⟨by decide +kernel, by decide +kernel⟩, List.mem_of_getElem? (i := 18) (by decide +kernel), List.mem_of_getElem? (i := 696) (by decide +kernel), List.mem_of_getElem? (i := 697) (by decide +kernel)⟩
theorem lw_p4 : lw_okq (⟨"CoalGrate", "readyAt", "(LCoalGrate$Thing;II)I"⟩, 17) := ⟨⟨by decide +kernel, by decide +kernel⟩, List.mem_of_getElem? (i := 18) (by decide +kernel), List.mem_of_getElem? (i := 715) (by decide +kernel), List.mem_of_getElem? (i := 716) (by decide +kernel)⟩
theorem lw_p5 : lw_okq (⟨"CoalGrate", "foretellWarmth", "(II)V"⟩, 17) := ⟨⟨by decide +kernel, by decide +kernel⟩, List.mem_of_getElem? (i := 18) (by decide +kernel), List.mem_of_getElem? (i := 731) (by decide +kernel), List.mem_of_getElem? (i := 732) (by decide +kernel)⟩
theorem lw_p6 : lw_okq (⟨"CoalGrate", "tryFlips", "(IIIIII)V"⟩, 17) := ⟨⟨by decide +kernel, by decide +kernel⟩, List.mem_of_getElem? (i := 18) (by decide +kernel), List.mem_of_getElem? (i := 735) (by decide +kernel), List.mem_of_getElem? (i := 736) (by decide +kernel)⟩
theorem lw_p7 : lw_okq (⟨"CoalGrate", "isBetterWay", "(I)Z"⟩, 17) := ⟨⟨by decide +kernel, by decide +kernel⟩, List.mem_of_getElem? (i := 18) (by decide +kernel), List.mem_of_getElem? (i := 739) (by decide +kernel), List.mem_of_getElem? (i := 740) (by decide +kernel)⟩
theorem lw_p8 : lw_okq (⟨"CoalGrate", "tryMinute", "(IIIIII)V"⟩, 17) := ⟨⟨by decide +kernel, by decide +kernel⟩, List.mem_of_getElem? (i := 18) (by decide +kernel), List.mem_of_getElem? (i := 749) (by decide +kernel), List.mem_of_getElem? (i := 750) (by decide +kernel)⟩
theorem lw_p9 : lw_okq (⟨"CoalGrate", "isDoneStarting", "(LCoalGrate$Thing;III)Z"⟩, 17) := ⟨⟨by decide +kernel, by decide +kernel⟩, List.mem_of_getElem? (i := 18) (by decide +kernel), List.mem_of_getElem? (i := 758) (by decide +kernel), List.mem_of_getElem? (i := 759) (by decide +kernel)⟩
theorem lw_p10 : lw_okq (⟨"CoalGrate", "isDoneWithCoal", "(LCoalGrate$Thing;II)Z"⟩, 17) := ⟨⟨by decide +kernel, by decide +kernel⟩, List.mem_of_getElem? (i := 18) (by decide +kernel), List.mem_of_getElem? (i := 767) (by decide +kernel), List.mem_of_getElem? (i := 768) (by decide +kernel)⟩
theorem lw_p11 : lw_okq (⟨"CoalGrate", "doneAhead", "(I)I"⟩, 17) := ⟨⟨by decide +kernel, by decide +kernel⟩, List.mem_of_getElem? (i := 18) (by decide +kernel), List.mem_of_getElem? (i := 777) (by decide +kernel), List.mem_of_getElem? (i := 778) (by decide +kernel)⟩
theorem lw_p12 : lw_okq (⟨"CoalGrate", "firstFor", "(III)I"⟩, 17) := ⟨⟨by decide +kernel, by decide +kernel⟩, List.mem_of_getElem? (i := 18) (by decide +kernel), List.mem_of_getElem? (i := 781) (by decide +kernel), List.mem_of_getElem? (i := 782) (by decide +kernel)⟩
theorem lw_p13 : lw_okq (⟨"CoalGrate", "tryWholeYard", "()V"⟩, 17) := ⟨⟨by decide +kernel, by decide +kernel⟩, List.mem_of_getElem? (i := 18) (by decide +kernel), List.mem_of_getElem? (i := 789) (by decide +kernel), List.mem_of_getElem? (i := 790) (by decide +kernel)⟩
theorem lw_p14 : lw_okq (⟨"CoalGrate", "tellsTurns", "(III)Z"⟩, 17) := ⟨⟨by decide +kernel, by decide +kernel⟩, List.mem_of_getElem? (i := 18) (by decide +kernel), List.mem_of_getElem? (i := 810) (by decide +kernel), List.mem_of_getElem? (i := 811) (by decide +kernel)⟩
theorem lw_p15 : lw_okq (⟨"CoalGrateModel", "found", "(I)I"⟩, 24) := ⟨⟨by decide +kernel, by decide +kernel⟩, List.mem_of_getElem? (i := 923) (by decide +kernel), List.mem_of_getElem? (i := 1014) (by decide +kernel), List.mem_of_getElem? (i := 1015) (by decide +kernel)⟩
def lw_privs_1 : List (MethodName × Nat) := [(⟨"CoalGrate", "found", "(I)I"⟩, 17), (⟨"CoalGrate", "answered", "(I)I"⟩, 17), (⟨"CoalGrate", "remember", "()V"⟩, 17), (⟨"CoalGrate", "tryAsItLies", "(LCoalGrate$Thing;I)V"⟩, 17), (⟨"CoalGrate", "readyAt", "(LCoalGrate$Thing;II)I"⟩, 17), (⟨"CoalGrate", "foretellWarmth", "(II)V"⟩, 17), (⟨"CoalGrate", "tryFlips", "(IIIIII)V"⟩, 17), (⟨"CoalGrate", "isBetterWay", "(I)Z"⟩, 17), (⟨"CoalGrate", "tryMinute", "(IIIIII)V"⟩, 17), (⟨"CoalGrate", "isDoneStarting", "(LCoalGrate$Thing;III)Z"⟩, 17), (⟨"CoalGrate", "isDoneWithCoal", "(LCoalGrate$Thing;II)Z"⟩, 17), (⟨"CoalGrate", "doneAhead", "(I)I"⟩, 17), (⟨"CoalGrate", "firstFor", "(III)I"⟩, 17), (⟨"CoalGrate", "tryWholeYard", "()V"⟩, 17), (⟨"CoalGrate", "tellsTurns", "(III)Z"⟩, 17), (⟨"CoalGrateModel", "found", "(I)I"⟩, 24)]
theorem lw_r1 : ∀ q ∈ lw_privs_1, lw_okq q := List.forall_mem_cons.mpr ⟨lw_p0, List.forall_mem_cons.mpr ⟨lw_p1, List.forall_mem_cons.mpr ⟨lw_p2, List.forall_mem_cons.mpr ⟨lw_p3, List.forall_mem_cons.mpr ⟨lw_p4, List.forall_mem_cons.mpr ⟨lw_p5, List.forall_mem_cons.mpr ⟨lw_p6, List.forall_mem_cons.mpr ⟨lw_p7, List.forall_mem_cons.mpr ⟨lw_p8, List.forall_mem_cons.mpr ⟨lw_p9, List.forall_mem_cons.mpr ⟨lw_p10, List.forall_mem_cons.mpr ⟨lw_p11, List.forall_mem_cons.mpr ⟨lw_p12, List.forall_mem_cons.mpr ⟨lw_p13, List.forall_mem_cons.mpr ⟨lw_p14, List.forall_mem_cons.mpr ⟨lw_p15, fun _ h => absurd h List.not_mem_nil⟩⟩⟩⟩⟩⟩⟩⟩⟩⟩⟩⟩⟩⟩⟩⟩
theorem lw_p16 : lw_okq (⟨"CoalGrateModel", "well", "(I)I"⟩, 24) := ⟨⟨by decide +kernel, by decide +kernel⟩, List.mem_of_getElem? (i := 923) (by decide +kernel), List.mem_of_getElem? (i := 1019) (by decide +kernel), List.mem_of_getElem? (i := 1020) (by decide +kernel)⟩
theorem lw_p17 : lw_okq (⟨"CoalGrateModel", "isSpan", "(III)Z"⟩, 24) := ⟨⟨by decide +kernel, by decide +kernel⟩, List.mem_of_getElem? (i := 923) (by decide +kernel), List.mem_of_getElem? (i := 1031) (by decide +kernel), List.mem_of_getElem? (i := 1032) (by decide +kernel)⟩
theorem lw_p18 : lw_okq (⟨"CoalGrateModel", "next", "()V"⟩, 24) := ⟨⟨by decide +kernel, by decide +kernel⟩, List.mem_of_getElem? (i := 923) (by decide +kernel), List.mem_of_getElem? (i := 1048) (by decide +kernel), List.mem_of_getElem? (i := 1049) (by decide +kernel)⟩
theorem lw_p19 : lw_okq (⟨"CoalGrateModel", "byteAt", "(I)I"⟩, 24) := ⟨⟨by decide +kernel, by decide +kernel⟩, List.mem_of_getElem? (i := 923) (by decide +kernel), List.mem_of_getElem? (i := 1052) (by decide +kernel), List.mem_of_getElem? (i := 1053) (by decide +kernel)⟩
theorem lw_p20 : lw_okq (⟨"CoalGrateModel", "readGrate", "()V"⟩, 24) := ⟨⟨by decide +kernel, by decide +kernel⟩, List.mem_of_getElem? (i := 923) (by decide +kernel), List.mem_of_getElem? (i := 1056) (by decide +kernel), List.mem_of_getElem? (i := 1057) (by decide +kernel)⟩
theorem lw_p21 : lw_okq (⟨"CoalGrateModel", "must", "(ZI)V"⟩, 24) := ⟨⟨by decide +kernel, by decide +kernel⟩, List.mem_of_getElem? (i := 923) (by decide +kernel), List.mem_of_getElem? (i := 1060) (by decide +kernel), List.mem_of_getElem? (i := 1061) (by decide +kernel)⟩
theorem lw_p22 : lw_okq (⟨"CoalGrateModel", "goesOn", "()V"⟩, 24) := ⟨⟨by decide +kernel, by decide +kernel⟩, List.mem_of_getElem? (i := 923) (by decide +kernel), List.mem_of_getElem? (i := 1064) (by decide +kernel), List.mem_of_getElem? (i := 1065) (by decide +kernel)⟩
theorem lw_p23 : lw_okq (⟨"CoalGrateModel", "readNumber", "(II)I"⟩, 24) := ⟨⟨by decide +kernel, by decide +kernel⟩, List.mem_of_getElem? (i := 923) (by decide +kernel), List.mem_of_getElem? (i := 1068) (by decide +kernel), List.mem_of_getElem? (i := 1069) (by decide +kernel)⟩
theorem lw_p24 : lw_okq (⟨"CoalGrateModel", "readSign", "(I)V"⟩, 24) := ⟨⟨by decide +kernel, by decide +kernel⟩, List.mem_of_getElem? (i := 923) (by decide +kernel), List.mem_of_getElem? (i := 1072) (by decide +kernel), List.mem_of_getElem? (i := 1073) (by decide +kernel)⟩
theorem lw_p25 : lw_okq (⟨"CoalGrateModel", "isLetter", "(I)Z"⟩, 24) := ⟨⟨by decide +kernel, by decide +kernel⟩, List.mem_of_getElem? (i := 923) (by decide +kernel), List.mem_of_getElem? (i := 1076) (by decide +kernel), List.mem_of_getElem? (i := 1077) (by decide +kernel)⟩
theorem lw_p26 : lw_okq (⟨"CoalGrateModel", "readCoal", "()V"⟩, 24) := ⟨⟨by decide +kernel, by decide +kernel⟩, List.mem_of_getElem? (i := 923) (by decide +kernel), List.mem_of_getElem? (i := 1080) (by decide +kernel), List.mem_of_getElem? (i := 1081) (by decide +kernel)⟩
theorem lw_p27 : lw_okq (⟨"CoalGrateModel", "isSort", "()Z"⟩, 24) := ⟨⟨by decide +kernel, by decide +kernel⟩, List.mem_of_getElem? (i := 923) (by decide +kernel), List.mem_of_getElem? (i := 1084) (by decide +kernel), List.mem_of_getElem? (i := 1085) (by decide +kernel)⟩
theorem lw_p28 : lw_okq (⟨"CoalGrateModel", "sortOf", "(I)I"⟩, 24) := ⟨⟨by decide +kernel, by decide +kernel⟩, List.mem_of_getElem? (i := 923) (by decide +kernel), List.mem_of_getElem? (i := 1088) (by decide +kernel), List.mem_of_getElem? (i := 1089) (by decide +kernel)⟩
theorem lw_p29 : lw_okq (⟨"CoalGrateModel", "readThing", "()V"⟩, 24) := ⟨⟨by decide +kernel, by decide +kernel⟩, List.mem_of_getElem? (i := 923) (by decide +kernel), List.mem_of_getElem? (i := 1092) (by decide +kernel), List.mem_of_getElem? (i := 1093) (by decide +kernel)⟩
theorem lw_p30 : lw_okq (⟨"CoalGrateModel", "isTold", "(I)Z"⟩, 24) := ⟨⟨by decide +kernel, by decide +kernel⟩, List.mem_of_getElem? (i := 923) (by decide +kernel), List.mem_of_getElem? (i := 1096) (by decide +kernel), List.mem_of_getElem? (i := 1097) (by decide +kernel)⟩
theorem lw_p31 : lw_okq (⟨"CoalGrateModel", "readEater", "()V"⟩, 24) := ⟨⟨by decide +kernel, by decide +kernel⟩, List.mem_of_getElem? (i := 923) (by decide +kernel), List.mem_of_getElem? (i := 1100) (by decide +kernel), List.mem_of_getElem? (i := 1101) (by decide +kernel)⟩
def lw_privs_2 : List (MethodName × Nat) := [(⟨"CoalGrateModel", "well", "(I)I"⟩, 24), (⟨"CoalGrateModel", "isSpan", "(III)Z"⟩, 24), (⟨"CoalGrateModel", "next", "()V"⟩, 24), (⟨"CoalGrateModel", "byteAt", "(I)I"⟩, 24), (⟨"CoalGrateModel", "readGrate", "()V"⟩, 24), (⟨"CoalGrateModel", "must", "(ZI)V"⟩, 24), (⟨"CoalGrateModel", "goesOn", "()V"⟩, 24), (⟨"CoalGrateModel", "readNumber", "(II)I"⟩, 24), (⟨"CoalGrateModel", "readSign", "(I)V"⟩, 24), (⟨"CoalGrateModel", "isLetter", "(I)Z"⟩, 24), (⟨"CoalGrateModel", "readCoal", "()V"⟩, 24), (⟨"CoalGrateModel", "isSort", "()Z"⟩, 24), (⟨"CoalGrateModel", "sortOf", "(I)I"⟩, 24), (⟨"CoalGrateModel", "readThing", "()V"⟩, 24), (⟨"CoalGrateModel", "isTold", "(I)Z"⟩, 24), (⟨"CoalGrateModel", "readEater", "()V"⟩, 24)]
theorem lw_r2 : ∀ q ∈ lw_privs_2, lw_okq q := List.forall_mem_cons.mpr ⟨lw_p16, List.forall_mem_cons.mpr ⟨lw_p17, List.forall_mem_cons.mpr ⟨lw_p18, List.forall_mem_cons.mpr ⟨lw_p19, List.forall_mem_cons.mpr ⟨lw_p20, List.forall_mem_cons.mpr ⟨lw_p21, List.forall_mem_cons.mpr ⟨lw_p22, List.forall_mem_cons.mpr ⟨lw_p23, List.forall_mem_cons.mpr ⟨lw_p24, List.forall_mem_cons.mpr ⟨lw_p25, List.forall_mem_cons.mpr ⟨lw_p26, List.forall_mem_cons.mpr ⟨lw_p27, List.forall_mem_cons.mpr ⟨lw_p28, List.forall_mem_cons.mpr ⟨lw_p29, List.forall_mem_cons.mpr ⟨lw_p30, List.forall_mem_cons.mpr ⟨lw_p31, fun _ h => absurd h List.not_mem_nil⟩⟩⟩⟩⟩⟩⟩⟩⟩⟩⟩⟩⟩⟩⟩⟩
theorem lw_p32 : lw_okq (⟨"CoalGrateModel", "isYard", "()Z"⟩, 24) := ⟨⟨by decide +kernel, by decide +kernel⟩, List.mem_of_getElem? (i := 923) (by decide +kernel), List.mem_of_getElem? (i := 1113) (by decide +kernel), List.mem_of_getElem? (i := 1114) (by decide +kernel)⟩
theorem lw_p33 : lw_okq (⟨"CoalGrateModel", "remembers", "()V"⟩, 24) := ⟨⟨by decide +kernel, by decide +kernel⟩, List.mem_of_getElem? (i := 923) (by decide +kernel), List.mem_of_getElem? (i := 1118) (by decide +kernel), List.mem_of_getElem? (i := 1119) (by decide +kernel)⟩
theorem lw_p34 : lw_okq (⟨"CoalGrateModel", "goMinute", "()V"⟩, 24) := ⟨⟨by decide +kernel, by decide +kernel⟩, List.mem_of_getElem? (i := 923) (by decide +kernel), List.mem_of_getElem? (i := 1122) (by decide +kernel), List.mem_of_getElem? (i := 1123) (by decide +kernel)⟩
theorem lw_p35 : lw_okq (⟨"CoalGrateModel", "isOn", "(I)Z"⟩, 24) := ⟨⟨by decide +kernel, by decide +kernel⟩, List.mem_of_getElem? (i := 923) (by decide +kernel), List.mem_of_getElem? (i := 1126) (by decide +kernel), List.mem_of_getElem? (i := 1127) (by decide +kernel)⟩
theorem lw_p36 : lw_okq (⟨"CoalGrateModel", "heatOf", "(I)I"⟩, 24) := ⟨⟨by decide +kernel, by decide +kernel⟩, List.mem_of_getElem? (i := 923) (by decide +kernel), List.mem_of_getElem? (i := 1130) (by decide +kernel), List.mem_of_getElem? (i := 1131) (by decide +kernel)⟩
theorem lw_p37 : lw_okq (⟨"CoalGrateModel", "below", "(I)I"⟩, 24) := ⟨⟨by decide +kernel, by decide +kernel⟩, List.mem_of_getElem? (i := 923) (by decide +kernel), List.mem_of_getElem? (i := 1143) (by decide +kernel), List.mem_of_getElem? (i := 1144) (by decide +kernel)⟩
theorem lw_p38 : lw_okq (⟨"CoalGrateModel", "isGone", "(I)Z"⟩, 24) := ⟨⟨by decide +kernel, by decide +kernel⟩, List.mem_of_getElem? (i := 923) (by decide +kernel), List.mem_of_getElem? (i := 1147) (by decide +kernel), List.mem_of_getElem? (i := 1148) (by decide +kernel)⟩
theorem lw_p39 : lw_okq (⟨"CoalGrateModel", "goThing", "(I)V"⟩, 24) := ⟨⟨by decide +kernel, by decide +kernel⟩, List.mem_of_getElem? (i := 923) (by decide +kernel), List.mem_of_getElem? (i := 1151) (by decide +kernel), List.mem_of_getElem? (i := 1152) (by decide +kernel)⟩
theorem lw_p40 : lw_okq (⟨"CoalGrateModel", "thick", "(I)I"⟩, 24) := ⟨⟨by decide +kernel, by decide +kernel⟩, List.mem_of_getElem? (i := 923) (by decide +kernel), List.mem_of_getElem? (i := 1158) (by decide +kernel), List.mem_of_getElem? (i := 1159) (by decide +kernel)⟩
theorem lw_p41 : lw_okq (⟨"CoalGrateModel", "limit", "(I)I"⟩, 24) := ⟨⟨by decide +kernel, by decide +kernel⟩, List.mem_of_getElem? (i := 923) (by decide +kernel), List.mem_of_getElem? (i := 1162) (by decide +kernel), List.mem_of_getElem? (i := 1163) (by decide +kernel)⟩
theorem lw_p42 : lw_okq (⟨"CoalGrateModel", "isThing", "(I)Z"⟩, 24) := ⟨⟨by decide +kernel, by decide +kernel⟩, List.mem_of_getElem? (i := 923) (by decide +kernel), List.mem_of_getElem? (i := 1170) (by decide +kernel), List.mem_of_getElem? (i := 1171) (by decide +kernel)⟩
theorem lw_p43 : lw_okq (⟨"CoalGrateModel", "isTaken", "(II)Z"⟩, 24) := ⟨⟨by decide +kernel, by decide +kernel⟩, List.mem_of_getElem? (i := 923) (by decide +kernel), List.mem_of_getElem? (i := 1178) (by decide +kernel), List.mem_of_getElem? (i := 1179) (by decide +kernel)⟩
theorem lw_p44 : lw_okq (⟨"CoalGrateModel", "adds", "(II)V"⟩, 24) := ⟨⟨by decide +kernel, by decide +kernel⟩, List.mem_of_getElem? (i := 923) (by decide +kernel), List.mem_of_getElem? (i := 1186) (by decide +kernel), List.mem_of_getElem? (i := 1187) (by decide +kernel)⟩
theorem lw_p45 : lw_okq (⟨"CoalGrateModel", "isWell", "(I)Z"⟩, 24) := ⟨⟨by decide +kernel, by decide +kernel⟩, List.mem_of_getElem? (i := 923) (by decide +kernel), List.mem_of_getElem? (i := 1198) (by decide +kernel), List.mem_of_getElem? (i := 1199) (by decide +kernel)⟩
theorem lw_p46 : lw_okq (⟨"CoalGrateModel", "isThrough", "(I)Z"⟩, 24) := ⟨⟨by decide +kernel, by decide +kernel⟩, List.mem_of_getElem? (i := 923) (by decide +kernel), List.mem_of_getElem? (i := 1202) (by decide +kernel), List.mem_of_getElem? (i := 1203) (by decide +kernel)⟩
theorem lw_p47 : lw_okq (⟨"CoalGrateModel", "need", "(I)I"⟩, 24) := ⟨⟨by decide +kernel, by decide +kernel⟩, List.mem_of_getElem? (i := 923) (by decide +kernel), List.mem_of_getElem? (i := 1206) (by decide +kernel), List.mem_of_getElem? (i := 1207) (by decide +kernel)⟩
def lw_privs_3 : List (MethodName × Nat) := [(⟨"CoalGrateModel", "isYard", "()Z"⟩, 24), (⟨"CoalGrateModel", "remembers", "()V"⟩, 24), (⟨"CoalGrateModel", "goMinute", "()V"⟩, 24), (⟨"CoalGrateModel", "isOn", "(I)Z"⟩, 24), (⟨"CoalGrateModel", "heatOf", "(I)I"⟩, 24), (⟨"CoalGrateModel", "below", "(I)I"⟩, 24), (⟨"CoalGrateModel", "isGone", "(I)Z"⟩, 24), (⟨"CoalGrateModel", "goThing", "(I)V"⟩, 24), (⟨"CoalGrateModel", "thick", "(I)I"⟩, 24), (⟨"CoalGrateModel", "limit", "(I)I"⟩, 24), (⟨"CoalGrateModel", "isThing", "(I)Z"⟩, 24), (⟨"CoalGrateModel", "isTaken", "(II)Z"⟩, 24), (⟨"CoalGrateModel", "adds", "(II)V"⟩, 24), (⟨"CoalGrateModel", "isWell", "(I)Z"⟩, 24), (⟨"CoalGrateModel", "isThrough", "(I)Z"⟩, 24), (⟨"CoalGrateModel", "need", "(I)I"⟩, 24)]
theorem lw_r3 : ∀ q ∈ lw_privs_3, lw_okq q := List.forall_mem_cons.mpr ⟨lw_p32, List.forall_mem_cons.mpr ⟨lw_p33, List.forall_mem_cons.mpr ⟨lw_p34, List.forall_mem_cons.mpr ⟨lw_p35, List.forall_mem_cons.mpr ⟨lw_p36, List.forall_mem_cons.mpr ⟨lw_p37, List.forall_mem_cons.mpr ⟨lw_p38, List.forall_mem_cons.mpr ⟨lw_p39, List.forall_mem_cons.mpr ⟨lw_p40, List.forall_mem_cons.mpr ⟨lw_p41, List.forall_mem_cons.mpr ⟨lw_p42, List.forall_mem_cons.mpr ⟨lw_p43, List.forall_mem_cons.mpr ⟨lw_p44, List.forall_mem_cons.mpr ⟨lw_p45, List.forall_mem_cons.mpr ⟨lw_p46, List.forall_mem_cons.mpr ⟨lw_p47, fun _ h => absurd h List.not_mem_nil⟩⟩⟩⟩⟩⟩⟩⟩⟩⟩⟩⟩⟩⟩⟩⟩
theorem lw_p48 : lw_okq (⟨"CoalGrateModel", "servedNow", "()I"⟩, 24) := ⟨⟨by decide +kernel, by decide +kernel⟩, List.mem_of_getElem? (i := 923) (by decide +kernel), List.mem_of_getElem? (i := 1210) (by decide +kernel), List.mem_of_getElem? (i := 1211) (by decide +kernel)⟩
theorem lw_p49 : lw_okq (⟨"CoalGrateModel", "holds", "()V"⟩, 24) := ⟨⟨by decide +kernel, by decide +kernel⟩, List.mem_of_getElem? (i := 923) (by decide +kernel), List.mem_of_getElem? (i := 1238) (by decide +kernel), List.mem_of_getElem? (i := 1239) (by decide +kernel)⟩
theorem lw_p50 : lw_okq (⟨"CoalGrateModel", "go", "(I)V"⟩, 24) := ⟨⟨by decide +kernel, by decide +kernel⟩, List.mem_of_getElem? (i := 923) (by decide +kernel), List.mem_of_getElem? (i := 1242) (by decide +kernel), List.mem_of_getElem? (i := 1243) (by decide +kernel)⟩
theorem lw_p51 : lw_okq (⟨"CoalGrateModel", "above", "(I)I"⟩, 24) := ⟨⟨by decide +kernel, by decide +kernel⟩, List.mem_of_getElem? (i := 923) (by decide +kernel), List.mem_of_getElem? (i := 1246) (by decide +kernel), List.mem_of_getElem? (i := 1247) (by decide +kernel)⟩
theorem lw_p52 : lw_okq (⟨"CoalGrateModel", "putsBack", "()V"⟩, 24) := ⟨⟨by decide +kernel, by decide +kernel⟩, List.mem_of_getElem? (i := 923) (by decide +kernel), List.mem_of_getElem? (i := 1250) (by decide +kernel), List.mem_of_getElem? (i := 1251) (by decide +kernel)⟩
theorem lw_p53 : lw_okq (⟨"CoalGrateModel", "readyIn", "(II)I"⟩, 24) := ⟨⟨by decide +kernel, by decide +kernel⟩, List.mem_of_getElem? (i := 923) (by decide +kernel), List.mem_of_getElem? (i := 1262) (by decide +kernel), List.mem_of_getElem? (i := 1263) (by decide +kernel)⟩
theorem lw_p54 : lw_okq (⟨"CoalGrateModel", "isWellBy", "(III)Z"⟩, 24) := ⟨⟨by decide +kernel, by decide +kernel⟩, List.mem_of_getElem? (i := 923) (by decide +kernel), List.mem_of_getElem? (i := 1281) (by decide +kernel), List.mem_of_getElem? (i := 1282) (by decide +kernel)⟩
theorem lw_p55 : lw_okq (⟨"CoalGrateModel", "most", "(III)I"⟩, 24) := ⟨⟨by decide +kernel, by decide +kernel⟩, List.mem_of_getElem? (i := 923) (by decide +kernel), List.mem_of_getElem? (i := 1297) (by decide +kernel), List.mem_of_getElem? (i := 1298) (by decide +kernel)⟩
theorem lw_p56 : lw_okq (⟨"CoalGrateModel", "mayGet", "(III)Z"⟩, 24) := ⟨⟨by decide +kernel, by decide +kernel⟩, List.mem_of_getElem? (i := 923) (by decide +kernel), List.mem_of_getElem? (i := 1304) (by decide +kernel), List.mem_of_getElem? (i := 1305) (by decide +kernel)⟩
theorem lw_p57 : lw_okq (⟨"CoalGrateModel", "handles", "()I"⟩, 24) := ⟨⟨by decide +kernel, by decide +kernel⟩, List.mem_of_getElem? (i := 923) (by decide +kernel), List.mem_of_getElem? (i := 1312) (by decide +kernel), List.mem_of_getElem? (i := 1313) (by decide +kernel)⟩
theorem lw_p58 : lw_okq (⟨"CoalGrateModel", "setOf", "(Z)I"⟩, 24) := ⟨⟨by decide +kernel, by decide +kernel⟩, List.mem_of_getElem? (i := 923) (by decide +kernel), List.mem_of_getElem? (i := 1316) (by decide +kernel), List.mem_of_getElem? (i := 1317) (by decide +kernel)⟩
theorem lw_p59 : lw_okq (⟨"CoalGrateModel", "areItems", "(III)Z"⟩, 24) := ⟨⟨by decide +kernel, by decide +kernel⟩, List.mem_of_getElem? (i := 923) (by decide +kernel), List.mem_of_getElem? (i := 1324) (by decide +kernel), List.mem_of_getElem? (i := 1325) (by decide +kernel)⟩
theorem lw_p60 : lw_okq (⟨"CoalGrateModel", "fireNow", "()I"⟩, 24) := ⟨⟨by decide +kernel, by decide +kernel⟩, List.mem_of_getElem? (i := 923) (by decide +kernel), List.mem_of_getElem? (i := 1332) (by decide +kernel), List.mem_of_getElem? (i := 1333) (by decide +kernel)⟩
theorem lw_p61 : lw_okq (⟨"CoalGrateModel", "sizeOf", "(I)I"⟩, 24) := ⟨⟨by decide +kernel, by decide +kernel⟩, List.mem_of_getElem? (i := 923) (by decide +kernel), List.mem_of_getElem? (i := 1356) (by decide +kernel), List.mem_of_getElem? (i := 1357) (by decide +kernel)⟩
theorem lw_p62 : lw_okq (⟨"CoalGrateModel", "sizeOfCheese", "(I)I"⟩, 24) := ⟨⟨by decide +kernel, by decide +kernel⟩, List.mem_of_getElem? (i := 923) (by decide +kernel), List.mem_of_getElem? (i := 1360) (by decide +kernel), List.mem_of_getElem? (i := 1361) (by decide +kernel)⟩
theorem lw_p63 : lw_okq (⟨"CoalGrateModel", "begins", "(I)V"⟩, 24) := ⟨⟨by decide +kernel, by decide +kernel⟩, List.mem_of_getElem? (i := 923) (by decide +kernel), List.mem_of_getElem? (i := 1364) (by decide +kernel), List.mem_of_getElem? (i := 1365) (by decide +kernel)⟩
def lw_privs_4 : List (MethodName × Nat) := [(⟨"CoalGrateModel", "servedNow", "()I"⟩, 24), (⟨"CoalGrateModel", "holds", "()V"⟩, 24), (⟨"CoalGrateModel", "go", "(I)V"⟩, 24), (⟨"CoalGrateModel", "above", "(I)I"⟩, 24), (⟨"CoalGrateModel", "putsBack", "()V"⟩, 24), (⟨"CoalGrateModel", "readyIn", "(II)I"⟩, 24), (⟨"CoalGrateModel", "isWellBy", "(III)Z"⟩, 24), (⟨"CoalGrateModel", "most", "(III)I"⟩, 24), (⟨"CoalGrateModel", "mayGet", "(III)Z"⟩, 24), (⟨"CoalGrateModel", "handles", "()I"⟩, 24), (⟨"CoalGrateModel", "setOf", "(Z)I"⟩, 24), (⟨"CoalGrateModel", "areItems", "(III)Z"⟩, 24), (⟨"CoalGrateModel", "fireNow", "()I"⟩, 24), (⟨"CoalGrateModel", "sizeOf", "(I)I"⟩, 24), (⟨"CoalGrateModel", "sizeOfCheese", "(I)I"⟩, 24), (⟨"CoalGrateModel", "begins", "(I)V"⟩, 24)]
theorem lw_r4 : ∀ q ∈ lw_privs_4, lw_okq q := List.forall_mem_cons.mpr ⟨lw_p48, List.forall_mem_cons.mpr ⟨lw_p49, List.forall_mem_cons.mpr ⟨lw_p50, List.forall_mem_cons.mpr ⟨lw_p51, List.forall_mem_cons.mpr ⟨lw_p52, List.forall_mem_cons.mpr ⟨lw_p53, List.forall_mem_cons.mpr ⟨lw_p54, List.forall_mem_cons.mpr ⟨lw_p55, List.forall_mem_cons.mpr ⟨lw_p56, List.forall_mem_cons.mpr ⟨lw_p57, List.forall_mem_cons.mpr ⟨lw_p58, List.forall_mem_cons.mpr ⟨lw_p59, List.forall_mem_cons.mpr ⟨lw_p60, List.forall_mem_cons.mpr ⟨lw_p61, List.forall_mem_cons.mpr ⟨lw_p62, List.forall_mem_cons.mpr ⟨lw_p63, fun _ h => absurd h List.not_mem_nil⟩⟩⟩⟩⟩⟩⟩⟩⟩⟩⟩⟩⟩⟩⟩⟩
theorem lw_p64 : lw_okq (⟨"CoalGrateModel", "cheeseSize", "(I)I"⟩, 24) := ⟨⟨by decide +kernel, by decide +kernel⟩, List.mem_of_getElem? (i := 923) (by decide +kernel), List.mem_of_getElem? (i := 1368) (by decide +kernel), List.mem_of_getElem? (i := 1369) (by decide +kernel)⟩
theorem lw_p65 : lw_okq (⟨"CoalGrateModel", "lentSize", "(I)I"⟩, 24) := ⟨⟨by decide +kernel, by decide +kernel⟩, List.mem_of_getElem? (i := 923) (by decide +kernel), List.mem_of_getElem? (i := 1372) (by decide +kernel), List.mem_of_getElem? (i := 1373) (by decide +kernel)⟩
theorem lw_p66 : lw_okq (⟨"CoalGrateModel", "sausageSize", "(I)I"⟩, 24) := ⟨⟨by decide +kernel, by decide +kernel⟩, List.mem_of_getElem? (i := 923) (by decide +kernel), List.mem_of_getElem? (i := 1376) (by decide +kernel), List.mem_of_getElem? (i := 1377) (by decide +kernel)⟩
theorem lw_p67 : lw_okq (⟨"CoalGrateModel", "markOfSausages", "(I)I"⟩, 24) := ⟨⟨by decide +kernel, by decide +kernel⟩, List.mem_of_getElem? (i := 923) (by decide +kernel), List.mem_of_getElem? (i := 1380) (by decide +kernel), List.mem_of_getElem? (i := 1381) (by decide +kernel)⟩
theorem lw_p68 : lw_okq (⟨"CoalGrateModel", "sausageMark", "(I)I"⟩, 24) := ⟨⟨by decide +kernel, by decide +kernel⟩, List.mem_of_getElem? (i := 923) (by decide +kernel), List.mem_of_getElem? (i := 1384) (by decide +kernel), List.mem_of_getElem? (i := 1385) (by decide +kernel)⟩
theorem lw_p69 : lw_okq (⟨"CoalGrateModel", "lentMark", "(I)I"⟩, 24) := ⟨⟨by decide +kernel, by decide +kernel⟩, List.mem_of_getElem? (i := 923) (by decide +kernel), List.mem_of_getElem? (i := 1388) (by decide +kernel), List.mem_of_getElem? (i := 1389) (by decide +kernel)⟩
theorem lw_p70 : lw_okq (⟨"CoalGrateModel", "markOf", "(I)I"⟩, 24) := ⟨⟨by decide +kernel, by decide +kernel⟩, List.mem_of_getElem? (i := 923) (by decide +kernel), List.mem_of_getElem? (i := 1392) (by decide +kernel), List.mem_of_getElem? (i := 1393) (by decide +kernel)⟩
def lw_privs_5 : List (MethodName × Nat) := [(⟨"CoalGrateModel", "cheeseSize", "(I)I"⟩, 24), (⟨"CoalGrateModel", "lentSize", "(I)I"⟩, 24), (⟨"CoalGrateModel", "sausageSize", "(I)I"⟩, 24), (⟨"CoalGrateModel", "markOfSausages", "(I)I"⟩, 24), (⟨"CoalGrateModel", "sausageMark", "(I)I"⟩, 24), (⟨"CoalGrateModel", "lentMark", "(I)I"⟩, 24), (⟨"CoalGrateModel", "markOf", "(I)I"⟩, 24)]
theorem lw_r5 : ∀ q ∈ lw_privs_5, lw_okq q := List.forall_mem_cons.mpr ⟨lw_p64, List.forall_mem_cons.mpr ⟨lw_p65, List.forall_mem_cons.mpr ⟨lw_p66, List.forall_mem_cons.mpr ⟨lw_p67, List.forall_mem_cons.mpr ⟨lw_p68, List.forall_mem_cons.mpr ⟨lw_p69, List.forall_mem_cons.mpr ⟨lw_p70, fun _ h => absurd h List.not_mem_nil⟩⟩⟩⟩⟩⟩⟩
def lw_privs : List (MethodName × Nat) := lw_privs_1 ++ (lw_privs_2 ++ (lw_privs_3 ++ (lw_privs_4 ++ (lw_privs_5))))
def lw_tbl : List Cond := k2_sels lw_privs ++ tables_1
theorem lw_privs_ok : ∀ q ∈ lw_privs, lw_okq q := by
  show ∀ q ∈ lw_privs_1 ++ (lw_privs_2 ++ (lw_privs_3 ++ (lw_privs_4 ++ (lw_privs_5)))), lw_okq q
  exact List.forall_mem_append.mpr ⟨lw_r1, List.forall_mem_append.mpr ⟨lw_r2, List.forall_mem_append.mpr ⟨lw_r3, List.forall_mem_append.mpr ⟨lw_r4, lw_r5⟩⟩⟩⟩
-- ===== end of PART A; then your names; then what follows =====
/-! ===== BEGIN words of one list among another's, by their places ===== -/
theorem goodIn_r {big : List Cond} (ws : List Cond) (ps : List Nat) (hp : ws = ps.filterMap (fun i => big[i]?)) (h : ws.all goodWord = true) : GoodIn big ws := by
  intro w hw
  have h1 := List.all_eq_true.mp h w hw
  rw [hp] at hw
  obtain ⟨i, -, hi⟩ := List.mem_filterMap.mp hw
  have hm : w ∈ big := by first | exact List.mem_of_getElem? hi | exact List.getElem?_mem hi
  exact ⟨hm, good_of_word h1⟩
theorem goodIn_app {big a b : List Cond} (ha : GoodIn big a) (hb : GoodIn big b) : GoodIn big (a ++ b) := fun w h => (List.mem_append.mp h).elim (ha w) (hb w)
theorem goodIn_ca {big a b : List Cond} {c : Cond} (ha : GoodIn big (c :: a)) (hb : GoodIn big b) : GoodIn big (c :: (a ++ b)) := fun w h => (List.mem_cons.mp h).elim (fun e => ha w (List.mem_cons.mpr (Or.inl e))) (fun h => (List.mem_append.mp h).elim (fun h => ha w (List.mem_cons.mpr (Or.inr h))) (hb w))
theorem goodIn_sub {big ws : List Cond} (hm : ∀ w ∈ ws, w ∈ big) (h : ws.all goodWord = true) : GoodIn big ws := fun w hw => ⟨hm w hw, good_of_word (List.all_eq_true.mp h w hw)⟩
/-! ===== END ===== -/

/-! ===== BEGIN printed: names, fields, word lists, decode rows ===== -/
def RX0 : String := "CoalGrate$Cheese"
def TX0 : u_T := fun k => match k with
  | 0 => ("CoalGrate$Kind", "number", "I", true)
  | 1 => ("CoalGrate$Kind", "thick", "I", true)
  | 2 => ("CoalGrate$Kind", "need", "I", true)
  | _ => ("CoalGrate$Kind", "limit", "I", true)
def tyX0 : Nat → FieldType := fun k => match k with
  | 0 => .int
  | 1 => .int
  | 2 => .int
  | _ => .int
abbrev wsX00 : List Cond := u_ws RX0 TX0 4
theorem nmX0 : ∀ a, a < 4 → ∀ b, b < 4 → a ≠ b → (TX0 a).2.1 ≠ (TX0 b).2.1 := by decide +kernel
theorem tyX0_ok : ∀ k, k < 4 → parseFieldDescriptor (TX0 k).2.2.1 = some (tyX0 k) := by decide +kernel
abbrev cX0_init : ByteArray := prog_2_method_1_code
def yX0_init : MethodName := ⟨RX0, "<init>", "(IIII)V"⟩
abbrev cX0_sizeOf : ByteArray := prog_2_method_2_code
def yX0_sizeOf : MethodName := ⟨RX0, "sizeOf", "(LCoalGrate$Thing;LCoalGrate$Trace;)I"⟩
abbrev cX0_markOf : ByteArray := prog_2_method_3_code
def yX0_markOf : MethodName := ⟨RX0, "markOf", "(LCoalGrate$Thing;LCoalGrate$Trace;)I"⟩
def RX1 : String := "CoalGrate$Chicken"
def TX1 : u_T := fun k => match k with
  | 0 => ("CoalGrate$Kind", "number", "I", true)
  | 1 => ("CoalGrate$Kind", "thick", "I", true)
  | 2 => ("CoalGrate$Kind", "need", "I", true)
  | _ => ("CoalGrate$Kind", "limit", "I", true)
def tyX1 : Nat → FieldType := fun k => match k with
  | 0 => .int
  | 1 => .int
  | 2 => .int
  | _ => .int
abbrev wsX10 : List Cond := u_ws RX1 TX1 4
theorem nmX1 : ∀ a, a < 4 → ∀ b, b < 4 → a ≠ b → (TX1 a).2.1 ≠ (TX1 b).2.1 := by decide +kernel
theorem tyX1_ok : ∀ k, k < 4 → parseFieldDescriptor (TX1 k).2.2.1 = some (tyX1 k) := by decide +kernel
abbrev cX1_init : ByteArray := prog_3_method_1_code
def yX1_init : MethodName := ⟨RX1, "<init>", "(IIII)V"⟩
abbrev cX1_sizeOf : ByteArray := prog_3_method_2_code
def yX1_sizeOf : MethodName := ⟨RX1, "sizeOf", "(LCoalGrate$Thing;LCoalGrate$Trace;)I"⟩
abbrev cX1_markOf : ByteArray := prog_3_method_3_code
def yX1_markOf : MethodName := ⟨RX1, "markOf", "(LCoalGrate$Thing;LCoalGrate$Trace;)I"⟩
def RX2 : String := "CoalGrate$Corn"
def TX2 : u_T := fun k => match k with
  | 0 => ("CoalGrate$Kind", "number", "I", true)
  | 1 => ("CoalGrate$Kind", "thick", "I", true)
  | 2 => ("CoalGrate$Kind", "need", "I", true)
  | _ => ("CoalGrate$Kind", "limit", "I", true)
def tyX2 : Nat → FieldType := fun k => match k with
  | 0 => .int
  | 1 => .int
  | 2 => .int
  | _ => .int
abbrev wsX20 : List Cond := u_ws RX2 TX2 4
theorem nmX2 : ∀ a, a < 4 → ∀ b, b < 4 → a ≠ b → (TX2 a).2.1 ≠ (TX2 b).2.1 := by decide +kernel
theorem tyX2_ok : ∀ k, k < 4 → parseFieldDescriptor (TX2 k).2.2.1 = some (tyX2 k) := by decide +kernel
abbrev cX2_init : ByteArray := prog_4_method_1_code
def yX2_init : MethodName := ⟨RX2, "<init>", "(IIII)V"⟩
abbrev cX2_sizeOf : ByteArray := prog_4_method_2_code
def yX2_sizeOf : MethodName := ⟨RX2, "sizeOf", "(LCoalGrate$Thing;LCoalGrate$Trace;)I"⟩
def RX3 : String := "CoalGrate$Kind"
def TX3 : u_T := fun k => match k with
  | 0 => ("CoalGrate$Kind", "number", "I", true)
  | 1 => ("CoalGrate$Kind", "thick", "I", true)
  | 2 => ("CoalGrate$Kind", "need", "I", true)
  | _ => ("CoalGrate$Kind", "limit", "I", true)
def tyX3 : Nat → FieldType := fun k => match k with
  | 0 => .int
  | 1 => .int
  | 2 => .int
  | _ => .int
abbrev wsX30 : List Cond := u_ws RX3 TX3 4
theorem nmX3 : ∀ a, a < 4 → ∀ b, b < 4 → a ≠ b → (TX3 a).2.1 ≠ (TX3 b).2.1 := by decide +kernel
theorem tyX3_ok : ∀ k, k < 4 → parseFieldDescriptor (TX3 k).2.2.1 = some (tyX3 k) := by decide +kernel
abbrev cX3_init : ByteArray := prog_5_method_1_code
def yX3_init : MethodName := ⟨RX3, "<init>", "(IIII)V"⟩
abbrev cX3_share : ByteArray := prog_5_method_2_code
def yX3_share : MethodName := ⟨RX3, "share", "(I)I"⟩
abbrev cX3_drips : ByteArray := prog_5_method_3_code
def yX3_drips : MethodName := ⟨RX3, "drips", "()Z"⟩
abbrev cX3_sizeOf : ByteArray := prog_5_method_4_code
def yX3_sizeOf : MethodName := ⟨RX3, "sizeOf", "(LCoalGrate$Thing;LCoalGrate$Trace;)I"⟩
abbrev cX3_markOf : ByteArray := prog_5_method_5_code
def yX3_markOf : MethodName := ⟨RX3, "markOf", "(LCoalGrate$Thing;LCoalGrate$Trace;)I"⟩
def RX4 : String := "CoalGrate$Reader"
def TX4 : u_T := fun k => match k with
  | 0 => ("CoalGrate$Reader", "tape", "[I", true)
  | 1 => ("CoalGrate$Reader", "length", "I", false)
  | 2 => ("CoalGrate$Reader", "at", "I", false)
  | 3 => ("CoalGrate$Reader", "failed", "Z", false)
  | 4 => ("CoalGrate$Reader", "faultPlace", "I", false)
  | _ => ("CoalGrate$Reader", "latestFault", "I", false)
def tyX4 : Nat → FieldType := fun k => match k with
  | 0 => .array .int
  | 1 => .int
  | 2 => .int
  | 3 => .boolean
  | 4 => .int
  | _ => .int
abbrev wsX40 : List Cond := u_ws RX4 TX4 6
theorem nmX4 : ∀ a, a < 6 → ∀ b, b < 6 → a ≠ b → (TX4 a).2.1 ≠ (TX4 b).2.1 := by decide +kernel
theorem tyX4_ok : ∀ k, k < 6 → parseFieldDescriptor (TX4 k).2.2.1 = some (tyX4 k) := by decide +kernel
abbrev cX4_init : ByteArray := prog_6_method_1_code
def yX4_init : MethodName := ⟨RX4, "<init>", "()V"⟩
abbrev cX4_take : ByteArray := prog_6_method_2_code
def yX4_take : MethodName := ⟨RX4, "take", "(I)Z"⟩
abbrev cX4_readInto : ByteArray := prog_6_method_3_code
def yX4_readInto : MethodName := ⟨RX4, "readInto", "(LCoalGrate$Yard;)Z"⟩
abbrev cX4_readGrate : ByteArray := prog_6_method_4_code
def yX4_readGrate : MethodName := ⟨RX4, "readGrate", "(LCoalGrate$Yard;)V"⟩
abbrev cX4_readCoal : ByteArray := prog_6_method_5_code
def yX4_readCoal : MethodName := ⟨RX4, "readCoal", "(LCoalGrate$Yard;)V"⟩
abbrev cX4_readThing : ByteArray := prog_6_method_6_code
def yX4_readThing : MethodName := ⟨RX4, "readThing", "(LCoalGrate$Yard;)V"⟩
abbrev cX4_readEater : ByteArray := prog_6_method_7_code
def yX4_readEater : MethodName := ⟨RX4, "readEater", "(LCoalGrate$Yard;)V"⟩
abbrev cX4_next : ByteArray := prog_6_method_8_code
def yX4_next : MethodName := ⟨RX4, "next", "()I"⟩
abbrev cX4_readSign : ByteArray := prog_6_method_9_code
def yX4_readSign : MethodName := ⟨RX4, "readSign", "(I)V"⟩
abbrev cX4_readSort : ByteArray := prog_6_method_10_code
def yX4_readSort : MethodName := ⟨RX4, "readSort", "()I"⟩
abbrev cX4_readNumber : ByteArray := prog_6_method_11_code
def yX4_readNumber : MethodName := ⟨RX4, "readNumber", "(II)I"⟩
abbrev cX4_fail : ByteArray := prog_6_method_12_code
def yX4_fail : MethodName := ⟨RX4, "fail", "(II)V"⟩
abbrev cX4_isFigure : ByteArray := prog_6_method_13_code
def yX4_isFigure : MethodName := ⟨RX4, "isFigure", "(I)Z"⟩
abbrev cX4_sortOf : ByteArray := prog_6_method_14_code
def yX4_sortOf : MethodName := ⟨RX4, "sortOf", "(I)I"⟩
def RX5 : String := "CoalGrate$Rows"
def TX5 : u_T := fun k => match k with
  | 0 => ("CoalGrate$Rows", "items", "[I", true)
  | 1 => ("CoalGrate$Rows", "lanes", "[I", true)
  | _ => ("CoalGrate$Rows", "sizes", "[I", true)
def tyX5 : Nat → FieldType := fun k => match k with
  | 0 => .array .int
  | 1 => .array .int
  | _ => .array .int
abbrev wsX50 : List Cond := u_ws RX5 TX5 3
theorem nmX5 : ∀ a, a < 3 → ∀ b, b < 3 → a ≠ b → (TX5 a).2.1 ≠ (TX5 b).2.1 := by decide +kernel
theorem tyX5_ok : ∀ k, k < 3 → parseFieldDescriptor (TX5 k).2.2.1 = some (tyX5 k) := by decide +kernel
abbrev cX5_init : ByteArray := prog_7_method_1_code
def yX5_init : MethodName := ⟨RX5, "<init>", "()V"⟩
abbrev cX5_isRow : ByteArray := prog_7_method_2_code
def yX5_isRow : MethodName := ⟨RX5, "isRow", "(I)Z"⟩
abbrev cX5_isMissing : ByteArray := prog_7_method_3_code
def yX5_isMissing : MethodName := ⟨RX5, "isMissing", "(I)Z"⟩
abbrev cX5_sameLane : ByteArray := prog_7_method_4_code
def yX5_sameLane : MethodName := ⟨RX5, "sameLane", "(II)Z"⟩
abbrev cX5_hasPlaces : ByteArray := prog_7_method_5_code
def yX5_hasPlaces : MethodName := ⟨RX5, "hasPlaces", "(III)Z"⟩
abbrev cX5_lay : ByteArray := prog_7_method_6_code
def yX5_lay : MethodName := ⟨RX5, "lay", "(III)V"⟩
abbrev cX5_get : ByteArray := prog_7_method_7_code
def yX5_get : MethodName := ⟨RX5, "get", "(II)I"⟩
abbrev cX5_put : ByteArray := prog_7_method_8_code
def yX5_put : MethodName := ⟨RX5, "put", "(III)I"⟩
abbrev cX5_carry : ByteArray := prog_7_method_9_code
def yX5_carry : MethodName := ⟨RX5, "carry", "(IIIII)V"⟩
abbrev cX5_forget : ByteArray := prog_7_method_10_code
def yX5_forget : MethodName := ⟨RX5, "forget", "(I)I"⟩
abbrev cX5_present : ByteArray := prog_7_method_11_code
def yX5_present : MethodName := ⟨RX5, "present", "()I"⟩
def RX6 : String := "CoalGrate$Sausage"
def TX6 : u_T := fun k => match k with
  | 0 => ("CoalGrate$Kind", "number", "I", true)
  | 1 => ("CoalGrate$Kind", "thick", "I", true)
  | 2 => ("CoalGrate$Kind", "need", "I", true)
  | _ => ("CoalGrate$Kind", "limit", "I", true)
def tyX6 : Nat → FieldType := fun k => match k with
  | 0 => .int
  | 1 => .int
  | 2 => .int
  | _ => .int
abbrev wsX60 : List Cond := u_ws RX6 TX6 4
theorem nmX6 : ∀ a, a < 4 → ∀ b, b < 4 → a ≠ b → (TX6 a).2.1 ≠ (TX6 b).2.1 := by decide +kernel
theorem tyX6_ok : ∀ k, k < 4 → parseFieldDescriptor (TX6 k).2.2.1 = some (tyX6 k) := by decide +kernel
abbrev cX6_init : ByteArray := prog_8_method_1_code
def yX6_init : MethodName := ⟨RX6, "<init>", "(IIII)V"⟩
abbrev cX6_drips : ByteArray := prog_8_method_2_code
def yX6_drips : MethodName := ⟨RX6, "drips", "()Z"⟩
abbrev cX6_sizeOf : ByteArray := prog_8_method_3_code
def yX6_sizeOf : MethodName := ⟨RX6, "sizeOf", "(LCoalGrate$Thing;LCoalGrate$Trace;)I"⟩
abbrev cX6_markOf : ByteArray := prog_8_method_4_code
def yX6_markOf : MethodName := ⟨RX6, "markOf", "(LCoalGrate$Thing;LCoalGrate$Trace;)I"⟩
def RX7 : String := "CoalGrate$Thin"
def TX7 : u_T := fun k => match k with
  | 0 => ("CoalGrate$Kind", "number", "I", true)
  | 1 => ("CoalGrate$Kind", "thick", "I", true)
  | 2 => ("CoalGrate$Kind", "need", "I", true)
  | _ => ("CoalGrate$Kind", "limit", "I", true)
def tyX7 : Nat → FieldType := fun k => match k with
  | 0 => .int
  | 1 => .int
  | 2 => .int
  | _ => .int
abbrev wsX70 : List Cond := u_ws RX7 TX7 4
theorem nmX7 : ∀ a, a < 4 → ∀ b, b < 4 → a ≠ b → (TX7 a).2.1 ≠ (TX7 b).2.1 := by decide +kernel
theorem tyX7_ok : ∀ k, k < 4 → parseFieldDescriptor (TX7 k).2.2.1 = some (tyX7 k) := by decide +kernel
abbrev cX7_init : ByteArray := prog_9_method_1_code
def yX7_init : MethodName := ⟨RX7, "<init>", "(IIII)V"⟩
abbrev cX7_markOf : ByteArray := prog_9_method_2_code
def yX7_markOf : MethodName := ⟨RX7, "markOf", "(LCoalGrate$Thing;LCoalGrate$Trace;)I"⟩
def RX8 : String := "CoalGrate$Thing"
def TX8 : u_T := fun k => match k with
  | 0 => ("CoalGrate$Thing", "number", "I", true)
  | 1 => ("CoalGrate$Thing", "kind", "LCoalGrate$Kind;", false)
  | 2 => ("CoalGrate$Thing", "place", "I", false)
  | 3 => ("CoalGrate$Thing", "core", "I", false)
  | 4 => ("CoalGrate$Thing", "lower", "I", false)
  | 5 => ("CoalGrate$Thing", "upper", "I", false)
  | 6 => ("CoalGrate$Thing", "side", "I", false)
  | _ => ("CoalGrate$Thing", "burnt", "Z", false)
def tyX8 : Nat → FieldType := fun k => match k with
  | 0 => .int
  | 1 => .object "CoalGrate$Kind"
  | 2 => .int
  | 3 => .int
  | 4 => .int
  | 5 => .int
  | 6 => .int
  | _ => .boolean
abbrev wsX80 : List Cond := u_ws RX8 TX8 8
theorem nmX8 : ∀ a, a < 8 → ∀ b, b < 8 → a ≠ b → (TX8 a).2.1 ≠ (TX8 b).2.1 := by decide +kernel
theorem tyX8_ok : ∀ k, k < 8 → parseFieldDescriptor (TX8 k).2.2.1 = some (tyX8 k) := by decide +kernel
abbrev cX8_init : ByteArray := prog_10_method_1_code
def yX8_init : MethodName := ⟨RX8, "<init>", "(ILCoalGrate$Kind;)V"⟩
abbrev cX8_layCold : ByteArray := prog_10_method_2_code
def yX8_layCold : MethodName := ⟨RX8, "layCold", "(LCoalGrate$Kind;I)V"⟩
abbrev cX8_become : ByteArray := prog_10_method_3_code
def yX8_become : MethodName := ⟨RX8, "become", "(LCoalGrate$Thing;)V"⟩
abbrev cX8_isServed : ByteArray := prog_10_method_4_code
def yX8_isServed : MethodName := ⟨RX8, "isServed", "()Z"⟩
abbrev cX8_isThrough : ByteArray := prog_10_method_5_code
def yX8_isThrough : MethodName := ⟨RX8, "isThrough", "()Z"⟩
abbrev cX8_isDone : ByteArray := prog_10_method_6_code
def yX8_isDone : MethodName := ⟨RX8, "isDone", "()Z"⟩
abbrev cX8_skinOf : ByteArray := prog_10_method_7_code
def yX8_skinOf : MethodName := ⟨RX8, "skinOf", "(I)I"⟩
abbrev cX8_flip : ByteArray := prog_10_method_8_code
def yX8_flip : MethodName := ⟨RX8, "flip", "()V"⟩
abbrev cX8_heatBy : ByteArray := prog_10_method_9_code
def yX8_heatBy : MethodName := ⟨RX8, "heatBy", "(II)I"⟩
abbrev cX8_roastBy : ByteArray := prog_10_method_10_code
def yX8_roastBy : MethodName := ⟨RX8, "roastBy", "(II)V"⟩
abbrev cX8_rest : ByteArray := prog_10_method_11_code
def yX8_rest : MethodName := ⟨RX8, "rest", "(I)V"⟩
abbrev cX8_saveIn : ByteArray := prog_10_method_12_code
def yX8_saveIn : MethodName := ⟨RX8, "saveIn", "([II)V"⟩
abbrev cX8_loadFrom : ByteArray := prog_10_method_13_code
def yX8_loadFrom : MethodName := ⟨RX8, "loadFrom", "([IILCoalGrate$Kind;)V"⟩
def RX9 : String := "CoalGrate$Trace"
def TX9 : u_T := fun k => match k with
  | 0 => ("CoalGrate$Trace", "numbers", "[I", true)
  | _ => ("CoalGrate$Trace", "length", "I", false)
def tyX9 : Nat → FieldType := fun k => match k with
  | 0 => .array .int
  | _ => .int
abbrev wsX90 : List Cond := u_ws RX9 TX9 2
theorem nmX9 : ∀ a, a < 2 → ∀ b, b < 2 → a ≠ b → (TX9 a).2.1 ≠ (TX9 b).2.1 := by decide +kernel
theorem tyX9_ok : ∀ k, k < 2 → parseFieldDescriptor (TX9 k).2.2.1 = some (tyX9 k) := by decide +kernel
abbrev cX9_init : ByteArray := prog_11_method_1_code
def yX9_init : MethodName := ⟨RX9, "<init>", "()V"⟩
abbrev cX9_leave : ByteArray := prog_11_method_2_code
def yX9_leave : MethodName := ⟨RX9, "leave", "(I)V"⟩
def RX10 : String := "CoalGrate$Yard"
def TX10 : u_T := fun k => match k with
  | 0 => ("CoalGrate$Yard", "kinds", "[LCoalGrate$Kind;", true)
  | 1 => ("CoalGrate$Yard", "sink", "I", false)
  | 2 => ("CoalGrate$Yard", "wind", "I", false)
  | 3 => ("CoalGrate$Yard", "minute", "I", false)
  | 4 => ("CoalGrate$Yard", "coalCount", "I", false)
  | 5 => ("CoalGrate$Yard", "coalCell", "[I", true)
  | 6 => ("CoalGrate$Yard", "coalFire", "[I", true)
  | 7 => ("CoalGrate$Yard", "coalFresh", "[I", true)
  | 8 => ("CoalGrate$Yard", "thingCount", "I", false)
  | 9 => ("CoalGrate$Yard", "things", "[LCoalGrate$Thing;", true)
  | 10 => ("CoalGrate$Yard", "eaterCount", "I", false)
  | 11 => ("CoalGrate$Yard", "eaterKind", "[I", true)
  | 12 => ("CoalGrate$Yard", "eaterMinute", "[I", true)
  | _ => ("CoalGrate$Yard", "eaterThing", "[I", true)
def tyX10 : Nat → FieldType := fun k => match k with
  | 0 => .array (.object "CoalGrate$Kind")
  | 1 => .int
  | 2 => .int
  | 3 => .int
  | 4 => .int
  | 5 => .array .int
  | 6 => .array .int
  | 7 => .array .int
  | 8 => .int
  | 9 => .array (.object "CoalGrate$Thing")
  | 10 => .int
  | 11 => .array .int
  | 12 => .array .int
  | _ => .array .int
abbrev wsX100 : List Cond := u_ws RX10 TX10 14
theorem nmX10 : ∀ a, a < 14 → ∀ b, b < 14 → a ≠ b → (TX10 a).2.1 ≠ (TX10 b).2.1 := by decide +kernel
theorem tyX10_ok : ∀ k, k < 14 → parseFieldDescriptor (TX10 k).2.2.1 = some (tyX10 k) := by decide +kernel
abbrev cX10_init : ByteArray := prog_12_method_1_code
def yX10_init : MethodName := ⟨RX10, "<init>", "([LCoalGrate$Kind;)V"⟩
abbrev cX10_clear : ByteArray := prog_12_method_2_code
def yX10_clear : MethodName := ⟨RX10, "clear", "()V"⟩
abbrev cX10_addCoal : ByteArray := prog_12_method_3_code
def yX10_addCoal : MethodName := ⟨RX10, "addCoal", "(III)V"⟩
abbrev cX10_addThing : ByteArray := prog_12_method_4_code
def yX10_addThing : MethodName := ⟨RX10, "addThing", "(II)V"⟩
abbrev cX10_addEater : ByteArray := prog_12_method_5_code
def yX10_addEater : MethodName := ⟨RX10, "addEater", "(II)V"⟩
abbrev cX10_kindOf : ByteArray := prog_12_method_6_code
def yX10_kindOf : MethodName := ⟨RX10, "kindOf", "(I)LCoalGrate$Kind;"⟩
abbrev cX10_thingAt : ByteArray := prog_12_method_7_code
def yX10_thingAt : MethodName := ⟨RX10, "thingAt", "(I)LCoalGrate$Thing;"⟩
abbrev cX10_isEater : ByteArray := prog_12_method_8_code
def yX10_isEater : MethodName := ⟨RX10, "isEater", "(I)Z"⟩
abbrev cX10_lyingIn : ByteArray := prog_12_method_9_code
def yX10_lyingIn : MethodName := ⟨RX10, "lyingIn", "(I)LCoalGrate$Thing;"⟩
abbrev cX10_isOpenTo : ByteArray := prog_12_method_10_code
def yX10_isOpenTo : MethodName := ⟨RX10, "isOpenTo", "(LCoalGrate$Thing;I)Z"⟩
abbrev cX10_wants : ByteArray := prog_12_method_11_code
def yX10_wants : MethodName := ⟨RX10, "wants", "(ILCoalGrate$Thing;I)Z"⟩
abbrev cX10_sunkBy : ByteArray := prog_12_method_12_code
def yX10_sunkBy : MethodName := ⟨RX10, "sunkBy", "(I)I"⟩
abbrev cX10_warmthIn : ByteArray := prog_12_method_13_code
def yX10_warmthIn : MethodName := ⟨RX10, "warmthIn", "(II)I"⟩
abbrev cX10_isBeside : ByteArray := prog_12_method_14_code
def yX10_isBeside : MethodName := ⟨RX10, "isBeside", "(II)Z"⟩
abbrev cX10_windIn : ByteArray := prog_12_method_15_code
def yX10_windIn : MethodName := ⟨RX10, "windIn", "(I)I"⟩
abbrev cX10_roast : ByteArray := prog_12_method_16_code
def yX10_roast : MethodName := ⟨RX10, "roast", "(LCoalGrate$Thing;I)V"⟩
abbrev cX10_passMinute : ByteArray := prog_12_method_17_code
def yX10_passMinute : MethodName := ⟨RX10, "passMinute", "()V"⟩
abbrev cX10_pourWater : ByteArray := prog_12_method_18_code
def yX10_pourWater : MethodName := ⟨RX10, "pourWater", "()I"⟩
abbrev cX10_fireOfAll : ByteArray := prog_12_method_19_code
def yX10_fireOfAll : MethodName := ⟨RX10, "fireOfAll", "()I"⟩
abbrev cX10_minutesOfFire : ByteArray := prog_12_method_20_code
def yX10_minutesOfFire : MethodName := ⟨RX10, "minutesOfFire", "()I"⟩
abbrev cX10_servedCount : ByteArray := prog_12_method_21_code
def yX10_servedCount : MethodName := ⟨RX10, "servedCount", "()I"⟩
abbrev cX10_hottestBelow : ByteArray := prog_12_method_22_code
def yX10_hottestBelow : MethodName := ⟨RX10, "hottestBelow", "()LCoalGrate$Thing;"⟩
abbrev cX10_burntOnes : ByteArray := prog_12_method_23_code
def yX10_burntOnes : MethodName := ⟨RX10, "burntOnes", "()I"⟩
abbrev cX10_doneOnes : ByteArray := prog_12_method_24_code
def yX10_doneOnes : MethodName := ⟨RX10, "doneOnes", "()I"⟩
abbrev cX10_save : ByteArray := prog_12_method_25_code
def yX10_save : MethodName := ⟨RX10, "save", "([II)V"⟩
abbrev cX10_load : ByteArray := prog_12_method_26_code
def yX10_load : MethodName := ⟨RX10, "load", "([II)V"⟩
def RX11 : String := "CoalGrate"
def TX11 : u_T := fun k => match k with
  | 0 => ("CoalGrate", "rows", "LCoalGrate$Rows;", true)
  | 1 => ("CoalGrate", "reader", "LCoalGrate$Reader;", true)
  | 2 => ("CoalGrate", "path", "LCoalGrate$Trace;", true)
  | 3 => ("CoalGrate", "kinds", "[LCoalGrate$Kind;", true)
  | 4 => ("CoalGrate", "trial", "LCoalGrate$Thing;", true)
  | 5 => ("CoalGrate", "now", "LCoalGrate$Yard;", false)
  | 6 => ("CoalGrate", "spare", "LCoalGrate$Yard;", false)
  | 7 => ("CoalGrate", "stands", "Z", false)
  | 8 => ("CoalGrate", "past", "[I", true)
  | 9 => ("CoalGrate", "pastNext", "I", false)
  | 10 => ("CoalGrate", "pastCount", "I", false)
  | 11 => ("CoalGrate", "images", "[I", true)
  | 12 => ("CoalGrate", "kept", "[Z", true)
  | 13 => ("CoalGrate", "scratch", "[I", true)
  | 14 => ("CoalGrate", "warmth", "[I", true)
  | 15 => ("CoalGrate", "bestFlips", "I", false)
  | _ => ("CoalGrate", "finding", "I", false)
def tyX11 : Nat → FieldType := fun k => match k with
  | 0 => .object "CoalGrate$Rows"
  | 1 => .object "CoalGrate$Reader"
  | 2 => .object "CoalGrate$Trace"
  | 3 => .array (.object "CoalGrate$Kind")
  | 4 => .object "CoalGrate$Thing"
  | 5 => .object "CoalGrate$Yard"
  | 6 => .object "CoalGrate$Yard"
  | 7 => .boolean
  | 8 => .array .int
  | 9 => .int
  | 10 => .int
  | 11 => .array .int
  | 12 => .array .boolean
  | 13 => .array .int
  | 14 => .array .int
  | 15 => .int
  | _ => .int
abbrev wsX110 : List Cond := u_ws RX11 TX11 17
theorem nmX11 : ∀ a, a < 17 → ∀ b, b < 17 → a ≠ b → (TX11 a).2.1 ≠ (TX11 b).2.1 := by decide +kernel
theorem tyX11_ok : ∀ k, k < 17 → parseFieldDescriptor (TX11 k).2.2.1 = some (tyX11 k) := by decide +kernel
abbrev cX11_init : ByteArray := prog_1_method_1_code
def yX11_init : MethodName := ⟨RX11, "<init>", "()V"⟩
abbrev cX11_newKinds : ByteArray := prog_1_method_2_code
def yX11_newKinds : MethodName := ⟨RX11, "newKinds", "()[LCoalGrate$Kind;"⟩
abbrev cX11_row : ByteArray := prog_1_method_3_code
def yX11_row : MethodName := ⟨RX11, "row", "(III)I"⟩
abbrev cX11_set : ByteArray := prog_1_method_4_code
def yX11_set : MethodName := ⟨RX11, "set", "(III)I"⟩
abbrev cX11_copy : ByteArray := prog_1_method_5_code
def yX11_copy : MethodName := ⟨RX11, "copy", "(IIIII)I"⟩
abbrev cX11_drop : ByteArray := prog_1_method_6_code
def yX11_drop : MethodName := ⟨RX11, "drop", "(I)I"⟩
abbrev cX11_found : ByteArray := prog_1_method_7_code
def yX11_found : MethodName := ⟨RX11, "found", "(I)I"⟩
abbrev cX11_answered : ByteArray := prog_1_method_8_code
def yX11_answered : MethodName := ⟨RX11, "answered", "(I)I"⟩
abbrev cX11_feed : ByteArray := prog_1_method_9_code
def yX11_feed : MethodName := ⟨RX11, "feed", "(I)I"⟩
abbrev cX11_yard : ByteArray := prog_1_method_10_code
def yX11_yard : MethodName := ⟨RX11, "yard", "()I"⟩
abbrev cX11_fault : ByteArray := prog_1_method_11_code
def yX11_fault : MethodName := ⟨RX11, "fault", "()I"⟩
abbrev cX11_minutes : ByteArray := prog_1_method_12_code
def yX11_minutes : MethodName := ⟨RX11, "minutes", "(I)I"⟩
abbrev cX11_turn : ByteArray := prog_1_method_13_code
def yX11_turn : MethodName := ⟨RX11, "turn", "(I)I"⟩
abbrev cX11_move : ByteArray := prog_1_method_14_code
def yX11_move : MethodName := ⟨RX11, "move", "(II)I"⟩
abbrev cX11_coal : ByteArray := prog_1_method_15_code
def yX11_coal : MethodName := ⟨RX11, "coal", "(II)I"⟩
abbrev cX11_water : ByteArray := prog_1_method_16_code
def yX11_water : MethodName := ⟨RX11, "water", "()I"⟩
abbrev cX11_serve : ByteArray := prog_1_method_17_code
def yX11_serve : MethodName := ⟨RX11, "serve", "(II)I"⟩
abbrev cX11_undo : ByteArray := prog_1_method_18_code
def yX11_undo : MethodName := ⟨RX11, "undo", "()I"⟩
abbrev cX11_remember : ByteArray := prog_1_method_19_code
def yX11_remember : MethodName := ⟨RX11, "remember", "()V"⟩
abbrev cX11_thing : ByteArray := prog_1_method_20_code
def yX11_thing : MethodName := ⟨RX11, "thing", "(II)I"⟩
abbrev cX11_eater : ByteArray := prog_1_method_21_code
def yX11_eater : MethodName := ⟨RX11, "eater", "(II)I"⟩
abbrev cX11_ember : ByteArray := prog_1_method_22_code
def yX11_ember : MethodName := ⟨RX11, "ember", "(II)I"⟩
abbrev cX11_heat : ByteArray := prog_1_method_23_code
def yX11_heat : MethodName := ⟨RX11, "heat", "(I)I"⟩
abbrev cX11_asBit : ByteArray := prog_1_method_24_code
def yX11_asBit : MethodName := ⟨RX11, "asBit", "(Z)I"⟩
abbrev cX11_isCell : ByteArray := prog_1_method_25_code
def yX11_isCell : MethodName := ⟨RX11, "isCell", "(I)Z"⟩
abbrev cX11_ahead : ByteArray := prog_1_method_26_code
def yX11_ahead : MethodName := ⟨RX11, "ahead", "(III)I"⟩
abbrev cX11_heatAhead : ByteArray := prog_1_method_27_code
def yX11_heatAhead : MethodName := ⟨RX11, "heatAhead", "(II)I"⟩
abbrev cX11_isAhead : ByteArray := prog_1_method_28_code
def yX11_isAhead : MethodName := ⟨RX11, "isAhead", "(II)Z"⟩
abbrev cX11_tryAsItLies : ByteArray := prog_1_method_29_code
def yX11_tryAsItLies : MethodName := ⟨RX11, "tryAsItLies", "(LCoalGrate$Thing;I)V"⟩
abbrev cX11_ready : ByteArray := prog_1_method_30_code
def yX11_ready : MethodName := ⟨RX11, "ready", "(I)I"⟩
abbrev cX11_where : ByteArray := prog_1_method_31_code
def yX11_where : MethodName := ⟨RX11, "where", "(I)I"⟩
abbrev cX11_inTime : ByteArray := prog_1_method_32_code
def yX11_inTime : MethodName := ⟨RX11, "inTime", "(II)I"⟩
abbrev cX11_readyAt : ByteArray := prog_1_method_33_code
def yX11_readyAt : MethodName := ⟨RX11, "readyAt", "(LCoalGrate$Thing;II)I"⟩
abbrev cX11_flips : ByteArray := prog_1_method_34_code
def yX11_flips : MethodName := ⟨RX11, "flips", "(III)I"⟩
abbrev cX11_foretellWarmth : ByteArray := prog_1_method_35_code
def yX11_foretellWarmth : MethodName := ⟨RX11, "foretellWarmth", "(II)V"⟩
abbrev cX11_tryFlips : ByteArray := prog_1_method_36_code
def yX11_tryFlips : MethodName := ⟨RX11, "tryFlips", "(IIIIII)V"⟩
abbrev cX11_tryMinute : ByteArray := prog_1_method_37_code
def yX11_tryMinute : MethodName := ⟨RX11, "tryMinute", "(IIIIII)V"⟩
abbrev cX11_isBetterWay : ByteArray := prog_1_method_38_code
def yX11_isBetterWay : MethodName := ⟨RX11, "isBetterWay", "(I)Z"⟩
abbrev cX11_start : ByteArray := prog_1_method_39_code
def yX11_start : MethodName := ⟨RX11, "start", "(III)I"⟩
abbrev cX11_isDoneStarting : ByteArray := prog_1_method_40_code
def yX11_isDoneStarting : MethodName := ⟨RX11, "isDoneStarting", "(LCoalGrate$Thing;III)Z"⟩
abbrev cX11_fuelFor : ByteArray := prog_1_method_41_code
def yX11_fuelFor : MethodName := ⟨RX11, "fuelFor", "(II)I"⟩
abbrev cX11_isDoneWithCoal : ByteArray := prog_1_method_42_code
def yX11_isDoneWithCoal : MethodName := ⟨RX11, "isDoneWithCoal", "(LCoalGrate$Thing;II)Z"⟩
abbrev cX11_servable : ByteArray := prog_1_method_43_code
def yX11_servable : MethodName := ⟨RX11, "servable", "(II)I"⟩
abbrev cX11_doneAhead : ByteArray := prog_1_method_44_code
def yX11_doneAhead : MethodName := ⟨RX11, "doneAhead", "(I)I"⟩
abbrev cX11_firstFor : ByteArray := prog_1_method_45_code
def yX11_firstFor : MethodName := ⟨RX11, "firstFor", "(III)I"⟩
abbrev cX11_hand : ByteArray := prog_1_method_46_code
def yX11_hand : MethodName := ⟨RX11, "hand", "(II)I"⟩
abbrev cX11_judged : ByteArray := prog_1_method_47_code
def yX11_judged : MethodName := ⟨RX11, "judged", "(III)I"⟩
abbrev cX11_tellsTurns : ByteArray := prog_1_method_48_code
def yX11_tellsTurns : MethodName := ⟨RX11, "tellsTurns", "(III)Z"⟩
abbrev cX11_tryWholeYard : ByteArray := prog_1_method_49_code
def yX11_tryWholeYard : MethodName := ⟨RX11, "tryWholeYard", "()V"⟩
abbrev cX11_fuel : ByteArray := prog_1_method_50_code
def yX11_fuel : MethodName := ⟨RX11, "fuel", "()I"⟩
abbrev cX11_image : ByteArray := prog_1_method_51_code
def yX11_image : MethodName := ⟨RX11, "image", "(I)I"⟩
abbrev cX11_restore : ByteArray := prog_1_method_52_code
def yX11_restore : MethodName := ⟨RX11, "restore", "(I)I"⟩
abbrev cX11_isImage : ByteArray := prog_1_method_53_code
def yX11_isImage : MethodName := ⟨RX11, "isImage", "(I)Z"⟩
abbrev cX11_kind : ByteArray := prog_1_method_54_code
def yX11_kind : MethodName := ⟨RX11, "kind", "(I)I"⟩
abbrev cX11_as : ByteArray := prog_1_method_55_code
def yX11_as : MethodName := ⟨RX11, "as", "(II)I"⟩
abbrev cX11_isOneOf : ByteArray := prog_1_method_56_code
def yX11_isOneOf : MethodName := ⟨RX11, "isOneOf", "(LCoalGrate$Kind;I)Z"⟩
abbrev cX11_ask : ByteArray := prog_1_method_57_code
def yX11_ask : MethodName := ⟨RX11, "ask", "(II)I"⟩
abbrev cX11_trace : ByteArray := prog_1_method_58_code
def yX11_trace : MethodName := ⟨RX11, "trace", "(I)I"⟩
abbrev cX11_count : ByteArray := prog_1_method_59_code
def yX11_count : MethodName := ⟨RX11, "count", "(I)I"⟩
abbrev cX11_status : ByteArray := prog_1_method_60_code
def yX11_status : MethodName := ⟨RX11, "status", "()I"⟩
def RX12 : String := "CoalGrateModel"
def TX12 : u_T := fun k => match k with
  | 0 => ("CoalGrateModel", "st", "[I", true)
  | 1 => ("CoalGrateModel", "kept", "[I", true)
  | 2 => ("CoalGrateModel", "isKept", "[Z", true)
  | 3 => ("CoalGrateModel", "was", "[I", true)
  | 4 => ("CoalGrateModel", "acts", "I", false)
  | 5 => ("CoalGrateModel", "lanes", "[I", true)
  | 6 => ("CoalGrateModel", "sizes", "[I", true)
  | 7 => ("CoalGrateModel", "items", "[I", true)
  | 8 => ("CoalGrateModel", "status", "I", false)
  | 9 => ("CoalGrateModel", "tape", "[I", true)
  | 10 => ("CoalGrateModel", "taped", "I", false)
  | 11 => ("CoalGrateModel", "cursor", "I", false)
  | 12 => ("CoalGrateModel", "start", "I", false)
  | 13 => ("CoalGrateModel", "token", "I", false)
  | 14 => ("CoalGrateModel", "value", "I", false)
  | 15 => ("CoalGrateModel", "fault", "I", false)
  | 16 => ("CoalGrateModel", "latestFault", "I", false)
  | 17 => ("CoalGrateModel", "read", "[I", true)
  | 18 => ("CoalGrateModel", "heats", "[I", true)
  | 19 => ("CoalGrateModel", "hold", "[I", true)
  | 20 => ("CoalGrateModel", "canBe", "[Z", true)
  | 21 => ("CoalGrateModel", "gets", "[I", true)
  | 22 => ("CoalGrateModel", "trace", "[I", true)
  | _ => ("CoalGrateModel", "traced", "I", false)
def tyX12 : Nat → FieldType := fun k => match k with
  | 0 => .array .int
  | 1 => .array .int
  | 2 => .array .boolean
  | 3 => .array .int
  | 4 => .int
  | 5 => .array .int
  | 6 => .array .int
  | 7 => .array .int
  | 8 => .int
  | 9 => .array .int
  | 10 => .int
  | 11 => .int
  | 12 => .int
  | 13 => .int
  | 14 => .int
  | 15 => .int
  | 16 => .int
  | 17 => .array .int
  | 18 => .array .int
  | 19 => .array .int
  | 20 => .array .boolean
  | 21 => .array .int
  | 22 => .array .int
  | _ => .int
abbrev wsX120 : List Cond := u_ws RX12 TX12 24
theorem nmX12 : ∀ a, a < 24 → ∀ b, b < 24 → a ≠ b → (TX12 a).2.1 ≠ (TX12 b).2.1 := by decide +kernel
theorem tyX12_ok : ∀ k, k < 24 → parseFieldDescriptor (TX12 k).2.2.1 = some (tyX12 k) := by decide +kernel
abbrev cX12_init : ByteArray := prog_14_method_1_code
def yX12_init : MethodName := ⟨RX12, "<init>", "()V"⟩
abbrev cX12_in : ByteArray := prog_14_method_3_code
def yX12_in : MethodName := ⟨RX12, "in", "(III)Z"⟩
abbrev cX12_has : ByteArray := prog_14_method_4_code
def yX12_has : MethodName := ⟨RX12, "has", "(II)Z"⟩
abbrev cX12_found : ByteArray := prog_14_method_5_code
def yX12_found : MethodName := ⟨RX12, "found", "(I)I"⟩
abbrev cX12_well : ByteArray := prog_14_method_6_code
def yX12_well : MethodName := ⟨RX12, "well", "(I)I"⟩
abbrev cX12_isRow : ByteArray := prog_14_method_7_code
def yX12_isRow : MethodName := ⟨RX12, "isRow", "(I)Z"⟩
abbrev cX12_row : ByteArray := prog_14_method_8_code
def yX12_row : MethodName := ⟨RX12, "row", "(III)I"⟩
abbrev cX12_set : ByteArray := prog_14_method_9_code
def yX12_set : MethodName := ⟨RX12, "set", "(III)I"⟩
abbrev cX12_isSpan : ByteArray := prog_14_method_10_code
def yX12_isSpan : MethodName := ⟨RX12, "isSpan", "(III)Z"⟩
abbrev cX12_copy : ByteArray := prog_14_method_11_code
def yX12_copy : MethodName := ⟨RX12, "copy", "(IIIII)I"⟩
abbrev cX12_drop : ByteArray := prog_14_method_12_code
def yX12_drop : MethodName := ⟨RX12, "drop", "(I)I"⟩
abbrev cX12_feed : ByteArray := prog_14_method_13_code
def yX12_feed : MethodName := ⟨RX12, "feed", "(I)I"⟩
abbrev cX12_byteAt : ByteArray := prog_14_method_14_code
def yX12_byteAt : MethodName := ⟨RX12, "byteAt", "(I)I"⟩
abbrev cX12_next : ByteArray := prog_14_method_15_code
def yX12_next : MethodName := ⟨RX12, "next", "()V"⟩
abbrev cX12_must : ByteArray := prog_14_method_16_code
def yX12_must : MethodName := ⟨RX12, "must", "(ZI)V"⟩
abbrev cX12_goesOn : ByteArray := prog_14_method_17_code
def yX12_goesOn : MethodName := ⟨RX12, "goesOn", "()V"⟩
abbrev cX12_isLetter : ByteArray := prog_14_method_18_code
def yX12_isLetter : MethodName := ⟨RX12, "isLetter", "(I)Z"⟩
abbrev cX12_readSign : ByteArray := prog_14_method_19_code
def yX12_readSign : MethodName := ⟨RX12, "readSign", "(I)V"⟩
abbrev cX12_readNumber : ByteArray := prog_14_method_20_code
def yX12_readNumber : MethodName := ⟨RX12, "readNumber", "(II)I"⟩
abbrev cX12_sortOf : ByteArray := prog_14_method_21_code
def yX12_sortOf : MethodName := ⟨RX12, "sortOf", "(I)I"⟩
abbrev cX12_isSort : ByteArray := prog_14_method_22_code
def yX12_isSort : MethodName := ⟨RX12, "isSort", "()Z"⟩
abbrev cX12_readGrate : ByteArray := prog_14_method_23_code
def yX12_readGrate : MethodName := ⟨RX12, "readGrate", "()V"⟩
abbrev cX12_readCoal : ByteArray := prog_14_method_24_code
def yX12_readCoal : MethodName := ⟨RX12, "readCoal", "()V"⟩
abbrev cX12_isTold : ByteArray := prog_14_method_25_code
def yX12_isTold : MethodName := ⟨RX12, "isTold", "(I)Z"⟩
abbrev cX12_readThing : ByteArray := prog_14_method_26_code
def yX12_readThing : MethodName := ⟨RX12, "readThing", "()V"⟩
abbrev cX12_readEater : ByteArray := prog_14_method_27_code
def yX12_readEater : MethodName := ⟨RX12, "readEater", "()V"⟩
abbrev cX12_yard : ByteArray := prog_14_method_28_code
def yX12_yard : MethodName := ⟨RX12, "yard", "()I"⟩
abbrev cX12_fault : ByteArray := prog_14_method_29_code
def yX12_fault : MethodName := ⟨RX12, "fault", "()I"⟩
abbrev cX12_isYard : ByteArray := prog_14_method_30_code
def yX12_isYard : MethodName := ⟨RX12, "isYard", "()Z"⟩
abbrev cX12_isThing : ByteArray := prog_14_method_31_code
def yX12_isThing : MethodName := ⟨RX12, "isThing", "(I)Z"⟩
abbrev cX12_isOn : ByteArray := prog_14_method_32_code
def yX12_isOn : MethodName := ⟨RX12, "isOn", "(I)Z"⟩
abbrev cX12_isGone : ByteArray := prog_14_method_33_code
def yX12_isGone : MethodName := ⟨RX12, "isGone", "(I)Z"⟩
abbrev cX12_isA : ByteArray := prog_14_method_34_code
def yX12_isA : MethodName := ⟨RX12, "isA", "(II)Z"⟩
abbrev cX12_below : ByteArray := prog_14_method_35_code
def yX12_below : MethodName := ⟨RX12, "below", "(I)I"⟩
abbrev cX12_above : ByteArray := prog_14_method_36_code
def yX12_above : MethodName := ⟨RX12, "above", "(I)I"⟩
abbrev cX12_size : ByteArray := prog_14_method_37_code
def yX12_size : MethodName := ⟨RX12, "size", "(I)I"⟩
abbrev cX12_areBeside : ByteArray := prog_14_method_38_code
def yX12_areBeside : MethodName := ⟨RX12, "areBeside", "(II)Z"⟩
abbrev cX12_heatOf : ByteArray := prog_14_method_39_code
def yX12_heatOf : MethodName := ⟨RX12, "heatOf", "(I)I"⟩
abbrev cX12_thick : ByteArray := prog_14_method_40_code
def yX12_thick : MethodName := ⟨RX12, "thick", "(I)I"⟩
abbrev cX12_need : ByteArray := prog_14_method_41_code
def yX12_need : MethodName := ⟨RX12, "need", "(I)I"⟩
abbrev cX12_limit : ByteArray := prog_14_method_42_code
def yX12_limit : MethodName := ⟨RX12, "limit", "(I)I"⟩
abbrev cX12_least : ByteArray := prog_14_method_43_code
def yX12_least : MethodName := ⟨RX12, "least", "(I)I"⟩
abbrev cX12_goThing : ByteArray := prog_14_method_44_code
def yX12_goThing : MethodName := ⟨RX12, "goThing", "(I)V"⟩
abbrev cX12_goMinute : ByteArray := prog_14_method_45_code
def yX12_goMinute : MethodName := ⟨RX12, "goMinute", "()V"⟩
abbrev cX12_remembers : ByteArray := prog_14_method_46_code
def yX12_remembers : MethodName := ⟨RX12, "remembers", "()V"⟩
abbrev cX12_minutes : ByteArray := prog_14_method_47_code
def yX12_minutes : MethodName := ⟨RX12, "minutes", "(I)I"⟩
abbrev cX12_turn : ByteArray := prog_14_method_48_code
def yX12_turn : MethodName := ⟨RX12, "turn", "(I)I"⟩
abbrev cX12_isTaken : ByteArray := prog_14_method_49_code
def yX12_isTaken : MethodName := ⟨RX12, "isTaken", "(II)Z"⟩
abbrev cX12_move : ByteArray := prog_14_method_50_code
def yX12_move : MethodName := ⟨RX12, "move", "(II)I"⟩
abbrev cX12_adds : ByteArray := prog_14_method_51_code
def yX12_adds : MethodName := ⟨RX12, "adds", "(II)V"⟩
abbrev cX12_coal : ByteArray := prog_14_method_52_code
def yX12_coal : MethodName := ⟨RX12, "coal", "(II)I"⟩
abbrev cX12_water : ByteArray := prog_14_method_53_code
def yX12_water : MethodName := ⟨RX12, "water", "()I"⟩
abbrev cX12_isThrough : ByteArray := prog_14_method_54_code
def yX12_isThrough : MethodName := ⟨RX12, "isThrough", "(I)Z"⟩
abbrev cX12_isWell : ByteArray := prog_14_method_55_code
def yX12_isWell : MethodName := ⟨RX12, "isWell", "(I)Z"⟩
abbrev cX12_servedNow : ByteArray := prog_14_method_56_code
def yX12_servedNow : MethodName := ⟨RX12, "servedNow", "()I"⟩
abbrev cX12_serve : ByteArray := prog_14_method_57_code
def yX12_serve : MethodName := ⟨RX12, "serve", "(II)I"⟩
abbrev cX12_undo : ByteArray := prog_14_method_58_code
def yX12_undo : MethodName := ⟨RX12, "undo", "()I"⟩
abbrev cX12_thing : ByteArray := prog_14_method_59_code
def yX12_thing : MethodName := ⟨RX12, "thing", "(II)I"⟩
abbrev cX12_eater : ByteArray := prog_14_method_60_code
def yX12_eater : MethodName := ⟨RX12, "eater", "(II)I"⟩
abbrev cX12_ember : ByteArray := prog_14_method_61_code
def yX12_ember : MethodName := ⟨RX12, "ember", "(II)I"⟩
abbrev cX12_heat : ByteArray := prog_14_method_62_code
def yX12_heat : MethodName := ⟨RX12, "heat", "(I)I"⟩
abbrev cX12_holds : ByteArray := prog_14_method_63_code
def yX12_holds : MethodName := ⟨RX12, "holds", "()V"⟩
abbrev cX12_putsBack : ByteArray := prog_14_method_64_code
def yX12_putsBack : MethodName := ⟨RX12, "putsBack", "()V"⟩
abbrev cX12_go : ByteArray := prog_14_method_65_code
def yX12_go : MethodName := ⟨RX12, "go", "(I)V"⟩
abbrev cX12_ahead : ByteArray := prog_14_method_66_code
def yX12_ahead : MethodName := ⟨RX12, "ahead", "(III)I"⟩
abbrev cX12_heatAhead : ByteArray := prog_14_method_67_code
def yX12_heatAhead : MethodName := ⟨RX12, "heatAhead", "(II)I"⟩
abbrev cX12_readyIn : ByteArray := prog_14_method_68_code
def yX12_readyIn : MethodName := ⟨RX12, "readyIn", "(II)I"⟩
abbrev cX12_ready : ByteArray := prog_14_method_69_code
def yX12_ready : MethodName := ⟨RX12, "ready", "(I)I"⟩
abbrev cX12_where : ByteArray := prog_14_method_70_code
def yX12_where : MethodName := ⟨RX12, "where", "(I)I"⟩
abbrev cX12_inTime : ByteArray := prog_14_method_71_code
def yX12_inTime : MethodName := ⟨RX12, "inTime", "(II)I"⟩
abbrev cX12_bits : ByteArray := prog_14_method_72_code
def yX12_bits : MethodName := ⟨RX12, "bits", "(I)I"⟩
abbrev cX12_isWellBy : ByteArray := prog_14_method_73_code
def yX12_isWellBy : MethodName := ⟨RX12, "isWellBy", "(III)Z"⟩
abbrev cX12_flips : ByteArray := prog_14_method_74_code
def yX12_flips : MethodName := ⟨RX12, "flips", "(III)I"⟩
abbrev cX12_start : ByteArray := prog_14_method_75_code
def yX12_start : MethodName := ⟨RX12, "start", "(III)I"⟩
abbrev cX12_fuelFor : ByteArray := prog_14_method_76_code
def yX12_fuelFor : MethodName := ⟨RX12, "fuelFor", "(II)I"⟩
abbrev cX12_mayGet : ByteArray := prog_14_method_77_code
def yX12_mayGet : MethodName := ⟨RX12, "mayGet", "(III)Z"⟩
abbrev cX12_most : ByteArray := prog_14_method_78_code
def yX12_most : MethodName := ⟨RX12, "most", "(III)I"⟩
abbrev cX12_servable : ByteArray := prog_14_method_79_code
def yX12_servable : MethodName := ⟨RX12, "servable", "(II)I"⟩
abbrev cX12_setOf : ByteArray := prog_14_method_80_code
def yX12_setOf : MethodName := ⟨RX12, "setOf", "(Z)I"⟩
abbrev cX12_handles : ByteArray := prog_14_method_81_code
def yX12_handles : MethodName := ⟨RX12, "handles", "()I"⟩
abbrev cX12_hand : ByteArray := prog_14_method_82_code
def yX12_hand : MethodName := ⟨RX12, "hand", "(II)I"⟩
abbrev cX12_areItems : ByteArray := prog_14_method_83_code
def yX12_areItems : MethodName := ⟨RX12, "areItems", "(III)Z"⟩
abbrev cX12_judged : ByteArray := prog_14_method_84_code
def yX12_judged : MethodName := ⟨RX12, "judged", "(III)I"⟩
abbrev cX12_fireNow : ByteArray := prog_14_method_85_code
def yX12_fireNow : MethodName := ⟨RX12, "fireNow", "()I"⟩
abbrev cX12_fuel : ByteArray := prog_14_method_86_code
def yX12_fuel : MethodName := ⟨RX12, "fuel", "()I"⟩
abbrev cX12_image : ByteArray := prog_14_method_87_code
def yX12_image : MethodName := ⟨RX12, "image", "(I)I"⟩
abbrev cX12_restore : ByteArray := prog_14_method_88_code
def yX12_restore : MethodName := ⟨RX12, "restore", "(I)I"⟩
abbrev cX12_kind : ByteArray := prog_14_method_89_code
def yX12_kind : MethodName := ⟨RX12, "kind", "(I)I"⟩
abbrev cX12_as : ByteArray := prog_14_method_90_code
def yX12_as : MethodName := ⟨RX12, "as", "(II)I"⟩
abbrev cX12_begins : ByteArray := prog_14_method_91_code
def yX12_begins : MethodName := ⟨RX12, "begins", "(I)V"⟩
abbrev cX12_lentSize : ByteArray := prog_14_method_92_code
def yX12_lentSize : MethodName := ⟨RX12, "lentSize", "(I)I"⟩
abbrev cX12_lentMark : ByteArray := prog_14_method_93_code
def yX12_lentMark : MethodName := ⟨RX12, "lentMark", "(I)I"⟩
abbrev cX12_sausageMark : ByteArray := prog_14_method_94_code
def yX12_sausageMark : MethodName := ⟨RX12, "sausageMark", "(I)I"⟩
abbrev cX12_markOfSausages : ByteArray := prog_14_method_95_code
def yX12_markOfSausages : MethodName := ⟨RX12, "markOfSausages", "(I)I"⟩
abbrev cX12_sausageSize : ByteArray := prog_14_method_96_code
def yX12_sausageSize : MethodName := ⟨RX12, "sausageSize", "(I)I"⟩
abbrev cX12_cheeseSize : ByteArray := prog_14_method_97_code
def yX12_cheeseSize : MethodName := ⟨RX12, "cheeseSize", "(I)I"⟩
abbrev cX12_sizeOfCheese : ByteArray := prog_14_method_98_code
def yX12_sizeOfCheese : MethodName := ⟨RX12, "sizeOfCheese", "(I)I"⟩
abbrev cX12_sizeOf : ByteArray := prog_14_method_99_code
def yX12_sizeOf : MethodName := ⟨RX12, "sizeOf", "(I)I"⟩
abbrev cX12_markOf : ByteArray := prog_14_method_100_code
def yX12_markOf : MethodName := ⟨RX12, "markOf", "(I)I"⟩
abbrev cX12_ask : ByteArray := prog_14_method_101_code
def yX12_ask : MethodName := ⟨RX12, "ask", "(II)I"⟩
abbrev cX12_trace : ByteArray := prog_14_method_102_code
def yX12_trace : MethodName := ⟨RX12, "trace", "(I)I"⟩
abbrev cX12_count : ByteArray := prog_14_method_103_code
def yX12_count : MethodName := ⟨RX12, "count", "(I)I"⟩
abbrev cX12_status : ByteArray := prog_14_method_104_code
def yX12_status : MethodName := ⟨RX12, "status", "()I"⟩
def RJ6 : String := "java/lang/Integer"
def TJ6 : u_T := fun k => match k with
  | _ => ("", "", "", false)
def tyJ6 : Nat → FieldType := fun k => match k with
  | _ => .int
abbrev wsJ60 : List Cond := u_ws RJ6 TJ6 0
theorem nmJ6 : ∀ a, a < 0 → ∀ b, b < 0 → a ≠ b → (TJ6 a).2.1 ≠ (TJ6 b).2.1 := by decide +kernel
theorem tyJ6_ok : ∀ k, k < 0 → parseFieldDescriptor (TJ6 k).2.2.1 = some (tyJ6 k) := by decide +kernel
abbrev cJ6_bitCount_0f7a4 : ByteArray := prog_15_method_49_code
def yJ6_bitCount_0f7a4 : MethodName := ⟨RJ6, "bitCount", "(I)I"⟩
def RJ9 : String := "java/lang/Math"
def TJ9 : u_T := fun k => match k with
  | _ => ("", "", "", false)
def tyJ9 : Nat → FieldType := fun k => match k with
  | _ => .int
abbrev wsJ90 : List Cond := u_ws RJ9 TJ9 0
theorem nmJ9 : ∀ a, a < 0 → ∀ b, b < 0 → a ≠ b → (TJ9 a).2.1 ≠ (TJ9 b).2.1 := by decide +kernel
theorem tyJ9_ok : ∀ k, k < 0 → parseFieldDescriptor (TJ9 k).2.2.1 = some (tyJ9 k) := by decide +kernel
abbrev cJ9_abs_0f7a4 : ByteArray := prog_16_method_59_code
def yJ9_abs_0f7a4 : MethodName := ⟨RJ9, "abs", "(I)I"⟩
abbrev cJ9_max_7cf53 : ByteArray := prog_16_method_65_code
def yJ9_max_7cf53 : MethodName := ⟨RJ9, "max", "(II)I"⟩
abbrev cJ9_min_7cf53 : ByteArray := prog_16_method_69_code
def yJ9_min_7cf53 : MethodName := ⟨RJ9, "min", "(II)I"⟩
def RJ10 : String := "java/lang/System"
def TJ10 : u_T := fun k => match k with
  | _ => ("", "", "", false)
def tyJ10 : Nat → FieldType := fun k => match k with
  | _ => .int
abbrev wsJ100 : List Cond := u_ws RJ10 TJ10 0
theorem nmJ10 : ∀ a, a < 0 → ∀ b, b < 0 → a ≠ b → (TJ10 a).2.1 ≠ (TJ10 b).2.1 := by decide +kernel
theorem tyJ10_ok : ∀ k, k < 0 → parseFieldDescriptor (TJ10 k).2.2.1 = some (tyJ10 k) := by decide +kernel
def RL : String := "CoalGrateLaw"
abbrev cL_law : ByteArray := code
def yL_law : MethodName := ⟨RL, "law", "([I)Z"⟩
end
section
/-! tables of mine, printed by wip/whole/p02.py: methods by number, classes, shapes of the places -/
def ymL_0 : List (MethodName) := [yX0_init, yX0_sizeOf, yX0_markOf, yX1_init, yX1_sizeOf, yX1_markOf, yX2_init, yX2_sizeOf, yX3_init, yX3_share, yX3_drips, yX3_sizeOf, yX3_markOf, yX4_init, yX4_take, yX4_readInto, yX4_readGrate, yX4_readCoal, yX4_readThing, yX4_readEater, yX4_next, yX4_readSign, yX4_readSort, yX4_readNumber, yX4_fail, yX4_isFigure, yX4_sortOf, yX5_init, yX5_isRow, yX5_isMissing, yX5_sameLane, yX5_hasPlaces, yX5_lay, yX5_get, yX5_put, yX5_carry, yX5_forget, yX5_present, yX6_init, yX6_drips]
def ymL_1 : List (MethodName) := [yX6_sizeOf, yX6_markOf, yX7_init, yX7_markOf, yX8_init, yX8_layCold, yX8_become, yX8_isServed, yX8_isThrough, yX8_isDone, yX8_skinOf, yX8_flip, yX8_heatBy, yX8_roastBy, yX8_rest, yX8_saveIn, yX8_loadFrom, yX9_init, yX9_leave, yX10_init, yX10_clear, yX10_addCoal, yX10_addThing, yX10_addEater, yX10_kindOf, yX10_thingAt, yX10_isEater, yX10_lyingIn, yX10_isOpenTo, yX10_wants, yX10_sunkBy, yX10_warmthIn, yX10_isBeside, yX10_windIn, yX10_roast, yX10_passMinute, yX10_pourWater, yX10_fireOfAll, yX10_minutesOfFire, yX10_servedCount]
def ymL_2 : List (MethodName) := [yX10_hottestBelow, yX10_burntOnes, yX10_doneOnes, yX10_save, yX10_load, yX11_init, yX11_newKinds, yX11_row, yX11_set, yX11_copy, yX11_drop, yX11_found, yX11_answered, yX11_feed, yX11_yard, yX11_fault, yX11_minutes, yX11_turn, yX11_move, yX11_coal, yX11_water, yX11_serve, yX11_undo, yX11_remember, yX11_thing, yX11_eater, yX11_ember, yX11_heat, yX11_asBit, yX11_isCell, yX11_ahead, yX11_heatAhead, yX11_isAhead, yX11_tryAsItLies, yX11_ready, yX11_where, yX11_inTime, yX11_readyAt, yX11_flips, yX11_foretellWarmth]
def ymL_3 : List (MethodName) := [yX11_tryFlips, yX11_tryMinute, yX11_isBetterWay, yX11_start, yX11_isDoneStarting, yX11_fuelFor, yX11_isDoneWithCoal, yX11_servable, yX11_doneAhead, yX11_firstFor, yX11_hand, yX11_judged, yX11_tellsTurns, yX11_tryWholeYard, yX11_fuel, yX11_image, yX11_restore, yX11_isImage, yX11_kind, yX11_as, yX11_isOneOf, yX11_ask, yX11_trace, yX11_count, yX11_status, yX12_init, yX12_in, yX12_has, yX12_found, yX12_well, yX12_isRow, yX12_row, yX12_set, yX12_isSpan, yX12_copy, yX12_drop, yX12_feed, yX12_byteAt, yX12_next, yX12_must]
def ymL_4 : List (MethodName) := [yX12_goesOn, yX12_isLetter, yX12_readSign, yX12_readNumber, yX12_sortOf, yX12_isSort, yX12_readGrate, yX12_readCoal, yX12_isTold, yX12_readThing, yX12_readEater, yX12_yard, yX12_fault, yX12_isYard, yX12_isThing, yX12_isOn, yX12_isGone, yX12_isA, yX12_below, yX12_above, yX12_size, yX12_areBeside, yX12_heatOf, yX12_thick, yX12_need, yX12_limit, yX12_least, yX12_goThing, yX12_goMinute, yX12_remembers, yX12_minutes, yX12_turn, yX12_isTaken, yX12_move, yX12_adds, yX12_coal, yX12_water, yX12_isThrough, yX12_isWell, yX12_servedNow]
def ymL_5 : List (MethodName) := [yX12_serve, yX12_undo, yX12_thing, yX12_eater, yX12_ember, yX12_heat, yX12_holds, yX12_putsBack, yX12_go, yX12_ahead, yX12_heatAhead, yX12_readyIn, yX12_ready, yX12_where, yX12_inTime, yX12_bits, yX12_isWellBy, yX12_flips, yX12_start, yX12_fuelFor, yX12_mayGet, yX12_most, yX12_servable, yX12_setOf, yX12_handles, yX12_hand, yX12_areItems, yX12_judged, yX12_fireNow, yX12_fuel, yX12_image, yX12_restore, yX12_kind, yX12_as, yX12_begins, yX12_lentSize, yX12_lentMark, yX12_sausageMark, yX12_markOfSausages, yX12_sausageSize]
def ymL_6 : List (MethodName) := [yX12_cheeseSize, yX12_sizeOfCheese, yX12_sizeOf, yX12_markOf, yX12_ask, yX12_trace, yX12_count, yX12_status, yJ6_bitCount_0f7a4, yJ9_abs_0f7a4, yJ9_max_7cf53, yJ9_min_7cf53, yL_law]
def ymL : List (MethodName) := ymL_0 ++ (ymL_1 ++ (ymL_2 ++ (ymL_3 ++ (ymL_4 ++ (ymL_5 ++ (ymL_6))))))
def btL_0 : List (ByteArray) := [cX0_init, cX0_sizeOf, cX0_markOf, cX1_init, cX1_sizeOf, cX1_markOf, cX2_init, cX2_sizeOf, cX3_init, cX3_share, cX3_drips, cX3_sizeOf, cX3_markOf, cX4_init, cX4_take, cX4_readInto, cX4_readGrate, cX4_readCoal, cX4_readThing, cX4_readEater, cX4_next, cX4_readSign, cX4_readSort, cX4_readNumber, cX4_fail, cX4_isFigure, cX4_sortOf, cX5_init, cX5_isRow, cX5_isMissing, cX5_sameLane, cX5_hasPlaces, cX5_lay, cX5_get, cX5_put, cX5_carry, cX5_forget, cX5_present, cX6_init, cX6_drips]
def btL_1 : List (ByteArray) := [cX6_sizeOf, cX6_markOf, cX7_init, cX7_markOf, cX8_init, cX8_layCold, cX8_become, cX8_isServed, cX8_isThrough, cX8_isDone, cX8_skinOf, cX8_flip, cX8_heatBy, cX8_roastBy, cX8_rest, cX8_saveIn, cX8_loadFrom, cX9_init, cX9_leave, cX10_init, cX10_clear, cX10_addCoal, cX10_addThing, cX10_addEater, cX10_kindOf, cX10_thingAt, cX10_isEater, cX10_lyingIn, cX10_isOpenTo, cX10_wants, cX10_sunkBy, cX10_warmthIn, cX10_isBeside, cX10_windIn, cX10_roast, cX10_passMinute, cX10_pourWater, cX10_fireOfAll, cX10_minutesOfFire, cX10_servedCount]
def btL_2 : List (ByteArray) := [cX10_hottestBelow, cX10_burntOnes, cX10_doneOnes, cX10_save, cX10_load, cX11_init, cX11_newKinds, cX11_row, cX11_set, cX11_copy, cX11_drop, cX11_found, cX11_answered, cX11_feed, cX11_yard, cX11_fault, cX11_minutes, cX11_turn, cX11_move, cX11_coal, cX11_water, cX11_serve, cX11_undo, cX11_remember, cX11_thing, cX11_eater, cX11_ember, cX11_heat, cX11_asBit, cX11_isCell, cX11_ahead, cX11_heatAhead, cX11_isAhead, cX11_tryAsItLies, cX11_ready, cX11_where, cX11_inTime, cX11_readyAt, cX11_flips, cX11_foretellWarmth]
def btL_3 : List (ByteArray) := [cX11_tryFlips, cX11_tryMinute, cX11_isBetterWay, cX11_start, cX11_isDoneStarting, cX11_fuelFor, cX11_isDoneWithCoal, cX11_servable, cX11_doneAhead, cX11_firstFor, cX11_hand, cX11_judged, cX11_tellsTurns, cX11_tryWholeYard, cX11_fuel, cX11_image, cX11_restore, cX11_isImage, cX11_kind, cX11_as, cX11_isOneOf, cX11_ask, cX11_trace, cX11_count, cX11_status, cX12_init, cX12_in, cX12_has, cX12_found, cX12_well, cX12_isRow, cX12_row, cX12_set, cX12_isSpan, cX12_copy, cX12_drop, cX12_feed, cX12_byteAt, cX12_next, cX12_must]
def btL_4 : List (ByteArray) := [cX12_goesOn, cX12_isLetter, cX12_readSign, cX12_readNumber, cX12_sortOf, cX12_isSort, cX12_readGrate, cX12_readCoal, cX12_isTold, cX12_readThing, cX12_readEater, cX12_yard, cX12_fault, cX12_isYard, cX12_isThing, cX12_isOn, cX12_isGone, cX12_isA, cX12_below, cX12_above, cX12_size, cX12_areBeside, cX12_heatOf, cX12_thick, cX12_need, cX12_limit, cX12_least, cX12_goThing, cX12_goMinute, cX12_remembers, cX12_minutes, cX12_turn, cX12_isTaken, cX12_move, cX12_adds, cX12_coal, cX12_water, cX12_isThrough, cX12_isWell, cX12_servedNow]
def btL_5 : List (ByteArray) := [cX12_serve, cX12_undo, cX12_thing, cX12_eater, cX12_ember, cX12_heat, cX12_holds, cX12_putsBack, cX12_go, cX12_ahead, cX12_heatAhead, cX12_readyIn, cX12_ready, cX12_where, cX12_inTime, cX12_bits, cX12_isWellBy, cX12_flips, cX12_start, cX12_fuelFor, cX12_mayGet, cX12_most, cX12_servable, cX12_setOf, cX12_handles, cX12_hand, cX12_areItems, cX12_judged, cX12_fireNow, cX12_fuel, cX12_image, cX12_restore, cX12_kind, cX12_as, cX12_begins, cX12_lentSize, cX12_lentMark, cX12_sausageMark, cX12_markOfSausages, cX12_sausageSize]
def btL_6 : List (ByteArray) := [cX12_cheeseSize, cX12_sizeOfCheese, cX12_sizeOf, cX12_markOf, cX12_ask, cX12_trace, cX12_count, cX12_status, cJ6_bitCount_0f7a4, cJ9_abs_0f7a4, cJ9_max_7cf53, cJ9_min_7cf53, cL_law]
def btL : List (ByteArray) := btL_0 ++ (btL_1 ++ (btL_2 ++ (btL_3 ++ (btL_4 ++ (btL_5 ++ (btL_6))))))
def mlL_0 : List (Nat) := [5, 3, 3, 5, 3, 3, 5, 3, 5, 2, 1, 3, 3, 1, 2, 3, 2, 4, 5, 4, 1, 2, 2, 6, 3, 1, 1, 2, 2, 2, 3, 4, 5, 3, 5, 6, 2, 3, 5, 1]
def mlL_1 : List (Nat) := [3, 3, 5, 3, 3, 3, 2, 1, 1, 1, 2, 2, 4, 3, 2, 3, 4, 1, 2, 3, 1, 4, 3, 3, 2, 2, 2, 3, 4, 4, 2, 7, 2, 2, 3, 3, 3, 3, 3, 3]
def mlL_2 : List (Nat) := [4, 3, 3, 6, 7, 1, 1, 4, 4, 6, 2, 2, 2, 2, 3, 1, 3, 3, 5, 3, 1, 4, 1, 1, 4, 3, 3, 2, 1, 1, 5, 5, 2, 4, 3, 7, 6, 5, 5, 4]
def mlL_3 : List (Nat) := [7, 7, 3, 6, 6, 5, 6, 7, 4, 5, 6, 6, 7, 1, 2, 2, 2, 1, 3, 4, 2, 4, 2, 2, 1, 2, 3, 2, 2, 2, 1, 5, 5, 4, 8, 2, 2, 2, 2, 3]
def mlL_4 : List (Nat) := [1, 2, 2, 4, 2, 1, 1, 3, 4, 3, 3, 3, 1, 1, 2, 2, 2, 2, 2, 2, 1, 2, 5, 2, 2, 2, 1, 4, 3, 2, 3, 2, 5, 4, 4, 3, 4, 2, 2, 3]
def mlL_5 : List (Nat) := [4, 2, 3, 3, 3, 2, 2, 2, 3, 5, 4, 5, 2, 7, 6, 3, 5, 7, 6, 5, 4, 9, 10, 5, 4, 6, 7, 6, 3, 3, 3, 3, 2, 3, 2, 2, 2, 2, 3, 3]
def mlL_6 : List (Nat) := [2, 2, 2, 3, 3, 2, 4, 1, 1, 1, 2, 2, 4]
def mlL : List (Nat) := mlL_0 ++ (mlL_1 ++ (mlL_2 ++ (mlL_3 ++ (mlL_4 ++ (mlL_5 ++ (mlL_6))))))
def rtL_0 : List (Option FieldType) := [none, (some .int), (some .int), none, (some .int), (some .int), none, (some .int), none, (some .int), (some .boolean), (some .int), (some .int), none, (some .boolean), (some .boolean), none, none, none, none, (some .int), none, (some .int), (some .int), none, (some .boolean), (some .int), none, (some .boolean), (some .boolean), (some .boolean), (some .boolean), none, (some .int), (some .int), none, (some .int), (some .int), none, (some .boolean)]
def rtL_1 : List (Option FieldType) := [(some .int), (some .int), none, (some .int), none, none, none, (some .boolean), (some .boolean), (some .boolean), (some .int), none, (some .int), none, none, none, none, none, none, none, none, none, none, none, (some (.object "CoalGrate$Kind")), (some (.object "CoalGrate$Thing")), (some .boolean), (some (.object "CoalGrate$Thing")), (some .boolean), (some .boolean), (some .int), (some .int), (some .boolean), (some .int), none, none, (some .int), (some .int), (some .int), (some .int)]
def rtL_2 : List (Option FieldType) := [(some (.object "CoalGrate$Thing")), (some .int), (some .int), none, none, none, (some (.array (.object "CoalGrate$Kind"))), (some .int), (some .int), (some .int), (some .int), (some .int), (some .int), (some .int), (some .int), (some .int), (some .int), (some .int), (some .int), (some .int), (some .int), (some .int), (some .int), none, (some .int), (some .int), (some .int), (some .int), (some .int), (some .boolean), (some .int), (some .int), (some .boolean), none, (some .int), (some .int), (some .int), (some .int), (some .int), none]
def rtL_3 : List (Option FieldType) := [none, none, (some .boolean), (some .int), (some .boolean), (some .int), (some .boolean), (some .int), (some .int), (some .int), (some .int), (some .int), (some .boolean), none, (some .int), (some .int), (some .int), (some .boolean), (some .int), (some .int), (some .boolean), (some .int), (some .int), (some .int), (some .int), none, (some .boolean), (some .boolean), (some .int), (some .int), (some .boolean), (some .int), (some .int), (some .boolean), (some .int), (some .int), (some .int), (some .int), none, none]
def rtL_4 : List (Option FieldType) := [none, (some .boolean), none, (some .int), (some .int), (some .boolean), none, none, (some .boolean), none, none, (some .int), (some .int), (some .boolean), (some .boolean), (some .boolean), (some .boolean), (some .boolean), (some .int), (some .int), (some .int), (some .boolean), (some .int), (some .int), (some .int), (some .int), (some .int), none, none, none, (some .int), (some .int), (some .boolean), (some .int), none, (some .int), (some .int), (some .boolean), (some .boolean), (some .int)]
def rtL_5 : List (Option FieldType) := [(some .int), (some .int), (some .int), (some .int), (some .int), (some .int), none, none, none, (some .int), (some .int), (some .int), (some .int), (some .int), (some .int), (some .int), (some .boolean), (some .int), (some .int), (some .int), (some .boolean), (some .int), (some .int), (some .int), (some .int), (some .int), (some .boolean), (some .int), (some .int), (some .int), (some .int), (some .int), (some .int), (some .int), none, (some .int), (some .int), (some .int), (some .int), (some .int)]
def rtL_6 : List (Option FieldType) := [(some .int), (some .int), (some .int), (some .int), (some .int), (some .int), (some .int), (some .int), (some .int), (some .int), (some .int), (some .int), (some .boolean)]
def rtL : List (Option FieldType) := rtL_0 ++ (rtL_1 ++ (rtL_2 ++ (rtL_3 ++ (rtL_4 ++ (rtL_5 ++ (rtL_6))))))
def naL_0 : List (Nat) := [4, 2, 2, 4, 2, 2, 4, 2, 4, 1, 0, 2, 2, 0, 1, 1, 1, 1, 1, 1, 0, 1, 0, 2, 2, 1, 1, 0, 1, 1, 2, 3, 3, 2, 3, 5, 1, 0, 4, 0]
def naL_1 : List (Nat) := [2, 2, 4, 2, 2, 2, 1, 0, 0, 0, 1, 0, 2, 2, 1, 2, 3, 0, 1, 1, 0, 3, 2, 2, 1, 1, 1, 1, 2, 3, 1, 2, 2, 1, 2, 0, 0, 0, 0, 0]
def naL_2 : List (Nat) := [0, 0, 0, 2, 2, 0, 0, 3, 3, 5, 1, 1, 1, 1, 0, 0, 1, 1, 2, 2, 0, 2, 0, 0, 2, 2, 2, 1, 1, 1, 3, 2, 2, 2, 1, 1, 2, 3, 3, 2]
def naL_3 : List (Nat) := [6, 6, 1, 3, 4, 2, 3, 2, 1, 3, 2, 3, 3, 0, 0, 1, 1, 1, 1, 2, 2, 2, 1, 1, 0, 0, 3, 2, 1, 1, 1, 3, 3, 3, 5, 1, 1, 1, 0, 2]
def naL_4 : List (Nat) := [0, 1, 1, 2, 1, 0, 0, 0, 1, 0, 0, 0, 0, 0, 1, 1, 1, 2, 1, 1, 1, 2, 1, 1, 1, 1, 1, 1, 0, 0, 1, 1, 2, 2, 2, 2, 0, 1, 1, 0]
def naL_5 : List (Nat) := [2, 0, 2, 2, 2, 1, 0, 0, 1, 3, 2, 2, 1, 1, 2, 1, 3, 3, 3, 2, 3, 3, 2, 1, 0, 2, 3, 3, 0, 0, 1, 1, 1, 2, 1, 1, 1, 1, 1, 1]
def naL_6 : List (Nat) := [1, 1, 1, 1, 2, 1, 1, 0, 1, 1, 2, 2, 1]
def naL : List (Nat) := naL_0 ++ (naL_1 ++ (naL_2 ++ (naL_3 ++ (naL_4 ++ (naL_5 ++ (naL_6))))))
def ym (M : Nat) : MethodName := ymL.getD M yL_law
def bt (M : Nat) : ByteArray := btL.getD M code
def ml (M : Nat) : Nat := mlL.getD M 4
def rt (M : Nat) : Option FieldType := rtL.getD M none
def na (M : Nat) : Nat := naL.getD M 0
def mcL_0 : List (Nat) := [0, 0, 0, 0, 0, 0, 0, 0, 0, 0, 0, 0, 0, 1, 0, 0, 0, 0, 0, 0, 0, 0, 0, 0, 0, 0, 0, 3, 0, 0, 0, 0, 0, 0, 0, 0, 0, 0, 0, 0]
def mcL_1 : List (Nat) := [0, 0, 0, 0, 0, 0, 0, 0, 0, 0, 0, 0, 0, 0, 0, 0, 0, 1, 0, 13, 0, 0, 0, 0, 0, 0, 0, 0, 0, 0, 0, 0, 0, 0, 0, 0, 0, 0, 0, 0]
def mcL_2 : List (Nat) := [0, 0, 0, 0, 0, 49, 7, 0, 0, 0, 0, 0, 0, 0, 0, 0, 0, 0, 0, 0, 0, 0, 0, 0, 0, 0, 0, 0, 0, 0, 0, 0, 0, 0, 0, 0, 0, 0, 0, 0]
def mcL_3 : List (Nat) := [0, 0, 0, 0, 0, 0, 0, 0, 0, 0, 0, 0, 0, 0, 0, 0, 0, 0, 0, 0, 0, 0, 0, 0, 0, 14, 0, 0, 0, 0, 0, 0, 0, 0, 0, 0, 0, 0, 0, 0]
def mcL_4 : List (Nat) := [0, 0, 0, 0, 0, 0, 0, 0, 0, 0, 0, 0, 0, 0, 0, 0, 0, 0, 0, 0, 0, 0, 0, 0, 0, 0, 0, 0, 0, 0, 0, 0, 0, 0, 0, 0, 0, 0, 0, 0]
def mcL_5 : List (Nat) := [0, 0, 0, 0, 0, 0, 0, 0, 0, 0, 0, 0, 0, 0, 0, 0, 0, 0, 0, 0, 0, 0, 0, 0, 0, 0, 0, 0, 0, 0, 0, 0, 0, 0, 0, 0, 0, 0, 0, 0]
def mcL_6 : List (Nat) := [0, 0, 0, 0, 0, 0, 0, 0, 0, 0, 0, 0, 600000]
def mcL : List (Nat) := mcL_0 ++ (mcL_1 ++ (mcL_2 ++ (mcL_3 ++ (mcL_4 ++ (mcL_5 ++ (mcL_6))))))
def msL_0 : List (Nat) := [0, 0, 0, 0, 0, 0, 0, 0, 0, 0, 0, 0, 0, 160, 0, 0, 0, 0, 0, 0, 0, 0, 0, 0, 0, 0, 0, 336, 0, 0, 0, 0, 0, 0, 0, 0, 0, 0, 0, 0]
def msL_1 : List (Nat) := [0, 0, 0, 0, 0, 0, 0, 0, 0, 0, 0, 0, 0, 0, 0, 0, 0, 16, 0, 90, 0, 0, 0, 0, 0, 0, 0, 0, 0, 0, 0, 0, 0, 0, 0, 0, 0, 0, 0, 0]
def msL_2 : List (Nat) := [0, 0, 0, 0, 0, 3099, 30, 0, 0, 0, 0, 0, 0, 0, 0, 0, 0, 0, 0, 0, 0, 0, 0, 0, 0, 0, 0, 0, 0, 0, 0, 0, 0, 0, 0, 0, 0, 0, 0, 0]
def msL_3 : List (Nat) := [0, 0, 0, 0, 0, 0, 0, 0, 0, 0, 0, 0, 0, 0, 0, 0, 0, 0, 0, 0, 0, 0, 0, 0, 0, 2520, 0, 0, 0, 0, 0, 0, 0, 0, 0, 0, 0, 0, 0, 0]
def msL_4 : List (Nat) := [0, 0, 0, 0, 0, 0, 0, 0, 0, 0, 0, 0, 0, 0, 0, 0, 0, 0, 0, 0, 0, 0, 0, 0, 0, 0, 0, 0, 0, 0, 0, 0, 0, 0, 0, 0, 0, 0, 0, 0]
def msL_5 : List (Nat) := [0, 0, 0, 0, 0, 0, 0, 0, 0, 0, 0, 0, 0, 0, 0, 0, 0, 0, 0, 0, 0, 0, 0, 0, 0, 0, 0, 0, 0, 0, 0, 0, 0, 0, 0, 0, 0, 0, 0, 0]
def msL_6 : List (Nat) := [0, 0, 0, 0, 0, 0, 0, 0, 0, 0, 0, 0, 7302250]
def msL : List (Nat) := msL_0 ++ (msL_1 ++ (msL_2 ++ (msL_3 ++ (msL_4 ++ (msL_5 ++ (msL_6))))))
def mc (M : Nat) : Nat := mcL.getD M 0
def ms (M : Nat) : Nat := msL.getD M 0
abbrev classes : List vw_C := [(RX0, TX0, 4), (RX1, TX1, 4), (RX2, TX2, 4), (RX3, TX3, 4), (RX4, TX4, 6), (RX5, TX5, 3), (RX6, TX6, 4), (RX7, TX7, 4), (RX8, TX8, 8), (RX9, TX9, 2), (RX10, TX10, 14), (RX11, TX11, 17), (RX12, TX12, 24)]
def FKL : List (List Bool) := [[true, true, true, true], [true, true, true, true], [true, true, true, true], [true, true, true, true], [false, true, true, true, true, true], [false, false, false], [true, true, true, true], [true, true, true, true], [true, false, true, true, true, true, true, true], [false, true], [false, true, true, true, true, false, false, false, true, false, true, false, false, false], [false, false, false, false, false, false, false, true, false, true, true, false, false, false, false, true, true], [false, false, false, false, true, false, false, false, true, false, true, true, true, true, true, true, true, false, false, false, false, false, false, true]]
def FK (c : Nat) : List Bool := FKL.getD c []
def SHL : List (Nat × Nat) := [(0, 11), (0, 5), (1, 320), (1, 8), (1, 8), (0, 4), (1, 160), (0, 9), (1, 16), (3, 6), (0, 3), (0, 6), (0, 1), (0, 7), (0, 0), (0, 2), (0, 8), (0, 10), (1, 8), (1, 8), (1, 8), (4, 6), (1, 4), (1, 4), (1, 4), (0, 8), (0, 8), (0, 8), (0, 8), (0, 8), (0, 8), (0, 10), (1, 8), (1, 8), (1, 8), (4, 6), (1, 4), (1, 4), (1, 4), (0, 8), (0, 8), (0, 8), (0, 8), (0, 8), (0, 8), (1, 2016), (1, 168), (2, 2), (1, 84), (1, 60), (0, 12), (1, 85), (1, 170), (2, 2), (1, 1584), (1, 8), (1, 8), (1, 320), (1, 160), (1, 85), (1, 6), (1, 66), (2, 6), (1, 4), (1, 16)]
def SH (k : Nat) : Nat × Nat := SHL.getD k (9, 0)
def fet (M pc : Nat) : Except DecodeError (Instr × Nat) := decode (bt M) pc
def nestL : List (String × Nat × MethodName × String) := [("CoalGrate", 18, ⟨"CoalGrate$Reader", "<init>", "()V"⟩, "CoalGrate"), ("CoalGrate", 25, ⟨"CoalGrate$Trace", "<init>", "()V"⟩, "CoalGrate"), ("CoalGrate$Yard", 68, ⟨"CoalGrate", "isCell", "(I)Z"⟩, "CoalGrate"), ("CoalGrate$Thing", 67, ⟨"CoalGrate", "asBit", "(Z)I"⟩, "CoalGrate"), ("CoalGrate$Yard", 134, ⟨"CoalGrate", "asBit", "(Z)I"⟩, "CoalGrate"), ("CoalGrate$Rows", 29, ⟨"CoalGrate", "asBit", "(Z)I"⟩, "CoalGrate")]
def castL : List (String × String) := [("CoalGrate$Chicken", "CoalGrate$Sausage"), ("CoalGrate$Thin", "CoalGrate$Sausage"), ("CoalGrate$Corn", "CoalGrate$Cheese"), ("CoalGrate$Sausage", "CoalGrate$Kind"), ("CoalGrate$Chicken", "CoalGrate$Kind"), ("CoalGrate$Thin", "CoalGrate$Kind"), ("CoalGrate$Cheese", "CoalGrate$Kind"), ("CoalGrate$Corn", "CoalGrate$Kind")]
def nocastL : List (String × String) := [("CoalGrate$Kind", "CoalGrate$Sausage"), ("CoalGrate$Cheese", "CoalGrate$Sausage"), ("CoalGrate$Corn", "CoalGrate$Sausage"), ("CoalGrate$Kind", "CoalGrate$Chicken"), ("CoalGrate$Sausage", "CoalGrate$Chicken"), ("CoalGrate$Thin", "CoalGrate$Chicken"), ("CoalGrate$Cheese", "CoalGrate$Chicken"), ("CoalGrate$Corn", "CoalGrate$Chicken"), ("CoalGrate$Kind", "CoalGrate$Thin"), ("CoalGrate$Sausage", "CoalGrate$Thin"), ("CoalGrate$Chicken", "CoalGrate$Thin"), ("CoalGrate$Cheese", "CoalGrate$Thin"), ("CoalGrate$Corn", "CoalGrate$Thin"), ("CoalGrate$Kind", "CoalGrate$Cheese"), ("CoalGrate$Sausage", "CoalGrate$Cheese"), ("CoalGrate$Chicken", "CoalGrate$Cheese"), ("CoalGrate$Thin", "CoalGrate$Cheese"), ("CoalGrate$Kind", "CoalGrate$Corn"), ("CoalGrate$Sausage", "CoalGrate$Corn"), ("CoalGrate$Chicken", "CoalGrate$Corn"), ("CoalGrate$Thin", "CoalGrate$Corn"), ("CoalGrate$Cheese", "CoalGrate$Corn")]
def overL : List String := ["CoalGrate$Kind", "CoalGrate$Thing"]
end
section
/-! the machine seen from afar: places instead of addresses; one heap of ints and of references, by place and slot -/
abbrev AV : Type := Int32 ⊕ (Int64 ⊕ Option Nat)
abbrev vI (x : Int32) : AV := Sum.inl x
abbrev vL (x : Int64) : AV := Sum.inr (Sum.inl x)
abbrev vR (o : Option Nat) : AV := Sum.inr (Sum.inr o)
abbrev Hp : Type := Nat × (Nat → Nat → Int32) × (Nat → Nat → Option Nat)
abbrev hn (h : Hp) : Nat := h.1
def hi (h : Hp) : Nat → Nat → Int32 := h.2.1
def hr (h : Hp) : Nat → Nat → Option Nat := h.2.2
def seti (h : Hp) (k j : Nat) (v : Int32) : Hp := (h.1, fun a => if a = k then upd (h.2.1 k) j v else h.2.1 a, h.2.2)
def setr (h : Hp) (k j : Nat) (v : Option Nat) : Hp := (h.1, h.2.1, fun a => if a = k then va_up (h.2.2 k) j v else h.2.2 a)
def setw (h : Hp) (k : Nat) (f : Nat → Int32) : Hp := (h.1, fun a => if a = k then f else h.2.1 a, h.2.2)
def grow (h : Hp) : Hp := (h.1 + 1, fun a => if a = h.1 then (fun _ => 0) else h.2.1 a, fun a => if a = h.1 then (fun _ => none) else h.2.2 a)
def cv (ad : Nat → Nat) : AV → Value
  | .inl x => .int x
  | .inr (.inl x) => .long x
  | .inr (.inr o) => va_rf (o.map ad)
def isL : AV → Bool
  | .inr (.inl _) => true
  | _ => false
def wt : AV → Nat
  | .inr (.inl _) => 2
  | _ => 1
def lc (ad : Nat → Nat) (ls : List (Nat × AV)) : List (Nat × Value) := ls.map (fun q => (q.1, cv ad q.2))
def stL (i : Nat) (v : AV) (ls : List (Nat × AV)) : List (Nat × AV) := (i, v) :: ls.filter (fun q => !(q.1 == i) && !(q.1 + 1 == i && isL q.2))
def lk : List (Nat × AV) → Nat → Option AV
  | [], _ => none
  | (j, v) :: t, i => if j == i then some v else lk t i
def la : Nat → List AV → List (Nat × AV)
  | _, [] => []
  | i, v :: t => (i, v) :: la (i + 1) t
theorem cv_cat (ad : Nat → Nat) (v : AV) : (cv ad v).category = wt v := by
  rcases v with x | x | o
  · rfl
  · rfl
  · cases o <;> rfl
theorem wt_isL (v : AV) : (wt v == 2) = isL v := by
  rcases v with x | x | o <;> rfl
theorem lk_mem {ls : List (Nat × AV)} {i : Nat} {v : AV} (h : lk ls i = some v) : (i, v) ∈ ls := by
  induction ls with
  | nil => cases h
  | cons q t ih =>
    obtain ⟨j, w⟩ := q
    unfold lk at h
    by_cases hj : (j == i) = true
    · rw [if_pos hj] at h
      have : j = i := by simpa using hj
      subst this
      cases h
      exact List.mem_cons_self
    · rw [if_neg hj] at h
      exact List.mem_cons_of_mem _ (ih h)
theorem lc_lk {ad : Nat → Nat} {lsC : Array Slot} {nL : Nat} {ls : List (Nat × AV)} {i : Nat} {v : AV} (hl : lv_has lsC nL (lc ad ls)) (h : lk ls i = some v) : lsC[i]? = some (.val (cv ad v)) :=
  hl.2.2 (i, cv ad v) (List.mem_map.mpr ⟨(i, v), lk_mem h, rfl⟩)
theorem lc_st (ad : Nat → Nat) (i : Nat) (v : AV) (ls : List (Nat × AV)) : (i, cv ad v) :: (lc ad ls).filter (fun q => !(q.1 == i) && !(q.1 + 1 == i && q.2.category == 2)) = lc ad (stL i v ls) := by
  unfold lc stL
  rw [List.filter_map, List.map_cons]
  congr 2
  apply List.filter_congr
  intro q _
  simp [Function.comp, cv_cat, ← wt_isL]
theorem la_args (ad : Nat → Nat) (args : List AV) (hnl : args.all (fun v => !isL v) = true) : ∀ i, lv_args i (args.map (cv ad)) = lc ad (la i args) := by
  induction args with
  | nil => intro i; rfl
  | cons v t ih =>
    intro i
    simp only [List.all_cons, Bool.and_eq_true] at hnl
    have hc : (cv ad v).category ≠ 2 := by
      rw [cv_cat]
      rcases v with x | x | o
      · show (1 : Nat) ≠ 2; decide
      · simp [isL] at hnl
      · show (1 : Nat) ≠ 2; decide
    simp only [List.map_cons, lv_args, if_neg hc, la, lc]
    congr 1
    exact ih hnl.2 (i + 1)
theorem la_len (ad : Nat → Nat) (args : List AV) (hnl : args.all (fun v => !isL v) = true) : (lg_sl (args.map (cv ad))).length = args.length := by
  induction args with
  | nil => rfl
  | cons v t ih =>
    simp only [List.all_cons, Bool.and_eq_true] at hnl
    have hc : (cv ad v).category ≠ 2 := by
      rw [cv_cat]
      rcases v with x | x | o
      · show (1 : Nat) ≠ 2; decide
      · simp [isL] at hnl
      · show (1 : Nat) ≠ 2; decide
    have e : lg_sl ((v :: t).map (cv ad)) = .val (cv ad v) :: lg_sl (t.map (cv ad)) := by
      simp [lg_sl, hc]
    rw [e, List.length_cons, ih hnl.2, List.length_cons]
/-! the cells -/
abbrev En : Type := va_G × ClassId × ClassId × ClassId × ClassId
def tysE (E : En) : List (ClassId × FieldType) := [(E.2.1, .int), (E.2.2.1, .boolean), (E.2.2.2.1, .object RX3), (E.2.2.2.2, .object RX8)]
def fv (ad : Nat → Nat) (f : Nat → Int32) (g : Nat → Option Nat) : Nat → List Bool → List Value
  | _, [] => []
  | j, true :: t => .int (f j) :: fv ad f g (j + 1) t
  | j, false :: t => va_rf ((g j).map ad) :: fv ad f g (j + 1) t
def rrow (g : Nat → Option Nat) (ad : Nat → Nat) : Nat → Option Nat := fun j => (g j).map ad
def cell (E : En) (ad : Nat → Nat) (h : Hp) (k : Nat) : va_E :=
  match SH k with
  | (0, ci) => .inr (ci, fv ad (hi h k) (hr h k) 0 (FK ci))
  | (1, n) => .inl (E.2.1, n, .inl (hi h k))
  | (2, n) => .inl (E.2.2.1, n, .inl (hi h k))
  | (3, n) => .inl (E.2.2.2.1, n, .inr (.inr (.inr (.inr (rrow (hr h k) ad)))))
  | (_, n) => .inl (E.2.2.2.2, n, .inr (.inr (.inr (.inr (rrow (hr h k) ad)))))
def toW (E : En) (ad : Nat → Nat) (h : Hp) : va_W := (List.range (hn h)).map (fun k => (ad k, cell E ad h k))
theorem fv_len (ad : Nat → Nat) (f : Nat → Int32) (g : Nat → Option Nat) (l : List Bool) : ∀ j, (fv ad f g j l).length = l.length := by
  induction l with
  | nil => intro j; rfl
  | cons b t ih => intro j; cases b <;> simp [fv, ih]
theorem fv_get {ad : Nat → Nat} {f : Nat → Int32} {g : Nat → Option Nat} : ∀ (l : List Bool) (j i : Nat) (b : Bool), l[i]? = some b → (fv ad f g j l)[i]? = some (if b then .int (f (j + i)) else va_rf ((g (j + i)).map ad)) := by
  intro l
  induction l with
  | nil => intro j i b h; simp at h
  | cons c t ih =>
    intro j i b h
    cases i with
    | zero =>
      simp at h
      subst h
      cases c <;> simp [fv]
    | succ i =>
      simp only [List.getElem?_cons_succ] at h
      have e := ih (j + 1) i b h
      rw [show j + 1 + i = j + (i + 1) by omega] at e
      cases c <;> simp [fv, e]
theorem fv_above {ad : Nat → Nat} {f f' : Nat → Int32} {g g' : Nat → Option Nat} : ∀ (l : List Bool) (j : Nat), (∀ q, j ≤ q → f' q = f q) → (∀ q, j ≤ q → g' q = g q) → fv ad f' g' j l = fv ad f g j l := by
  intro l
  induction l with
  | nil => intro j _ _; rfl
  | cons c t ih =>
    intro j h1 h2
    have e := ih (j + 1) (fun q hq => h1 q (by omega)) (fun q hq => h2 q (by omega))
    cases c <;> simp [fv, e, h1 j (Nat.le_refl j), h2 j (Nat.le_refl j)]
theorem fv_setI {ad : Nat → Nat} {f : Nat → Int32} {g : Nat → Option Nat} {v : Int32} : ∀ (l : List Bool) (j i : Nat), l[i]? = some true → (fv ad f g j l).set i (.int v) = fv ad (upd f (j + i) v) g j l := by
  intro l
  induction l with
  | nil => intro j i h; simp at h
  | cons c t ih =>
    intro j i h
    cases i with
    | zero =>
      simp at h
      subst h
      have e := fv_above (ad := ad) (f := f) (f' := upd f j v) (g := g) (g' := g) t (j + 1) (fun q hq => by have hne : q ≠ j := by omega
                                                                                                            simp [upd, hne]) (fun _ _ => rfl)
      simp only [fv, Nat.add_zero, List.set_cons_zero]
      rw [e]
      simp [upd]
    | succ i =>
      simp only [List.getElem?_cons_succ] at h
      have e := ih (j + 1) i h
      rw [show j + 1 + i = j + (i + 1) by omega] at e
      cases c <;> simp [fv, e, upd] <;> omega
theorem fv_setR {ad : Nat → Nat} {f : Nat → Int32} {g : Nat → Option Nat} {v : Option Nat} : ∀ (l : List Bool) (j i : Nat), l[i]? = some false → (fv ad f g j l).set i (va_rf (v.map ad)) = fv ad f (va_up g (j + i) v) j l := by
  intro l
  induction l with
  | nil => intro j i h; simp at h
  | cons c t ih =>
    intro j i h
    cases i with
    | zero =>
      simp at h
      subst h
      have hg : ∀ q, j + 1 ≤ q → va_up g j v q = g q := by
        intro q hq
        have hne : q ≠ j := by omega
        simp [va_up, hne]
      have e := fv_above (ad := ad) (f := f) (f' := f) (g := g) (g' := va_up g j v) t (j + 1) (fun _ _ => rfl) hg
      simp only [fv, Nat.add_zero, List.set_cons_zero]
      rw [e]
      simp [va_up]
    | succ i =>
      simp only [List.getElem?_cons_succ] at h
      have e := ih (j + 1) i h
      rw [show j + 1 + i = j + (i + 1) by omega] at e
      cases c <;> simp [fv, e, va_up] <;> omega
theorem toW_at {E : En} {ad : Nat → Nat} {h : Hp} {k : Nat} (hk : k < hn h) : (toW E ad h)[k]? = some (ad k, cell E ad h k) := by
  simp [toW, hk]
theorem toW_len (E : En) (ad : Nat → Nat) (h : Hp) : (toW E ad h).length = hn h := by simp [toW]
theorem cell_congr {E : En} {ad : Nat → Nat} {h h' : Hp} {k : Nat} (h1 : hi h' k = hi h k) (h2 : hr h' k = hr h k) : cell E ad h' k = cell E ad h k := by
  unfold cell
  rw [h1, h2]
theorem toW_set {E : En} {ad : Nat → Nat} {h h' : Hp} {k : Nat} {e : va_E} (hl : hn h' = hn h) (hc : e = cell E ad h' k) (h1 : ∀ a, a ≠ k → hi h' a = hi h a) (h2 : ∀ a, a ≠ k → hr h' a = hr h a) : (toW E ad h).set k (ad k, e) = toW E ad h' := by
  subst hc
  apply List.ext_getElem?
  intro i
  rw [List.getElem?_set]
  by_cases hik : k = i
  · subst hik
    rw [if_pos rfl]
    by_cases hlt : k < hn h
    · rw [toW_at (h := h') (by rw [hl]; exact hlt)]
      simp [toW_len, hlt]
    · simp [toW, hl, hlt]
  · rw [if_neg hik]
    by_cases hlt : i < hn h
    · rw [toW_at hlt, toW_at (h := h') (by rw [hl]; exact hlt), cell_congr (h1 i (fun q => hik q.symm)) (h2 i (fun q => hik q.symm))]
    · simp [toW, hl, hlt]
theorem hi_seti (h : Hp) (k j : Nat) (v : Int32) (a b : Nat) : hi (seti h k j v) a b = if a = k ∧ b = j then v else hi h a b := by
  unfold hi seti upd
  by_cases ha : a = k
  · subst ha
    by_cases hb : b = j <;> simp [hb]
  · simp [ha]
theorem hr_seti (h : Hp) (k j : Nat) (v : Int32) : hr (seti h k j v) = hr h := rfl
theorem hi_setr (h : Hp) (k j : Nat) (v : Option Nat) : hi (setr h k j v) = hi h := rfl
theorem hr_setr (h : Hp) (k j : Nat) (v : Option Nat) (a b : Nat) : hr (setr h k j v) a b = if a = k ∧ b = j then v else hr h a b := by
  unfold hr setr va_up
  by_cases ha : a = k
  · subst ha
    by_cases hb : b = j <;> simp [hb]
  · simp [ha]
theorem hi_setw (h : Hp) (k : Nat) (f : Nat → Int32) (a b : Nat) : hi (setw h k f) a b = if a = k then f b else hi h a b := by
  unfold hi setw
  by_cases ha : a = k <;> simp [ha]
theorem hr_setw (h : Hp) (k : Nat) (f : Nat → Int32) : hr (setw h k f) = hr h := rfl
theorem hi_seti_row (h : Hp) (k j : Nat) (v : Int32) : hi (seti h k j v) k = upd (hi h k) j v := by simp [hi, seti]
theorem hi_seti_ne (h : Hp) (k j : Nat) (v : Int32) (a : Nat) (ha : a ≠ k) : hi (seti h k j v) a = hi h a := by simp [hi, seti, ha]
theorem hr_setr_row (h : Hp) (k j : Nat) (v : Option Nat) : hr (setr h k j v) k = va_up (hr h k) j v := by simp [hr, setr]
theorem hr_setr_ne (h : Hp) (k j : Nat) (v : Option Nat) (a : Nat) (ha : a ≠ k) : hr (setr h k j v) a = hr h a := by simp [hr, setr, ha]
theorem hi_setw_row (h : Hp) (k : Nat) (f : Nat → Int32) : hi (setw h k f) k = f := by simp [hi, setw]
theorem hi_setw_ne (h : Hp) (k : Nat) (f : Nat → Int32) (a : Nat) (ha : a ≠ k) : hi (setw h k f) a = hi h a := by simp [hi, setw, ha]
theorem rrow_up (g : Nat → Option Nat) (ad : Nat → Nat) (j : Nat) (v : Option Nat) : rrow (va_up g j v) ad = va_up (rrow g ad) j (v.map ad) := by
  funext q
  by_cases hq : q = j <;> simp [rrow, va_up, hq]
end
section
/-! judgements: OKX (what a frame stands on), WD (the world), RT (how it ends), wp (from here on), Spec (a method) -/
def TBL : List Cond := lw_tbl.filter goodWord
theorem tb {w : Cond} (i : Nat) (h : lw_tbl[i]? = some w) (hg : goodWord w = true) : w ∈ TBL := List.mem_filter.mpr ⟨List.mem_of_getElem? h, hg⟩
theorem tbl_good {w : Cond} (h : w ∈ TBL) : (w.onTables && w.keeps) = true ∨ ∃ ty, w = .arrayClass ty := good_of_word (List.mem_filter.mp h).2
def own (M : Nat) : String := (ym M).cls
def WS (M : Nat) : List Cond := .code (ym M) (bt M) (ml M) (rt M) :: TBL
theorem good_ws {M : Nat} (hc : Cond.code (ym M) (bt M) (ml M) (rt M) ∈ TBL) : GoodIn TBL (WS M) := by
  intro w hw
  rcases List.mem_cons.mp hw with rfl | h
  · exact ⟨hc, tbl_good hc⟩
  · exact ⟨h, tbl_good h⟩
theorem good_app {a b : List Cond} (ha : ∀ w ∈ a, w ∈ TBL) (hb : GoodIn TBL b) : GoodIn TBL (a ++ b) := by
  intro w hw
  rcases List.mem_append.mp hw with h | h
  · exact ⟨ha w h, tbl_good (ha w h)⟩
  · exact hb w h
def NC (s : State) : Prop := (∀ q ∈ nestL, va_Nw (.methodLinkNest q.1 q.2.1 q.2.2.1 q.2.2.2) s) ∧ (∀ q ∈ castL, va_Nw (.castable q.1 q.2) s) ∧ (∀ q ∈ nocastL, va_Nc q.1 q.2 s) ∧ (∀ C ∈ overL, va_AO C s)
def rmD (d M : Nat) : Room := { frames := d, cells := mc M, slots := ms M, locals := 40 * d }
def OKX (p : Program) (R : Room) (s : State) (m : MethodId) (args : Array Value) (meth : Method) (c : Code) (A : Nat → Prop) (E : En) (d M : Nat) : Prop :=
  p.tables.exec = Jvm.exec ∧ c.code = bt M ∧ c.maxLocals = ml M ∧ s.vm.findClass (own M) = some m.cls ∧ (∀ w ∈ TBL, w.before args s = true) ∧ va_K E.1 classes (tysE E) s ∧ (∀ q, s.heap.size ≤ q → A q) ∧ NC s ∧ d ≤ R.frames ∧ 40 * d ≤ R.locals ∧ mc M ≤ R.cells ∧ ms M ≤ R.slots ∧ meth.name = (ym M).name
def WD (E : En) (A : Nat → Prop) (ad : Nat → Nat) (h : Hp) (H0 H : Heap) (locs : List Loc) : Prop := va_P E.1 classes (toW E ad h) H ∧ va_D A (toW E ad h) ∧ va_S A H0 H locs
def RI (M pc : Nat) (r : Option AV) : Prop := match r with
  | none => fet M pc = .ok (.return_, 1) ∧ rt M = none
  | some (.inl x) => fet M pc = .ok (.ireturn, 1) ∧ ∃ t, rt M = some t ∧ narrow t (.int x) = .int x
  | some (.inr (.inr _)) => fet M pc = .ok (.areturn, 1) ∧ ∃ t, rt M = some t ∧ ((∃ n, t = .object n) ∨ ∃ u, t = .array u)
  | _ => False
def RT (p : Program) (l : Launch) (e : Env) (R : Room) (s : State) (m : MethodId) (args : Array Value) (below : List Frame) (meth : Method) (c : Code) (A : Nat → Prop) (Z : State → Prop) (E : En) (ad : Nat → Nat) (n M : Nat) (Q : Option AV → Hp → Prop) : Prop :=
  ∀ (ad' : Nat → Nat) (r : Option AV) (h1 : Hp) (H : Heap) (locs : List Loc) (kc ks pc : Nat) (lsC : Array Slot), (∀ k, k < n → ad' k = ad k) → n ≤ hn h1 → (mc M = 0 → ad' = ad ∧ hn h1 = n) → Q r h1 → WD E A ad' h1 s.heap H locs → kc ≤ mc M → ks ≤ ms M → RI M pc r → W p l e R s m args below meth c H locs kc ks Z (F0 m pc lsC (r.toList.map (cv ad')))
def wp (d M : Nat) (Q : Option AV → Hp → Prop) (kc ks pc : Nat) (ls : List (Nat × AV)) (st : List AV) (h : Hp) : Prop :=
  ∀ (p : Program) (l : Launch) (e : Env) (R : Room) (s : State) (m : MethodId) (args : Array Value) (below : List Frame) (meth : Method) (c : Code) (A : Nat → Prop) (Z : State → Prop) (E : En) (ad : Nat → Nat) (H : Heap) (locs : List Loc) (lsC : Array Slot),
    OKX p R s m args meth c A E d M → RT p l e R s m args below meth c A Z E ad (hn h) M Q → WD E A ad h s.heap H locs → lv_has lsC (ml M) (lc ad ls) → kc ≤ mc M → ks ≤ ms M → W p l e R s m args below meth c H locs kc ks Z (F0 m pc lsC (st.map (cv ad)))
def World (E : En) (ad : Nat → Nat) (h : Hp) (U : State) : Prop := va_P E.1 classes (toW E ad h) U.heap ∧ va_K E.1 classes (tysE E) U ∧ NC U
def PreC (E : En) (ad : Nat → Nat) (h : Hp) (av : List AV) (sz : Nat) : Array Value → State → Prop := va_Pc (av.map (cv ad)) (fun U => U.heap.size = sz ∧ World E ad h U ∧ va_D (fun _ => True) (toW E ad h))
def PostC (E : En) (ad : Nat → Nat) (h : Hp) (Q : Option AV → Hp → Prop) (M sz : Nat) : Array Value → State → Outcome → State → Prop := fun _ st oc t =>
  (∃ (r : Option AV) (h1 : Hp) (ad' : Nat → Nat), (∀ k, k < hn h → ad' k = ad k) ∧ hn h ≤ hn h1 ∧ (mc M = 0 → ad' = ad ∧ hn h1 = hn h) ∧ oc = .returned (r.map (cv ad')) ∧ Q r h1 ∧ va_P E.1 classes (toW E ad' h1) t.heap ∧ va_D (va_A (toW E ad h) sz) (toW E ad' h1)) ∧ va_F (va_A (toW E ad h) sz) st t
def Spec (d M : Nat) (av : List AV) (h : Hp) (Q : Option AV → Hp → Prop) : Prop := ∀ (l : Launch) (E : En) (ad : Nat → Nat) (sz : Nat), Met l (ym M) (WS M) (rmD d M) (PreC E ad h av sz) (PostC E ad h Q M sz) (mc M) (ms M) (va_A (toW E ad h) sz)
theorem NC.warm {s U : State} (hW : s.WarmedH U.vm) (h : NC s) : NC U :=
  ⟨fun q hq => va_Nw.warmM hW (h.1 q hq), fun q hq => va_Nw.warmC hW (h.2.1 q hq), fun q hq => (h.2.2.1 q hq).moved hW.alike, fun C hC => va_AO.moved hW.alike (h.2.2.2 C hC)⟩
theorem NC.same {s U : State} (hv : s.vm = U.vm) (h : NC s) : NC U :=
  ⟨fun q hq => va_Nw.same rfl hv (h.1 q hq), fun q hq => va_Nw.same rfl hv (h.2.1 q hq), fun q hq => (h.2.2.1 q hq).moved (by rw [hv]; exact Vm.Alike.refl _), fun C hC => va_AO.moved (by rw [hv]; exact Vm.Alike.refl _) (h.2.2.2 C hC)⟩
theorem PreC.blind {E : En} {ad : Nat → Nat} {h : Hp} {av : List AV} {sz : Nat} : FrameBlind (PreC E ad h av sz) := by
  intro a U g mk q
  obtain ⟨q0, q1, ⟨qP, qK, qN⟩, qD⟩ := q
  exact ⟨q0, q1, ⟨qP, va_K.moved (u := U) (U := U.calling g mk a) (Vm.Alike.refl U.vm) qK, NC.same (s := U) (U := U.calling g mk a) rfl qN⟩, qD⟩
end
section
/-! rules of wp, an instruction each (printed by wip/whole/p05.py) -/
section Rules
variable {d M : Nat} {Q : Option AV → Hp → Prop} {kc ks pc pc' : Nat} {ls ls' : List (Nat × AV)} {st : List AV} {h : Hp}
theorem r_iconst {n : Int} {v : Int32} (hd : fet M pc = .ok (.iconst n, 1)) (hp : pc + 1 = pc') (hv : Int32.ofInt n = v) (kk : wp d M Q kc ks pc' ls (vI v :: st) h) : wp d M Q kc ks pc ls (st) h := by
  subst hp
  intro p l e R s m args below meth c A Z E ad H locs lsC K G D hl g1 g2
  exact lv_iconst K.1 K.2.1 hd hv (kk p l e R s m args below meth c A Z E ad H locs lsC K G D hl g1 g2)
theorem r_bipush {n : Int} {v : Int32} (hd : fet M pc = .ok (.bipush n, 2)) (hp : pc + 2 = pc') (hv : (Int8.ofInt n).toInt32 = v) (kk : wp d M Q kc ks pc' ls (vI v :: st) h) : wp d M Q kc ks pc ls (st) h := by
  subst hp
  intro p l e R s m args below meth c A Z E ad H locs lsC K G D hl g1 g2
  exact lv_bipush K.1 K.2.1 hd hv (kk p l e R s m args below meth c A Z E ad H locs lsC K G D hl g1 g2)
theorem r_sipush {n : Int} {v : Int32} (hd : fet M pc = .ok (.sipush n, 3)) (hp : pc + 3 = pc') (hv : (Int16.ofInt n).toInt32 = v) (kk : wp d M Q kc ks pc' ls (vI v :: st) h) : wp d M Q kc ks pc ls (st) h := by
  subst hp
  intro p l e R s m args below meth c A Z E ad H locs lsC K G D hl g1 g2
  exact lv_sipush K.1 K.2.1 hd hv (kk p l e R s m args below meth c A Z E ad H locs lsC K G D hl g1 g2)
theorem r_ldc {n : Nat} {v : Int32} (hd : fet M pc = .ok (.ldc n, 2)) (hp : pc + 2 = pc') {on : String} (hon : own M = on) (hc : Cond.constant on n v ∈ TBL) (kk : wp d M Q kc ks pc' ls (vI v :: st) h) : wp d M Q kc ks pc ls (st) h := by
  subst hp
  intro p l e R s m args below meth c A Z E ad H locs lsC K G D hl g1 g2
  exact lv_ldc K.1 K.2.1 (hon ▸ K.2.2.2.1) (K.2.2.2.2.1 _ hc) hd (kk p l e R s m args below meth c A Z E ad H locs lsC K G D hl g1 g2)
theorem r_ldcw {n : Nat} {v : Int32} (hd : fet M pc = .ok (.ldc_w n, 3)) (hp : pc + 3 = pc') {on : String} (hon : own M = on) (hc : Cond.constant on n v ∈ TBL) (kk : wp d M Q kc ks pc' ls (vI v :: st) h) : wp d M Q kc ks pc ls (st) h := by
  subst hp
  intro p l e R s m args below meth c A Z E ad H locs lsC K G D hl g1 g2
  exact lv_ldcw K.1 K.2.1 (hon ▸ K.2.2.2.1) (K.2.2.2.2.1 _ hc) hd (kk p l e R s m args below meth c A Z E ad H locs lsC K G D hl g1 g2)
theorem r_null  (hd : fet M pc = .ok (.aconst_null, 1)) (hp : pc + 1 = pc')  (kk : wp d M Q kc ks pc' ls (vR none :: st) h) : wp d M Q kc ks pc ls (st) h := by
  subst hp
  intro p l e R s m args below meth c A Z E ad H locs lsC K G D hl g1 g2
  exact lv_null K.1 K.2.1 hd (kk p l e R s m args below meth c A Z E ad H locs lsC K G D hl g1 g2)
theorem r_iload_n {k : Fin 4} {i : Nat} {x : Int32} (hd : fet M pc = .ok (.iload_n k, 1)) (hp : pc + 1 = pc') (hi0 : (k : Nat) = i) (hk : lk ls i = some (vI x)) (kk : wp d M Q kc ks pc' ls (vI x :: st) h) : wp d M Q kc ks pc ls (st) h := by
  subst hp
  intro p l e R s m args below meth c A Z E ad H locs lsC K G D hl g1 g2
  exact lv_iload_n K.1 K.2.1 hd hi0 (lc_lk hl hk) (kk p l e R s m args below meth c A Z E ad H locs lsC K G D hl g1 g2)
theorem r_iload {i : Nat} {x : Int32} (hd : fet M pc = .ok (.iload i, 2)) (hp : pc + 2 = pc') (hk : lk ls i = some (vI x)) (kk : wp d M Q kc ks pc' ls (vI x :: st) h) : wp d M Q kc ks pc ls (st) h := by
  subst hp
  intro p l e R s m args below meth c A Z E ad H locs lsC K G D hl g1 g2
  exact lv_iload K.1 K.2.1 hd (lc_lk hl hk) (kk p l e R s m args below meth c A Z E ad H locs lsC K G D hl g1 g2)
theorem r_aload_n {k : Fin 4} {i : Nat} {x : Nat} (hd : fet M pc = .ok (.aload_n k, 1)) (hp : pc + 1 = pc') (hi0 : (k : Nat) = i) (hk : lk ls i = some (vR (some x))) (kk : wp d M Q kc ks pc' ls (vR (some x) :: st) h) : wp d M Q kc ks pc ls (st) h := by
  subst hp
  intro p l e R s m args below meth c A Z E ad H locs lsC K G D hl g1 g2
  exact lv_aload_n K.1 K.2.1 hd hi0 (lc_lk hl hk) (kk p l e R s m args below meth c A Z E ad H locs lsC K G D hl g1 g2)
theorem r_aload {i : Nat} {x : Nat} (hd : fet M pc = .ok (.aload i, 2)) (hp : pc + 2 = pc') (hk : lk ls i = some (vR (some x))) (kk : wp d M Q kc ks pc' ls (vR (some x) :: st) h) : wp d M Q kc ks pc ls (st) h := by
  subst hp
  intro p l e R s m args below meth c A Z E ad H locs lsC K G D hl g1 g2
  exact lv_aload K.1 K.2.1 hd (lc_lk hl hk) (kk p l e R s m args below meth c A Z E ad H locs lsC K G D hl g1 g2)
theorem r_aload_nN {k : Fin 4} {i : Nat} (hd : fet M pc = .ok (.aload_n k, 1)) (hp : pc + 1 = pc') (hi0 : (k : Nat) = i) (hk : lk ls i = some (vR none)) (kk : wp d M Q kc ks pc' ls (vR none :: st) h) : wp d M Q kc ks pc ls (st) h := by
  subst hp
  intro p l e R s m args below meth c A Z E ad H locs lsC K G D hl g1 g2
  exact lv_aload_nN K.1 K.2.1 hd hi0 (lc_lk hl hk) (kk p l e R s m args below meth c A Z E ad H locs lsC K G D hl g1 g2)
theorem r_aloadN {i : Nat} (hd : fet M pc = .ok (.aload i, 2)) (hp : pc + 2 = pc') (hk : lk ls i = some (vR none)) (kk : wp d M Q kc ks pc' ls (vR none :: st) h) : wp d M Q kc ks pc ls (st) h := by
  subst hp
  intro p l e R s m args below meth c A Z E ad H locs lsC K G D hl g1 g2
  exact lv_aloadN K.1 K.2.1 hd (lc_lk hl hk) (kk p l e R s m args below meth c A Z E ad H locs lsC K G D hl g1 g2)
theorem r_iadd {x y : Int32} (hd : fet M pc = .ok (.iadd, 1)) (hp : pc + 1 = pc')  (kk : wp d M Q kc ks pc' ls (vI (x + y) :: st) h) : wp d M Q kc ks pc ls (vI y :: vI x :: st) h := by
  subst hp
  intro p l e R s m args below meth c A Z E ad H locs lsC K G D hl g1 g2
  exact lv_iadd K.1 K.2.1 hd (kk p l e R s m args below meth c A Z E ad H locs lsC K G D hl g1 g2)
theorem r_isub {x y : Int32} (hd : fet M pc = .ok (.isub, 1)) (hp : pc + 1 = pc')  (kk : wp d M Q kc ks pc' ls (vI (x - y) :: st) h) : wp d M Q kc ks pc ls (vI y :: vI x :: st) h := by
  subst hp
  intro p l e R s m args below meth c A Z E ad H locs lsC K G D hl g1 g2
  exact lv_isub K.1 K.2.1 hd (kk p l e R s m args below meth c A Z E ad H locs lsC K G D hl g1 g2)
theorem r_imul {x y : Int32} (hd : fet M pc = .ok (.imul, 1)) (hp : pc + 1 = pc')  (kk : wp d M Q kc ks pc' ls (vI (x * y) :: st) h) : wp d M Q kc ks pc ls (vI y :: vI x :: st) h := by
  subst hp
  intro p l e R s m args below meth c A Z E ad H locs lsC K G D hl g1 g2
  exact lv_imul K.1 K.2.1 hd (kk p l e R s m args below meth c A Z E ad H locs lsC K G D hl g1 g2)
theorem r_iand {x y : Int32} (hd : fet M pc = .ok (.iand, 1)) (hp : pc + 1 = pc')  (kk : wp d M Q kc ks pc' ls (vI (x &&& y) :: st) h) : wp d M Q kc ks pc ls (vI y :: vI x :: st) h := by
  subst hp
  intro p l e R s m args below meth c A Z E ad H locs lsC K G D hl g1 g2
  exact lv_iand K.1 K.2.1 hd (kk p l e R s m args below meth c A Z E ad H locs lsC K G D hl g1 g2)
theorem r_ior {x y : Int32} (hd : fet M pc = .ok (.ior, 1)) (hp : pc + 1 = pc')  (kk : wp d M Q kc ks pc' ls (vI (x ||| y) :: st) h) : wp d M Q kc ks pc ls (vI y :: vI x :: st) h := by
  subst hp
  intro p l e R s m args below meth c A Z E ad H locs lsC K G D hl g1 g2
  exact lv_ior K.1 K.2.1 hd (kk p l e R s m args below meth c A Z E ad H locs lsC K G D hl g1 g2)
theorem r_ixor {x y : Int32} (hd : fet M pc = .ok (.ixor, 1)) (hp : pc + 1 = pc')  (kk : wp d M Q kc ks pc' ls (vI (x ^^^ y) :: st) h) : wp d M Q kc ks pc ls (vI y :: vI x :: st) h := by
  subst hp
  intro p l e R s m args below meth c A Z E ad H locs lsC K G D hl g1 g2
  exact lv_ixor K.1 K.2.1 hd (kk p l e R s m args below meth c A Z E ad H locs lsC K G D hl g1 g2)
theorem r_ishl {x y : Int32} (hd : fet M pc = .ok (.ishl, 1)) (hp : pc + 1 = pc')  (kk : wp d M Q kc ks pc' ls (vI (x <<< (y &&& 31)) :: st) h) : wp d M Q kc ks pc ls (vI y :: vI x :: st) h := by
  subst hp
  intro p l e R s m args below meth c A Z E ad H locs lsC K G D hl g1 g2
  exact lv_ishl K.1 K.2.1 hd (kk p l e R s m args below meth c A Z E ad H locs lsC K G D hl g1 g2)
theorem r_ishr {x y : Int32} (hd : fet M pc = .ok (.ishr, 1)) (hp : pc + 1 = pc')  (kk : wp d M Q kc ks pc' ls (vI (x >>> (y &&& 31)) :: st) h) : wp d M Q kc ks pc ls (vI y :: vI x :: st) h := by
  subst hp
  intro p l e R s m args below meth c A Z E ad H locs lsC K G D hl g1 g2
  exact lv_ishr K.1 K.2.1 hd (kk p l e R s m args below meth c A Z E ad H locs lsC K G D hl g1 g2)
theorem r_iushr {x y : Int32} (hd : fet M pc = .ok (.iushr, 1)) (hp : pc + 1 = pc')  (kk : wp d M Q kc ks pc' ls (vI ((x.toUInt32 >>> (y.toUInt32 &&& Int32.toUInt32 31)).toInt32) :: st) h) : wp d M Q kc ks pc ls (vI y :: vI x :: st) h := by
  subst hp
  intro p l e R s m args below meth c A Z E ad H locs lsC K G D hl g1 g2
  exact lv_iushr K.1 K.2.1 hd rfl (kk p l e R s m args below meth c A Z E ad H locs lsC K G D hl g1 g2)
theorem r_idiv {x y : Int32} (hd : fet M pc = .ok (.idiv, 1)) (hp : pc + 1 = pc') (hne : ¬ y = 0) (kk : wp d M Q kc ks pc' ls (vI (x / y) :: st) h) : wp d M Q kc ks pc ls (vI y :: vI x :: st) h := by
  subst hp
  intro p l e R s m args below meth c A Z E ad H locs lsC K G D hl g1 g2
  exact lv_idiv K.1 K.2.1 hd hne (kk p l e R s m args below meth c A Z E ad H locs lsC K G D hl g1 g2)
theorem r_irem {x y : Int32} (hd : fet M pc = .ok (.irem, 1)) (hp : pc + 1 = pc') (hne : ¬ y = 0) (kk : wp d M Q kc ks pc' ls (vI (x - x / y * y) :: st) h) : wp d M Q kc ks pc ls (vI y :: vI x :: st) h := by
  subst hp
  intro p l e R s m args below meth c A Z E ad H locs lsC K G D hl g1 g2
  exact lv_irem K.1 K.2.1 hd hne (kk p l e R s m args below meth c A Z E ad H locs lsC K G D hl g1 g2)
theorem r_ineg {x : Int32} (hd : fet M pc = .ok (.ineg, 1)) (hp : pc + 1 = pc')  (kk : wp d M Q kc ks pc' ls (vI (-x) :: st) h) : wp d M Q kc ks pc ls (vI x :: st) h := by
  subst hp
  intro p l e R s m args below meth c A Z E ad H locs lsC K G D hl g1 g2
  exact lv_ineg K.1 K.2.1 hd (kk p l e R s m args below meth c A Z E ad H locs lsC K G D hl g1 g2)
theorem r_i2l {x : Int32} (hd : fet M pc = .ok (.i2l, 1)) (hp : pc + 1 = pc')  (kk : wp d M Q kc ks pc' ls (vL x.toInt64 :: st) h) : wp d M Q kc ks pc ls (vI x :: st) h := by
  subst hp
  intro p l e R s m args below meth c A Z E ad H locs lsC K G D hl g1 g2
  exact lv_i2l K.1 K.2.1 hd rfl (kk p l e R s m args below meth c A Z E ad H locs lsC K G D hl g1 g2)
theorem r_i2b {x : Int32} (hd : fet M pc = .ok (.i2b, 1)) (hp : pc + 1 = pc')  (kk : wp d M Q kc ks pc' ls (vI x.toInt8.toInt32 :: st) h) : wp d M Q kc ks pc ls (vI x :: st) h := by
  subst hp
  intro p l e R s m args below meth c A Z E ad H locs lsC K G D hl g1 g2
  exact lv_i2b K.1 K.2.1 hd rfl (kk p l e R s m args below meth c A Z E ad H locs lsC K G D hl g1 g2)
theorem r_i2s {x : Int32} (hd : fet M pc = .ok (.i2s, 1)) (hp : pc + 1 = pc')  (kk : wp d M Q kc ks pc' ls (vI x.toInt16.toInt32 :: st) h) : wp d M Q kc ks pc ls (vI x :: st) h := by
  subst hp
  intro p l e R s m args below meth c A Z E ad H locs lsC K G D hl g1 g2
  exact lv_i2s K.1 K.2.1 hd rfl (kk p l e R s m args below meth c A Z E ad H locs lsC K G D hl g1 g2)
theorem r_ladd {x y : Int64} (hd : fet M pc = .ok (.ladd, 1)) (hp : pc + 1 = pc')  (kk : wp d M Q kc ks pc' ls (vL (x + y) :: st) h) : wp d M Q kc ks pc ls (vL y :: vL x :: st) h := by
  subst hp
  intro p l e R s m args below meth c A Z E ad H locs lsC K G D hl g1 g2
  exact lv_ladd K.1 K.2.1 hd (kk p l e R s m args below meth c A Z E ad H locs lsC K G D hl g1 g2)
theorem r_lcmp {x y : Int64} (hd : fet M pc = .ok (.lcmp, 1)) (hp : pc + 1 = pc')  (kk : wp d M Q kc ks pc' ls (vI (lg_cmp x y) :: st) h) : wp d M Q kc ks pc ls (vL y :: vL x :: st) h := by
  subst hp
  intro p l e R s m args below meth c A Z E ad H locs lsC K G D hl g1 g2
  exact W.lcmp K.1 K.2.1 hd (kk p l e R s m args below meth c A Z E ad H locs lsC K G D hl g1 g2)
theorem r_dupI {x : Int32} (hd : fet M pc = .ok (.dup, 1)) (hp : pc + 1 = pc')  (kk : wp d M Q kc ks pc' ls (vI x :: vI x :: st) h) : wp d M Q kc ks pc ls (vI x :: st) h := by
  subst hp
  intro p l e R s m args below meth c A Z E ad H locs lsC K G D hl g1 g2
  exact lv_dup K.1 K.2.1 hd rfl (kk p l e R s m args below meth c A Z E ad H locs lsC K G D hl g1 g2)
theorem r_dupR {x : Nat} (hd : fet M pc = .ok (.dup, 1)) (hp : pc + 1 = pc')  (kk : wp d M Q kc ks pc' ls (vR (some x) :: vR (some x) :: st) h) : wp d M Q kc ks pc ls (vR (some x) :: st) h := by
  subst hp
  intro p l e R s m args below meth c A Z E ad H locs lsC K G D hl g1 g2
  exact lv_dup K.1 K.2.1 hd rfl (kk p l e R s m args below meth c A Z E ad H locs lsC K G D hl g1 g2)
theorem r_dup2 {x : Int32} {y : Nat} (hd : fet M pc = .ok (.dup2, 1)) (hp : pc + 1 = pc')  (kk : wp d M Q kc ks pc' ls (vI x :: vR (some y) :: vI x :: vR (some y) :: st) h) : wp d M Q kc ks pc ls (vI x :: vR (some y) :: st) h := by
  subst hp
  intro p l e R s m args below meth c A Z E ad H locs lsC K G D hl g1 g2
  exact lv_dup2_11 K.1 K.2.1 hd rfl rfl (kk p l e R s m args below meth c A Z E ad H locs lsC K G D hl g1 g2)
theorem r_istore_n {k : Fin 4} {i : Nat} {x : Int32} (hd : fet M pc = .ok (.istore_n k, 1)) (hp : pc + 1 = pc') (hi0 : (k : Nat) = i) (hlt : i < ml M) (hst : stL i (vI x) ls = ls') (kk : wp d M Q kc ks pc' ls' st h) : wp d M Q kc ks pc ls (vI x :: st) h := by
  subst hp
  subst hst
  intro p l e R s m args below meth c A Z E ad H locs lsC K G D hl g1 g2
  exact lv_istore_n K.1 K.2.1 hd hi0 hl hlt (lc_st ad i (vI x) ls) (fun lsC' hl' => kk p l e R s m args below meth c A Z E ad H locs lsC' K G D hl' g1 g2)
theorem r_istore {i : Nat} {x : Int32} (hd : fet M pc = .ok (.istore i, 2)) (hp : pc + 2 = pc')  (hlt : i < ml M) (hst : stL i (vI x) ls = ls') (kk : wp d M Q kc ks pc' ls' st h) : wp d M Q kc ks pc ls (vI x :: st) h := by
  subst hp
  subst hst
  intro p l e R s m args below meth c A Z E ad H locs lsC K G D hl g1 g2
  exact lv_istore K.1 K.2.1 hd hl hlt (lc_st ad i (vI x) ls) (fun lsC' hl' => kk p l e R s m args below meth c A Z E ad H locs lsC' K G D hl' g1 g2)
theorem r_astore_n {k : Fin 4} {i : Nat} {x : Nat} (hd : fet M pc = .ok (.astore_n k, 1)) (hp : pc + 1 = pc') (hi0 : (k : Nat) = i) (hlt : i < ml M) (hst : stL i (vR (some x)) ls = ls') (kk : wp d M Q kc ks pc' ls' st h) : wp d M Q kc ks pc ls (vR (some x) :: st) h := by
  subst hp
  subst hst
  intro p l e R s m args below meth c A Z E ad H locs lsC K G D hl g1 g2
  exact lv_astore_n K.1 K.2.1 hd hi0 hl hlt (lc_st ad i (vR (some x)) ls) (fun lsC' hl' => kk p l e R s m args below meth c A Z E ad H locs lsC' K G D hl' g1 g2)
theorem r_astore {i : Nat} {x : Nat} (hd : fet M pc = .ok (.astore i, 2)) (hp : pc + 2 = pc')  (hlt : i < ml M) (hst : stL i (vR (some x)) ls = ls') (kk : wp d M Q kc ks pc' ls' st h) : wp d M Q kc ks pc ls (vR (some x) :: st) h := by
  subst hp
  subst hst
  intro p l e R s m args below meth c A Z E ad H locs lsC K G D hl g1 g2
  exact lv_astore K.1 K.2.1 hd hl hlt (lc_st ad i (vR (some x)) ls) (fun lsC' hl' => kk p l e R s m args below meth c A Z E ad H locs lsC' K G D hl' g1 g2)
theorem r_astore_nN {k : Fin 4} {i : Nat} (hd : fet M pc = .ok (.astore_n k, 1)) (hp : pc + 1 = pc') (hi0 : (k : Nat) = i) (hlt : i < ml M) (hst : stL i (vR none) ls = ls') (kk : wp d M Q kc ks pc' ls' st h) : wp d M Q kc ks pc ls (vR none :: st) h := by
  subst hp
  subst hst
  intro p l e R s m args below meth c A Z E ad H locs lsC K G D hl g1 g2
  exact lv_astore_nN K.1 K.2.1 hd hi0 hl hlt (lc_st ad i (vR none) ls) (fun lsC' hl' => kk p l e R s m args below meth c A Z E ad H locs lsC' K G D hl' g1 g2)
theorem r_astoreN {i : Nat} (hd : fet M pc = .ok (.astore i, 2)) (hp : pc + 2 = pc')  (hlt : i < ml M) (hst : stL i (vR none) ls = ls') (kk : wp d M Q kc ks pc' ls' st h) : wp d M Q kc ks pc ls (vR none :: st) h := by
  subst hp
  subst hst
  intro p l e R s m args below meth c A Z E ad H locs lsC K G D hl g1 g2
  exact lv_astoreN K.1 K.2.1 hd hl hlt (lc_st ad i (vR none) ls) (fun lsC' hl' => kk p l e R s m args below meth c A Z E ad H locs lsC' K G D hl' g1 g2)
theorem lc_ix {ad : Nat → Nat} {ls : List (Nat × AV)} {i : Nat} {v : AV} (h : lk ls i = some v) : ∃ k : Nat, (lc ad ls)[k]? = some (i, cv ad v) := List.getElem?_of_mem (List.mem_map.mpr ⟨(i, v), lk_mem h, rfl⟩)
theorem r_iinc {i : Nat} {n : Int} {x v : Int32} (hd : fet M pc = .ok (.iinc i n, 3)) (hp : pc + 3 = pc') (hk : lk ls i = some (vI x)) (hv : x + Int32.ofInt n = v) (hlt : i < ml M) (hst : stL i (vI v) ls = ls') (kk : wp d M Q kc ks pc' ls' st h) : wp d M Q kc ks pc ls st h := by
  subst hp
  subst hst
  intro p l e R s m args below meth c A Z E ad H locs lsC K G D hl g1 g2
  obtain ⟨k, hk2⟩ := lc_ix (ad := ad) hk
  exact lv_iinc K.1 K.2.1 hd hl hk2 hv hlt (lc_st ad i (vI v) ls) (fun lsC' hl' => kk p l e R s m args below meth c A Z E ad H locs lsC' K G D hl' g1 g2)
theorem tgt_eq {pc tgt : Nat} {off : Int} (h : (pc : Int) + off = (tgt : Int)) : (pc : Int) + off = (tgt : Int) := h
theorem r_if_eq {x : Int32} {off : Int} (tgt : Nat) (hd : fet M pc = .ok (.ifCond .eq off, 3)) (hp : pc + 3 = pc') (ht : (pc : Int) + off = (tgt : Int)) (kt : x = 0 → wp d M Q kc ks tgt ls st h) (kf : ¬ x = 0 → wp d M Q kc ks pc' ls st h) : wp d M Q kc ks pc ls (vI x :: st) h := by
  subst hp
  intro p l e R s m args below meth c A Z E ad H locs lsC K G D hl g1 g2
  exact lv_if_eq K.1 K.2.1 hd ht (fun q => kt q p l e R s m args below meth c A Z E ad H locs lsC K G D hl g1 g2) (fun q => kf q p l e R s m args below meth c A Z E ad H locs lsC K G D hl g1 g2)
theorem r_icmp_eq {x y : Int32} {off : Int} (tgt : Nat) (hd : fet M pc = .ok (.if_icmp .eq off, 3)) (hp : pc + 3 = pc') (ht : (pc : Int) + off = (tgt : Int)) (kt : x = y → wp d M Q kc ks tgt ls st h) (kf : ¬ x = y → wp d M Q kc ks pc' ls st h) : wp d M Q kc ks pc ls (vI y :: vI x :: st) h := by
  subst hp
  intro p l e R s m args below meth c A Z E ad H locs lsC K G D hl g1 g2
  exact lv_icmp_eq K.1 K.2.1 hd ht (fun q => kt q p l e R s m args below meth c A Z E ad H locs lsC K G D hl g1 g2) (fun q => kf q p l e R s m args below meth c A Z E ad H locs lsC K G D hl g1 g2)
theorem r_if_ne {x : Int32} {off : Int} (tgt : Nat) (hd : fet M pc = .ok (.ifCond .ne off, 3)) (hp : pc + 3 = pc') (ht : (pc : Int) + off = (tgt : Int)) (kt : ¬ x = 0 → wp d M Q kc ks tgt ls st h) (kf : x = 0 → wp d M Q kc ks pc' ls st h) : wp d M Q kc ks pc ls (vI x :: st) h := by
  subst hp
  intro p l e R s m args below meth c A Z E ad H locs lsC K G D hl g1 g2
  exact lv_if_ne K.1 K.2.1 hd ht (fun q => kt q p l e R s m args below meth c A Z E ad H locs lsC K G D hl g1 g2) (fun q => kf q p l e R s m args below meth c A Z E ad H locs lsC K G D hl g1 g2)
theorem r_icmp_ne {x y : Int32} {off : Int} (tgt : Nat) (hd : fet M pc = .ok (.if_icmp .ne off, 3)) (hp : pc + 3 = pc') (ht : (pc : Int) + off = (tgt : Int)) (kt : ¬ x = y → wp d M Q kc ks tgt ls st h) (kf : x = y → wp d M Q kc ks pc' ls st h) : wp d M Q kc ks pc ls (vI y :: vI x :: st) h := by
  subst hp
  intro p l e R s m args below meth c A Z E ad H locs lsC K G D hl g1 g2
  exact lv_icmp_ne K.1 K.2.1 hd ht (fun q => kt q p l e R s m args below meth c A Z E ad H locs lsC K G D hl g1 g2) (fun q => kf q p l e R s m args below meth c A Z E ad H locs lsC K G D hl g1 g2)
theorem r_if_lt {x : Int32} {off : Int} (tgt : Nat) (hd : fet M pc = .ok (.ifCond .lt off, 3)) (hp : pc + 3 = pc') (ht : (pc : Int) + off = (tgt : Int)) (kt : x < 0 → wp d M Q kc ks tgt ls st h) (kf : ¬ x < 0 → wp d M Q kc ks pc' ls st h) : wp d M Q kc ks pc ls (vI x :: st) h := by
  subst hp
  intro p l e R s m args below meth c A Z E ad H locs lsC K G D hl g1 g2
  exact lv_if_lt K.1 K.2.1 hd ht (fun q => kt q p l e R s m args below meth c A Z E ad H locs lsC K G D hl g1 g2) (fun q => kf q p l e R s m args below meth c A Z E ad H locs lsC K G D hl g1 g2)
theorem r_icmp_lt {x y : Int32} {off : Int} (tgt : Nat) (hd : fet M pc = .ok (.if_icmp .lt off, 3)) (hp : pc + 3 = pc') (ht : (pc : Int) + off = (tgt : Int)) (kt : x < y → wp d M Q kc ks tgt ls st h) (kf : ¬ x < y → wp d M Q kc ks pc' ls st h) : wp d M Q kc ks pc ls (vI y :: vI x :: st) h := by
  subst hp
  intro p l e R s m args below meth c A Z E ad H locs lsC K G D hl g1 g2
  exact lv_icmp_lt K.1 K.2.1 hd ht (fun q => kt q p l e R s m args below meth c A Z E ad H locs lsC K G D hl g1 g2) (fun q => kf q p l e R s m args below meth c A Z E ad H locs lsC K G D hl g1 g2)
theorem r_if_ge {x : Int32} {off : Int} (tgt : Nat) (hd : fet M pc = .ok (.ifCond .ge off, 3)) (hp : pc + 3 = pc') (ht : (pc : Int) + off = (tgt : Int)) (kt : 0 ≤ x → wp d M Q kc ks tgt ls st h) (kf : ¬ 0 ≤ x → wp d M Q kc ks pc' ls st h) : wp d M Q kc ks pc ls (vI x :: st) h := by
  subst hp
  intro p l e R s m args below meth c A Z E ad H locs lsC K G D hl g1 g2
  exact lv_if_ge K.1 K.2.1 hd ht (fun q => kt q p l e R s m args below meth c A Z E ad H locs lsC K G D hl g1 g2) (fun q => kf q p l e R s m args below meth c A Z E ad H locs lsC K G D hl g1 g2)
theorem r_icmp_ge {x y : Int32} {off : Int} (tgt : Nat) (hd : fet M pc = .ok (.if_icmp .ge off, 3)) (hp : pc + 3 = pc') (ht : (pc : Int) + off = (tgt : Int)) (kt : y ≤ x → wp d M Q kc ks tgt ls st h) (kf : ¬ y ≤ x → wp d M Q kc ks pc' ls st h) : wp d M Q kc ks pc ls (vI y :: vI x :: st) h := by
  subst hp
  intro p l e R s m args below meth c A Z E ad H locs lsC K G D hl g1 g2
  exact lv_icmp_ge K.1 K.2.1 hd ht (fun q => kt q p l e R s m args below meth c A Z E ad H locs lsC K G D hl g1 g2) (fun q => kf q p l e R s m args below meth c A Z E ad H locs lsC K G D hl g1 g2)
theorem r_if_gt {x : Int32} {off : Int} (tgt : Nat) (hd : fet M pc = .ok (.ifCond .gt off, 3)) (hp : pc + 3 = pc') (ht : (pc : Int) + off = (tgt : Int)) (kt : 0 < x → wp d M Q kc ks tgt ls st h) (kf : ¬ 0 < x → wp d M Q kc ks pc' ls st h) : wp d M Q kc ks pc ls (vI x :: st) h := by
  subst hp
  intro p l e R s m args below meth c A Z E ad H locs lsC K G D hl g1 g2
  exact lv_if_gt K.1 K.2.1 hd ht (fun q => kt q p l e R s m args below meth c A Z E ad H locs lsC K G D hl g1 g2) (fun q => kf q p l e R s m args below meth c A Z E ad H locs lsC K G D hl g1 g2)
theorem r_icmp_gt {x y : Int32} {off : Int} (tgt : Nat) (hd : fet M pc = .ok (.if_icmp .gt off, 3)) (hp : pc + 3 = pc') (ht : (pc : Int) + off = (tgt : Int)) (kt : y < x → wp d M Q kc ks tgt ls st h) (kf : ¬ y < x → wp d M Q kc ks pc' ls st h) : wp d M Q kc ks pc ls (vI y :: vI x :: st) h := by
  subst hp
  intro p l e R s m args below meth c A Z E ad H locs lsC K G D hl g1 g2
  exact lv_icmp_gt K.1 K.2.1 hd ht (fun q => kt q p l e R s m args below meth c A Z E ad H locs lsC K G D hl g1 g2) (fun q => kf q p l e R s m args below meth c A Z E ad H locs lsC K G D hl g1 g2)
theorem r_if_le {x : Int32} {off : Int} (tgt : Nat) (hd : fet M pc = .ok (.ifCond .le off, 3)) (hp : pc + 3 = pc') (ht : (pc : Int) + off = (tgt : Int)) (kt : x ≤ 0 → wp d M Q kc ks tgt ls st h) (kf : ¬ x ≤ 0 → wp d M Q kc ks pc' ls st h) : wp d M Q kc ks pc ls (vI x :: st) h := by
  subst hp
  intro p l e R s m args below meth c A Z E ad H locs lsC K G D hl g1 g2
  exact lv_if_le K.1 K.2.1 hd ht (fun q => kt q p l e R s m args below meth c A Z E ad H locs lsC K G D hl g1 g2) (fun q => kf q p l e R s m args below meth c A Z E ad H locs lsC K G D hl g1 g2)
theorem r_icmp_le {x y : Int32} {off : Int} (tgt : Nat) (hd : fet M pc = .ok (.if_icmp .le off, 3)) (hp : pc + 3 = pc') (ht : (pc : Int) + off = (tgt : Int)) (kt : x ≤ y → wp d M Q kc ks tgt ls st h) (kf : ¬ x ≤ y → wp d M Q kc ks pc' ls st h) : wp d M Q kc ks pc ls (vI y :: vI x :: st) h := by
  subst hp
  intro p l e R s m args below meth c A Z E ad H locs lsC K G D hl g1 g2
  exact lv_icmp_le K.1 K.2.1 hd ht (fun q => kt q p l e R s m args below meth c A Z E ad H locs lsC K G D hl g1 g2) (fun q => kf q p l e R s m args below meth c A Z E ad H locs lsC K G D hl g1 g2)
theorem r_goto {off : Int} (tgt : Nat) (hd : fet M pc = .ok (.goto off, 3)) (ht : (pc : Int) + off = (tgt : Int)) (kk : wp d M Q kc ks tgt ls st h) : wp d M Q kc ks pc ls st h := by
  intro p l e R s m args below meth c A Z E ad H locs lsC K G D hl g1 g2
  exact lv_goto K.1 K.2.1 hd ht (kk p l e R s m args below meth c A Z E ad H locs lsC K G D hl g1 g2)
theorem r_ifnull {o : Option Nat} {off : Int} (tgt : Nat) (hd : fet M pc = .ok (.ifnull off, 3)) (hp : pc + 3 = pc') (ht : (pc : Int) + off = (tgt : Int)) (kt : o = none → wp d M Q kc ks tgt ls st h) (kf : ∀ x, o = some x → wp d M Q kc ks pc' ls st h) : wp d M Q kc ks pc ls (vR o :: st) h := by
  subst hp
  intro p l e R s m args below meth c A Z E ad H locs lsC K G D hl g1 g2
  cases o with
  | none => exact lv_ifnullN K.1 K.2.1 hd ht (kt rfl p l e R s m args below meth c A Z E ad H locs lsC K G D hl g1 g2)
  | some x => exact lv_ifnull K.1 K.2.1 hd (kf x rfl p l e R s m args below meth c A Z E ad H locs lsC K G D hl g1 g2)
theorem r_ifnonnull {o : Option Nat} {off : Int} (tgt : Nat) (hd : fet M pc = .ok (.ifnonnull off, 3)) (hp : pc + 3 = pc') (ht : (pc : Int) + off = (tgt : Int)) (kt : ∀ x, o = some x → wp d M Q kc ks tgt ls st h) (kf : o = none → wp d M Q kc ks pc' ls st h) : wp d M Q kc ks pc ls (vR o :: st) h := by
  subst hp
  intro p l e R s m args below meth c A Z E ad H locs lsC K G D hl g1 g2
  cases o with
  | none => exact lv_ifnonnullN K.1 K.2.1 hd (kf rfl p l e R s m args below meth c A Z E ad H locs lsC K G D hl g1 g2)
  | some x => exact lv_ifnonnull K.1 K.2.1 hd ht (kt x rfl p l e R s m args below meth c A Z E ad H locs lsC K G D hl g1 g2)
theorem ad_inj {E : En} {A : Nat → Prop} {ad : Nat → Nat} {h : Hp} (hD : va_D A (toW E ad h)) {a b : Nat} (ha : a < hn h) (hb : b < hn h) (hab : ad a = ad b) : a = b := hD.1 a b _ _ (toW_at ha) (toW_at hb) hab
theorem r_acmpne {a b : Option Nat} {off : Int} (tgt : Nat) (hd : fet M pc = .ok (.if_acmp .ne off, 3)) (hp : pc + 3 = pc') (ht : (pc : Int) + off = (tgt : Int)) (ha : ∀ x, a = some x → x < hn h) (hb : ∀ x, b = some x → x < hn h) (kt : ¬ a = b → wp d M Q kc ks tgt ls st h) (kf : a = b → wp d M Q kc ks pc' ls st h) : wp d M Q kc ks pc ls (vR b :: vR a :: st) h := by
  subst hp
  intro p l e R s m args below meth c A Z E ad H locs lsC K G D hl g1 g2
  have hinj : a.map ad = b.map ad → a = b := by
    intro q
    cases a with
    | none => cases b with
      | none => rfl
      | some y => cases q
    | some x => cases b with
      | none => cases q
      | some y => exact congrArg some (ad_inj D.2.1 (ha x rfl) (hb y rfl) (Option.some.inj q))
  exact lv_acmp_ne (rx := a.map ad) (ry := b.map ad) K.1 K.2.1 hd ht (fun q => kt (fun w => q (by rw [w])) p l e R s m args below meth c A Z E ad H locs lsC K G D hl g1 g2) (fun q => kf (hinj q) p l e R s m args below meth c A Z E ad H locs lsC K G D hl g1 g2)
theorem r_tableOut {dflt lo hi0 : Int} {offs : Array Int} {len : Nat} {x : Int32} (tgt : Nat) (hd : fet M pc = .ok (.tableswitch dflt lo hi0 offs, len)) (hx : x.toInt < lo ∨ hi0 < x.toInt) (ht : (pc : Int) + dflt = (tgt : Int)) (kk : wp d M Q kc ks tgt ls st h) : wp d M Q kc ks pc ls (vI x :: st) h := by
  intro p l e R s m args below meth c A Z E ad H locs lsC K G D hl g1 g2
  exact lv_tableOut K.1 K.2.1 hd hx ht (kk p l e R s m args below meth c A Z E ad H locs lsC K G D hl g1 g2)
theorem r_tableIn {dflt lo hi0 : Int} {offs : Array Int} {len : Nat} {x : Int32} {off : Int} (tgt : Nat) (hd : fet M pc = .ok (.tableswitch dflt lo hi0 offs, len)) (h1 : ¬ x.toInt < lo) (h2 : ¬ hi0 < x.toInt) (ho : offs[(x.toInt - lo).toNat]? = some off) (ht : (pc : Int) + off = (tgt : Int)) (kk : wp d M Q kc ks tgt ls st h) : wp d M Q kc ks pc ls (vI x :: st) h := by
  intro p l e R s m args below meth c A Z E ad H locs lsC K G D hl g1 g2
  exact lv_tableIn K.1 K.2.1 hd h1 h2 ho ht (kk p l e R s m args below meth c A Z E ad H locs lsC K G D hl g1 g2)
theorem r_lookup {dflt : Int} {ps : Array (Int × Int)} {len : Nat} {x : Int32} {off : Int} (tgt : Nat) (hd : fet M pc = .ok (.lookupswitch dflt ps, len)) (hp : (ps.toList.zip (ps.toList.drop 1)).all (fun (a, next) => a.1 < next.1) = true) (ho : Op.lookupswitch.offset ps.toList dflt x.toInt = off) (ht : (pc : Int) + off = (tgt : Int)) (kk : wp d M Q kc ks tgt ls st h) : wp d M Q kc ks pc ls (vI x :: st) h := by
  intro p l e R s m args below meth c A Z E ad H locs lsC K G D hl g1 g2
  exact lv_lookup K.1 K.2.1 hd hp ho ht (kk p l e R s m args below meth c A Z E ad H locs lsC K G D hl g1 g2)
theorem r_iret {x : Int32} {t : FieldType} (hd : fet M pc = .ok (.ireturn, 1)) (hr0 : rt M = some t) (hn0 : narrow t (.int x) = .int x) (kk : Q (some (vI x)) h) : wp d M Q kc ks pc ls [vI x] h := by
  intro p l e R s m args below meth c A Z E ad H locs lsC K G D hl g1 g2
  exact G ad (some (vI x)) h H locs kc ks pc lsC (fun _ _ => rfl) (Nat.le_refl _) (fun _ => ⟨rfl, rfl⟩) kk D g1 g2 ⟨hd, t, hr0, hn0⟩
theorem r_aret {o : Option Nat} {t : FieldType} (hd : fet M pc = .ok (.areturn, 1)) (hr0 : rt M = some t) (ht : (∃ n, t = .object n) ∨ ∃ u, t = .array u) (kk : Q (some (vR o)) h) : wp d M Q kc ks pc ls [vR o] h := by
  intro p l e R s m args below meth c A Z E ad H locs lsC K G D hl g1 g2
  exact G ad (some (vR o)) h H locs kc ks pc lsC (fun _ _ => rfl) (Nat.le_refl _) (fun _ => ⟨rfl, rfl⟩) kk D g1 g2 ⟨hd, t, hr0, ht⟩
theorem r_ret (hd : fet M pc = .ok (.return_, 1)) (hr0 : rt M = none) (kk : Q none h) : wp d M Q kc ks pc ls [] h := by
  intro p l e R s m args below meth c A Z E ad H locs lsC K G D hl g1 g2
  exact G ad none h H locs kc ks pc lsC (fun _ _ => rfl) (Nat.le_refl _) (fun _ => ⟨rfl, rfl⟩) kk D g1 g2 ⟨hd, hr0⟩
def SiteF (o : String) (idx ci k : Nat) (b : Bool) : Prop := (FK ci)[k]? = some b ∧ ∃ q : vw_C, classes[ci]? = some q ∧ k < q.2.2 ∧ (∀ w ∈ u_ws q.1 q.2.1 q.2.2, w ∈ TBL) ∧ Cond.fieldLink o idx (q.2.1 k).1 (q.2.1 k).2.1 (q.2.1 k).2.2.1 ∈ TBL
def ClsOK (q : vw_C) : Prop := (∃ ty : Nat → FieldType, ∀ k, k < q.2.2 → parseFieldDescriptor (q.2.1 k).2.2.1 = some (ty k)) ∧ ∀ a, a < q.2.2 → ∀ b, b < q.2.2 → a ≠ b → (q.2.1 a).2.1 ≠ (q.2.1 b).2.1
def SiteP (o : String) (idx ci k : Nat) (b : Bool) (ty : FieldType) (fin : Bool) : Prop := (FK ci)[k]? = some b ∧ ∃ q : vw_C, classes[ci]? = some q ∧ k < q.2.2 ∧ (∀ w ∈ u_ws q.1 q.2.1 q.2.2, w ∈ TBL) ∧ Cond.fieldLink o idx (q.2.1 k).1 (q.2.1 k).2.1 (q.2.1 k).2.2.1 ∈ TBL ∧ ClsOK q ∧ parseFieldDescriptor (q.2.1 k).2.2.1 = some ty ∧ ((fin = false ∧ (q.2.1 k).2.2.2 = false) ∨ fin = true ∧ (q.2.1 k).2.2.2 = true ∧ (q.2.1 k).1 = o)
theorem cell_obj {E : En} {ad : Nat → Nat} {h : Hp} {o ci : Nat} (hsh : SH o = (0, ci)) : cell E ad h o = .inr (ci, fv ad (hi h o) (hr h o) 0 (FK ci)) := by
  unfold cell; rw [hsh]; rfl
theorem cell_int {E : En} {ad : Nat → Nat} {h : Hp} {o n : Nat} (hsh : SH o = (1, n)) : cell E ad h o = .inl (E.2.1, n, .inl (hi h o)) := by
  unfold cell; rw [hsh]; rfl
theorem cell_bool {E : En} {ad : Nat → Nat} {h : Hp} {o n : Nat} (hsh : SH o = (2, n)) : cell E ad h o = .inl (E.2.2.1, n, .inl (hi h o)) := by
  unfold cell; rw [hsh]; rfl
theorem cell_kinds {E : En} {ad : Nat → Nat} {h : Hp} {o n : Nat} (hsh : SH o = (3, n)) : cell E ad h o = .inl (E.2.2.2.1, n, .inr (.inr (.inr (.inr (rrow (hr h o) ad))))) := by
  unfold cell; rw [hsh]; rfl
theorem cell_things {E : En} {ad : Nat → Nat} {h : Hp} {o n : Nat} (hsh : SH o = (4, n)) : cell E ad h o = .inl (E.2.2.2.2, n, .inr (.inr (.inr (.inr (rrow (hr h o) ad))))) := by
  unfold cell; rw [hsh]; rfl
theorem r_getI {o ci k idx : Nat} (hd : fet M pc = .ok (.getfield idx, 3)) (hp : pc + 3 = pc') {on : String} (hon : own M = on) (hs : SiteF on idx ci k true) (hsh : SH o = (0, ci)) (ho : o < hn h) (kk : wp d M Q kc ks pc' ls (vI (hi h o k) :: st) h) : wp d M Q kc ks pc ls (vR (some o) :: st) h := by
  subst hp
  intro p l e R s m args below meth c A Z E ad H locs lsC K G D hl g1 g2
  subst hon
  obtain ⟨hb, q, q1, q2, q3, q4⟩ := hs
  have hv := fv_get (ad := ad) (f := hi h o) (g := hr h o) (FK ci) 0 k _ hb
  rw [Nat.zero_add] at hv
  exact va_get (D := E.1) (T := q.2.1) (a := ad o) K.1 K.2.1 K.2.2.2.2.1 q3 K.2.2.2.1 K.2.2.2.2.2.1 D.1 o (by rw [toW_at ho, cell_obj hsh]) q1 k q2 (K.2.2.2.2.1 _ q4) (fun _ w => w) hv hd (kk p l e R s m args below meth c A Z E ad H locs lsC K G D hl g1 g2)
theorem r_getR {o ci k idx : Nat} (hd : fet M pc = .ok (.getfield idx, 3)) (hp : pc + 3 = pc') {on : String} (hon : own M = on) (hs : SiteF on idx ci k false) (hsh : SH o = (0, ci)) (ho : o < hn h) (kk : wp d M Q kc ks pc' ls (vR (hr h o k) :: st) h) : wp d M Q kc ks pc ls (vR (some o) :: st) h := by
  subst hp
  intro p l e R s m args below meth c A Z E ad H locs lsC K G D hl g1 g2
  subst hon
  obtain ⟨hb, q, q1, q2, q3, q4⟩ := hs
  have hv := fv_get (ad := ad) (f := hi h o) (g := hr h o) (FK ci) 0 k _ hb
  rw [Nat.zero_add] at hv
  exact va_get (D := E.1) (T := q.2.1) (a := ad o) K.1 K.2.1 K.2.2.2.2.1 q3 K.2.2.2.1 K.2.2.2.2.2.1 D.1 o (by rw [toW_at ho, cell_obj hsh]) q1 k q2 (K.2.2.2.2.1 _ q4) (fun _ w => w) hv hd (kk p l e R s m args below meth c A Z E ad H locs lsC K G D hl g1 g2)
theorem r_putI {x : Int32} {o ci k idx : Nat} {ty : FieldType} (hd : fet M pc = .ok (.putfield idx, 3)) (hp : pc + 3 = pc') {on : String} {fin : Bool} (hon : own M = on) (hs : SiteP on idx ci k true ty fin) (hsh : SH o = (0, ci)) (hfin : fin = true → (ym M).name = "<init>") (hty : ty = .int ∨ ty = .boolean ∧ (x = 0 ∨ x = 1)) (ho : o < hn h) (kk : wp d M Q kc ks pc' ls st (seti h o k x)) : wp d M Q kc ks pc ls (vI x :: vR (some o) :: st) h := by
  subst hp
  intro p l e R s m args below meth c A Z E ad H locs lsC K G D hl g1 g2
  subst hon
  obtain ⟨hb, q, q1, q2, q3, q4, ⟨⟨ty0, q5⟩, q6⟩, q7, q8⟩ := hs
  have hv := fv_setI (ad := ad) (f := hi h o) (g := hr h o) (v := x) (FK ci) 0 k hb
  rw [Nat.zero_add] at hv
  have hnar : narrow ty (.int x) = .int x ∧ fits ty (.int x) = true := by
    rcases hty with rfl | ⟨rfl, rfl | rfl⟩
    · exact ⟨vp_nar_int x, rfl⟩
    · exact ⟨rfl, rfl⟩
    · exact ⟨rfl, rfl⟩
  have hset : (toW E ad h).set o (ad o, .inr (ci, (fv ad (hi h o) (hr h o) 0 (FK ci)).set k (.int x))) = toW E ad (seti h o k x) := by
    refine toW_set rfl ?_ (fun a ha => hi_seti_ne h o k x a ha) (fun a _ => by rw [hr_seti])
    rw [cell_obj hsh, hv, hi_seti_row, hr_seti]
  have hlen : k < (fv ad (hi h o) (hr h o) 0 (FK ci)).length := by rw [fv_len]; exact (List.getElem?_eq_some_iff.mp hb).1
  rcases q8 with w | w
  · refine va_put (D := E.1) (T := q.2.1) (a := ad o) (v := .int x) K.1 K.2.1 K.2.2.2.2.1 q3 ty0 q5 q6 K.2.2.2.1 K.2.2.2.2.2.1 D.1 D.2.1 D.2.2 o (by rw [toW_at ho, cell_obj hsh]) q1 k q2 (K.2.2.2.2.1 _ q4) (fun _ w => w) w.2 q7 hnar.1 hnar.2 hlen hd (fun H1 locs1 e1 e2 e3 => ?_)
    rw [hset] at e1 e2
    exact kk p l e R s m args below meth c A Z E ad H1 locs1 lsC K G ⟨e1, e2, e3⟩ hl g1 g2
  · refine va_putF (D := E.1) (T := q.2.1) (a := ad o) (v := .int x) K.1 K.2.1 K.2.2.2.2.1 q3 ty0 q5 q6 K.2.2.2.1 K.2.2.2.2.2.1 D.1 D.2.1 D.2.2 o (by rw [toW_at ho, cell_obj hsh]) q1 k q2 (K.2.2.2.2.1 _ q4) (fun _ w => w) w.2.1 (K.2.2.2.2.2.2.2.2.2.2.2.2.trans (hfin w.1)) w.2.2 q7 hnar.1 hnar.2 hlen hd (fun H1 locs1 e1 e2 e3 => ?_)
    rw [hset] at e1 e2
    exact kk p l e R s m args below meth c A Z E ad H1 locs1 lsC K G ⟨e1, e2, e3⟩ hl g1 g2
theorem r_putR {x : Option Nat} {o ci k idx : Nat} {ty : FieldType} (hd : fet M pc = .ok (.putfield idx, 3)) (hp : pc + 3 = pc') {on : String} {fin : Bool} (hon : own M = on) (hs : SiteP on idx ci k false ty fin) (hsh : SH o = (0, ci)) (hfin : fin = true → (ym M).name = "<init>") (hty : (∃ n, ty = .object n) ∨ ∃ u, ty = .array u) (ho : o < hn h) (kk : wp d M Q kc ks pc' ls st (setr h o k x)) : wp d M Q kc ks pc ls (vR x :: vR (some o) :: st) h := by
  subst hp
  intro p l e R s m args below meth c A Z E ad H locs lsC K G D hl g1 g2
  subst hon
  obtain ⟨hb, q, q1, q2, q3, q4, ⟨⟨ty0, q5⟩, q6⟩, q7, q8⟩ := hs
  have hv := fv_setR (ad := ad) (f := hi h o) (g := hr h o) (v := x) (FK ci) 0 k hb
  rw [Nat.zero_add] at hv
  have hnar : narrow ty (va_rf (x.map ad)) = va_rf (x.map ad) ∧ fits ty (va_rf (x.map ad)) = true := by
    rcases hty with ⟨n, rfl⟩ | ⟨n, rfl⟩ <;> cases x <;> exact ⟨rfl, rfl⟩
  have hset : (toW E ad h).set o (ad o, .inr (ci, (fv ad (hi h o) (hr h o) 0 (FK ci)).set k (va_rf (x.map ad)))) = toW E ad (setr h o k x) := by
    refine toW_set rfl ?_ (fun a _ => by rw [hi_setr]) (fun a ha => hr_setr_ne h o k x a ha)
    rw [cell_obj hsh, hv, hr_setr_row, hi_setr]
  have hlen : k < (fv ad (hi h o) (hr h o) 0 (FK ci)).length := by rw [fv_len]; exact (List.getElem?_eq_some_iff.mp hb).1
  rcases q8 with w | w
  · refine va_put (D := E.1) (T := q.2.1) (a := ad o) (v := va_rf (x.map ad)) K.1 K.2.1 K.2.2.2.2.1 q3 ty0 q5 q6 K.2.2.2.1 K.2.2.2.2.2.1 D.1 D.2.1 D.2.2 o (by rw [toW_at ho, cell_obj hsh]) q1 k q2 (K.2.2.2.2.1 _ q4) (fun _ w => w) w.2 q7 hnar.1 hnar.2 hlen hd (fun H1 locs1 e1 e2 e3 => ?_)
    rw [hset] at e1 e2
    exact kk p l e R s m args below meth c A Z E ad H1 locs1 lsC K G ⟨e1, e2, e3⟩ hl g1 g2
  · refine va_putF (D := E.1) (T := q.2.1) (a := ad o) (v := va_rf (x.map ad)) K.1 K.2.1 K.2.2.2.2.1 q3 ty0 q5 q6 K.2.2.2.1 K.2.2.2.2.2.1 D.1 D.2.1 D.2.2 o (by rw [toW_at ho, cell_obj hsh]) q1 k q2 (K.2.2.2.2.1 _ q4) (fun _ w => w) w.2.1 (K.2.2.2.2.2.2.2.2.2.2.2.2.trans (hfin w.1)) w.2.2 q7 hnar.1 hnar.2 hlen hd (fun H1 locs1 e1 e2 e3 => ?_)
    rw [hset] at e1 e2
    exact kk p l e R s m args below meth c A Z E ad H1 locs1 lsC K G ⟨e1, e2, e3⟩ hl g1 g2
theorem r_iald {o n : Nat} {i : Int32} (hd : fet M pc = .ok (.iaload, 1)) (hp : pc + 1 = pc') (hsh : SH o = (1, n)) (ho : o < hn h) (hin : vp_in i n) (kk : wp d M Q kc ks pc' ls (vI (hi h o i.toNatClampNeg) :: st) h) : wp d M Q kc ks pc ls (vI i :: vR (some o) :: st) h := by
  subst hp
  intro p l e R s m args below meth c A Z E ad H locs lsC K G D hl g1 g2
  exact va_iald (D := E.1) (a := ad o) K.1 K.2.1 K.2.2.2.2.2.1 D.1 o 0 (by rw [toW_at ho, cell_int hsh]) rfl hin hd (kk p l e R s m args below meth c A Z E ad H locs lsC K G D hl g1 g2)
theorem r_bald {o n : Nat} {i : Int32} (hd : fet M pc = .ok (.baload, 1)) (hp : pc + 1 = pc') (hsh : SH o = (2, n)) (ho : o < hn h) (hin : vp_in i n) (kk : wp d M Q kc ks pc' ls (vI (hi h o i.toNatClampNeg) :: st) h) : wp d M Q kc ks pc ls (vI i :: vR (some o) :: st) h := by
  subst hp
  intro p l e R s m args below meth c A Z E ad H locs lsC K G D hl g1 g2
  exact va_zald (D := E.1) (a := ad o) K.1 K.2.1 K.2.2.2.2.2.1 D.1 o 1 (by rw [toW_at ho, cell_bool hsh]) rfl hin hd (kk p l e R s m args below meth c A Z E ad H locs lsC K G D hl g1 g2)
theorem r_iast {o n : Nat} {i x : Int32} (hd : fet M pc = .ok (.iastore, 1)) (hp : pc + 1 = pc') (hsh : SH o = (1, n)) (ho : o < hn h) (hin : vp_in i n) (kk : wp d M Q kc ks pc' ls st (seti h o i.toNatClampNeg x)) : wp d M Q kc ks pc ls (vI x :: vI i :: vR (some o) :: st) h := by
  subst hp
  intro p l e R s m args below meth c A Z E ad H locs lsC K G D hl g1 g2
  have hset : (toW E ad h).set o (ad o, .inl (E.2.1, n, .inl (upd (hi h o) i.toNatClampNeg x))) = toW E ad (seti h o i.toNatClampNeg x) := by
    refine toW_set rfl ?_ (fun a ha => hi_seti_ne h o _ x a ha) (fun a _ => by rw [hr_seti])
    rw [cell_int hsh, hi_seti_row]
  refine va_iast (D := E.1) (a := ad o) K.1 K.2.1 K.2.2.2.2.2.1 D.1 D.2.1 D.2.2 o 0 (by rw [toW_at ho, cell_int hsh]) rfl hin hd (fun H1 locs1 e1 e2 e3 => ?_)
  rw [hset] at e1 e2
  exact kk p l e R s m args below meth c A Z E ad H1 locs1 lsC K G ⟨e1, e2, e3⟩ hl g1 g2
theorem r_bast {o n : Nat} {i x : Int32} (hd : fet M pc = .ok (.bastore, 1)) (hp : pc + 1 = pc') (hsh : SH o = (2, n)) (ho : o < hn h) (hin : vp_in i n) (kk : wp d M Q kc ks pc' ls st (seti h o i.toNatClampNeg (vp_nar .boolean x))) : wp d M Q kc ks pc ls (vI x :: vI i :: vR (some o) :: st) h := by
  subst hp
  intro p l e R s m args below meth c A Z E ad H locs lsC K G D hl g1 g2
  have hset : (toW E ad h).set o (ad o, .inl (E.2.2.1, n, .inl (upd (hi h o) i.toNatClampNeg (vp_nar .boolean x)))) = toW E ad (seti h o i.toNatClampNeg (vp_nar .boolean x)) := by
    refine toW_set rfl ?_ (fun a ha => hi_seti_ne h o _ _ a ha) (fun a _ => by rw [hr_seti])
    rw [cell_bool hsh, hi_seti_row]
  refine va_zast (D := E.1) (a := ad o) K.1 K.2.1 K.2.2.2.2.2.1 D.1 D.2.1 D.2.2 o 1 (by rw [toW_at ho, cell_bool hsh]) rfl hin hd (fun H1 locs1 e1 e2 e3 => ?_)
  rw [hset] at e1 e2
  exact kk p l e R s m args below meth c A Z E ad H1 locs1 lsC K G ⟨e1, e2, e3⟩ hl g1 g2
theorem r_aaldK {o n : Nat} {i : Int32} (hd : fet M pc = .ok (.aaload, 1)) (hp : pc + 1 = pc') (hsh : SH o = (3, n)) (ho : o < hn h) (hin : vp_in i n) (kk : wp d M Q kc ks pc' ls (vR (hr h o i.toNatClampNeg) :: st) h) : wp d M Q kc ks pc ls (vI i :: vR (some o) :: st) h := by
  subst hp
  intro p l e R s m args below meth c A Z E ad H locs lsC K G D hl g1 g2
  exact va_aldq (D := E.1) (a := ad o) (f := rrow (hr h o) ad) K.1 K.2.1 K.2.2.2.2.2.1 D.1 o 2 (by rw [toW_at ho, cell_kinds hsh]) rfl hin hd (kk p l e R s m args below meth c A Z E ad H locs lsC K G D hl g1 g2)
theorem r_aaldT {o n : Nat} {i : Int32} (hd : fet M pc = .ok (.aaload, 1)) (hp : pc + 1 = pc') (hsh : SH o = (4, n)) (ho : o < hn h) (hin : vp_in i n) (kk : wp d M Q kc ks pc' ls (vR (hr h o i.toNatClampNeg) :: st) h) : wp d M Q kc ks pc ls (vI i :: vR (some o) :: st) h := by
  subst hp
  intro p l e R s m args below meth c A Z E ad H locs lsC K G D hl g1 g2
  exact va_aldq (D := E.1) (a := ad o) (f := rrow (hr h o) ad) K.1 K.2.1 K.2.2.2.2.2.1 D.1 o 3 (by rw [toW_at ho, cell_things hsh]) rfl hin hd (kk p l e R s m args below meth c A Z E ad H locs lsC K G D hl g1 g2)
theorem r_alen {o n t : Nat} (hd : fet M pc = .ok (.arraylength, 1)) (hp : pc + 1 = pc') (hsh : SH o = (t, n)) (ht : 0 < t ∧ t < 5) (ho : o < hn h) (kk : wp d M Q kc ks pc' ls (vI (nI n) :: st) h) : wp d M Q kc ks pc ls (vR (some o) :: st) h := by
  subst hp
  intro p l e R s m args below meth c A Z E ad H locs lsC K G D hl g1 g2
  rcases (show t = 1 ∨ t = 2 ∨ t = 3 ∨ t = 4 by omega) with rfl | rfl | rfl | rfl
  · exact va_alen (D := E.1) (a := ad o) (x := (n, .inl (hi h o))) K.1 K.2.1 K.2.2.2.2.2.1 D.1 o 0 (by rw [toW_at ho, cell_int hsh]) rfl rfl hd (kk p l e R s m args below meth c A Z E ad H locs lsC K G D hl g1 g2)
  · exact va_alen (D := E.1) (a := ad o) (x := (n, .inl (hi h o))) K.1 K.2.1 K.2.2.2.2.2.1 D.1 o 1 (by rw [toW_at ho, cell_bool hsh]) rfl rfl hd (kk p l e R s m args below meth c A Z E ad H locs lsC K G D hl g1 g2)
  · exact va_alen (D := E.1) (a := ad o) (x := (n, .inr (.inr (.inr (.inr (rrow (hr h o) ad)))))) K.1 K.2.1 K.2.2.2.2.2.1 D.1 o 2 (by rw [toW_at ho, cell_kinds hsh]) rfl rfl hd (kk p l e R s m args below meth c A Z E ad H locs lsC K G D hl g1 g2)
  · exact va_alen (D := E.1) (a := ad o) (x := (n, .inr (.inr (.inr (.inr (rrow (hr h o) ad)))))) K.1 K.2.1 K.2.2.2.2.2.1 D.1 o 3 (by rw [toW_at ho, cell_things hsh]) rfl rfl hd (kk p l e R s m args below meth c A Z E ad H locs lsC K G D hl g1 g2)
end Rules
end
section
/-! a method's contract out of wp; calls -/
theorem spec_intro {d M : Nat} {av : List AV} {h : Hp} {Q : Option AV → Hp → Prop} (hy : plainName (own M) = true) (hnl : av.all (fun v => !isL v) = true) (hlen : av.length ≤ ml M) (hwp : wp d M Q 0 0 0 (la 0 av) [] h) : Spec d M av h Q := by
  intro l E ad sz
  refine Met.ofW (cc := bt M) (maxL := ml M) (ret := rt M) hy rfl ?_
  intro p e s m args below meth c s₁ B hml hv
  obtain ⟨rfl, hsz, ⟨hP, hK, hN⟩, hD0⟩ := hv
  have hts := atoms_spec (ws := WS M) B.pre
  have hown : s.vm.findClass (own M) = some m.cls := findClass_of_methodNamed B.named
  have hlocks := B.notSynchronized
  subst hsz
  have hD := hD0.self (sz := s.heap.size)
  have hl := lv_entry (av.map (cv ad)) (n := ml M) (by rw [la_len _ _ hnl]; exact hlen)
  rw [la_args ad av hnl 0] at hl
  rw [lg_entry_eq]
  refine hwp p l e _ s m _ below meth c (va_A (toW E ad h) s.heap.size) _ E ad s.heap [] _ ⟨B.exec, B.bytes, hml, hown, fun w hw => hts w (List.mem_cons_of_mem _ hw), hK, fun q hq => Or.inr hq, hN, Nat.le_refl _, Nat.le_refl _, Nat.le_refl _, Nat.le_refl _, (name_of_methodNamed B.named B.method).1⟩ ?_ ⟨hP, hD, va_S.rf⟩ hl (Nat.zero_le _) (Nat.zero_le _)
  intro ad' r h1 H locs kc ks pc lsC a1 a2 a3 a4 a5 a6 a7 a8
  refine W.widen a6 a7 ?_
  have hq : ∀ t : State, t.heap = H → s.WarmedH t.vm → PostC E ad h Q M s.heap.size (av.map (cv ad)).toArray s (.returned (r.map (cv ad'))) t := fun t ht hW => ⟨⟨r, h1, ad', a1, a2, a3, rfl, a4, by rw [ht]; exact a5.1, a5.2.1⟩, a5.2.2.F ht⟩
  rcases r with _ | x | x | o
  · exact W.vret B.exec B.bytes (B.returns.trans a8.2) hq a5.2.2.2.2 a8.1
  · obtain ⟨hd, t, hr0, hn0⟩ := a8
    exact W.zret B.exec B.bytes (B.returns.trans hr0) hn0 hq a5.2.2.2.2 hd
  · exact a8.elim
  · obtain ⟨hd, t, hr0, ht⟩ := a8
    exact W.aret B.exec B.bytes (B.returns.trans hr0) ht (by cases o with
      | none => exact Or.inl rfl
      | some q => exact Or.inr ⟨_, rfl⟩) hq a5.2.2.2.2 hd
theorem run_W {p : Program} {l : Launch} {e : Env} {R : Room} {s : State} {m : MethodId} {args : Array Value} {below : List Frame} {meth : Method} {c : Code} {H : Heap} {locs : List Loc} {kc ks : Nat} {Z : State → Prop} {E : En} {ad : Nat → Nat} {h : Hp} {Q : Option AV → Hp → Prop} {M' pc : Nat} {A : Nat → Prop} {lsC : Array Slot} {st0 rest : List Value} {av : Array Value}
    (hr : va_Run p l e R s m args below meth c H locs kc ks (mc M') (ms M') (F0 m pc lsC st0) rest (PostC E ad h Q M' H.size av) (va_A (toW E ad h) H.size)) (hD : va_D A (toW E ad h)) (hS : va_S A s.heap H locs) (hA : ∀ q, s.heap.size ≤ q → A q)
    (kk : ∀ (r : Option AV) (h1 : Hp) (ad' : Nat → Nat) (H1 : Heap) (locs1 : List Loc), (∀ k, k < hn h → ad' k = ad k) → hn h ≤ hn h1 → (mc M' = 0 → ad' = ad ∧ hn h1 = hn h) → Q r h1 → WD E A ad' h1 s.heap H1 locs1 → W p l e R s m args below meth c H1 locs1 (kc + mc M') (ks + ms M') Z (F0 m (pc + 3) lsC ((r.map (cv ad')).toList ++ rest))) : W p l e R s m args below meth c H locs kc ks Z (F0 m pc lsC st0) := by
  have hF : ∀ q, va_A (toW E ad h) H.size q → A q := by
    intro q hq
    rcases hq with ⟨k, e0, hk⟩ | hq
    · exact hD.2 k _ hk
    · exact hA q (Nat.le_trans hS.1 hq)
  intro T hT X
  obtain ⟨v, st₀, t, T', L, h0, X', hL, e1, e2, ⟨⟨r, h1, ad', a1, a2, a3, hv, a4, a5, a6⟩, hz, hk⟩, st⟩ := hr T hT X
  have hv := Outcome.returned.inj hv
  subst hv
  rw [h0] at hz hk
  obtain ⟨t2, b1, b2⟩ := kk r h1 ad' T'.heap (locs ++ L) a1 a2 a3 a4 ⟨by rw [e1]; exact a5, a6.weaken (fun k q _ w => hF _ w), ⟨Nat.le_trans hS.1 (by rw [e1]; exact hz), fun q h1 h2 => by rw [e1, hk q (Nat.lt_of_lt_of_le h1 hS.1) (fun z => h2 (hF q z))]; exact hS.2.1 q h1 h2, fun q hq => by
      rcases List.mem_append.mp hq with w | w
      · exact hS.2.2 q w
      · exact hF _ (hL q w)⟩⟩ T' rfl X'
  exact ⟨t2, st t2 b1, b2⟩
/-- what a call site gives: the tables' words of the call are there -/
def Site (o : String) (ins : Instr) (cr : Option Nat) (M' : Nat) : Prop :=
  ∀ (p : Program) (l : Launch) (e : Env) (R : Room) (s : State) (m : MethodId) (args : Array Value) (below : List Frame) (meth : Method) (c : Code) (H : Heap) (locs : List Loc) (kc ks : Nat) (cc : ByteArray) (nL : Nat) (Pc : Array Value → State → Prop) (Qc : Array Value → State → Outcome → State → Prop) (free : Addr → Prop) (rm : Room) (As rest : List Value) (g : JFrame) (E : En),
    CallFix p m c cc nL s args TBL o → NC s → va_K E.1 classes (tysE E) s → Met l (ym M') (WS M') rm Pc Qc (mc M') (ms M') free → rm.cells = mc M' → rm.slots = ms M' → (rm.frames + 1 ≤ R.frames ∧ 8 + (ml M' + 11) + rm.locals ≤ R.locals) → FrameBlind Pc → (∀ U : State, U.heap = H → s.WarmedH U.vm → Pc As.toArray U) →
    (∀ ci, cr = some ci → ∃ (b : Addr) (As' : List Value) (q : vw_C) (cl : Cell), As = .ref b :: As' ∧ classes[ci]? = some q ∧ H[b]? = some cl ∧ cl.vm.isStatics = false ∧ s.vm.findClass q.1 = some cl.cls) →
    As.length = na M' + (if cr.isSome then 1 else 0) → g.method = m → g.locals.size = nL → g.stack = As.reverse ++ rest → 2 * g.monitorRoom + (rest.map fun v => v.category).sum ≤ 8 → decode cc g.pc = .ok (ins, 3) → (kc + mc M' ≤ R.cells ∧ ks + ms M' ≤ R.slots) →
    va_Run p l e R s m args below meth c H locs kc ks (mc M') (ms M') g rest (Qc As.toArray) free
def rcv (cr : Option Nat) (av : List AV) (h : Hp) : Prop := ∀ ci, cr = some ci → ∃ (o : Nat) (t : List AV), av = vR (some o) :: t ∧ SH o = (0, ci) ∧ o < hn h
theorem cat_sum (ad : Nat → Nat) (st : List AV) : ((st.map (cv ad)).map fun v => v.category) = st.map wt := by
  rw [List.map_map]
  apply List.map_congr_left
  intro v _
  exact cv_cat ad v
def nxt (r : Option AV) (st : List AV) : List AV := match r with
  | none => st
  | some v => v :: st
section Calls
variable {d M : Nat} {Q : Option AV → Hp → Prop} {kc ks pc pc' : Nat} {ls ls' : List (Nat × AV)} {st st0 : List AV} {h : Hp}
/-- a call's run, out of the site and the callee's contract -/
theorem site_run {M' : Nat} {ins : Instr} {cr : Option Nat} {av : List AV} {Q' : Option AV → Hp → Prop} {p : Program} {l : Launch} {e : Env} {R : Room} {s : State} {m : MethodId} {args : Array Value} {below : List Frame} {meth : Method} {c : Code} {A : Nat → Prop} {E : En} {ad : Nat → Nat} {H : Heap} {locs : List Loc} {lsC : Array Slot}
    (K : OKX p R s m args meth c A E (d + 1) M) (D : WD E A ad h s.heap H locs) (hl : lv_has lsC (ml M) (lc ad ls))
    (hd : fet M pc = .ok (ins, 3)) {on : String} (hon : own M = on) (hs : Site on ins cr M') (hcr : rcv cr av h) (hlen : av.length = na M' + (if cr.isSome then 1 else 0)) (hml : ml M' ≤ 20) (hwt : (st.map wt).sum ≤ 8) (hst : st0 = av.reverse ++ st) (hkc : kc + mc M' ≤ mc M) (hks : ks + ms M' ≤ ms M) (kk : Spec d M' av h Q') :
    va_Run p l e R s m args below meth c H locs kc ks (mc M') (ms M') (F0 m pc lsC (st0.map (cv ad))) (st.map (cv ad)) (PostC E ad h Q' M' H.size (av.map (cv ad)).toArray) (va_A (toW E ad h) H.size) := by
  subst hon
  obtain ⟨k1, k2, k3, k4, k5, k6, k7, k8, k9, k10, k11, k12, k13⟩ := K
  refine hs p l e R s m args below meth c H locs kc ks (bt M) (ml M) (PreC E ad h av H.size) (PostC E ad h Q' M' H.size) (va_A (toW E ad h) H.size) (rmD d M') (av.map (cv ad)) (st.map (cv ad)) (F0 m pc lsC (st0.map (cv ad))) E ⟨k1, k2, k3, k4, k5⟩ k8 k6 (kk l E ad H.size) rfl rfl ⟨k9, ?_⟩ PreC.blind ?_ ?_ ?_ rfl hl.1 ?_ ?_ hd ⟨Nat.le_trans hkc k11, Nat.le_trans hks k12⟩
  · show 8 + (ml M' + 11) + 40 * d ≤ R.locals
    omega
  · intro U hU hW
    exact ⟨rfl, by rw [hU], ⟨by rw [hU]; exact D.1, va_K.moved hW.alike k6, k8.warm hW⟩, D.2.1.weaken (fun _ _ _ _ => trivial)⟩
  · intro ci hci
    obtain ⟨o, t, rfl, hsh, ho⟩ := hcr ci hci
    have he : (toW E ad h)[o]? = some (ad o, .inr (ci, fv ad (hi h o) (hr h o) 0 (FK ci))) := by rw [toW_at ho, cell_obj hsh]
    obtain ⟨q, hq, -⟩ := D.1 o _ he
    obtain ⟨cl, c1, c2, c3⟩ := va_recv k6 D.1 hq he
    exact ⟨ad o, t.map (cv ad), q, cl, rfl, hq, c1, c2, c3⟩
  · rw [List.length_map]; exact hlen
  · rw [hst, List.map_append, List.map_reverse]
  · refine lv_room ?_
    rw [cat_sum]
    exact hwt
theorem r_call {M' : Nat} {ins : Instr} {cr : Option Nat} (av st : List AV) (hd : fet M pc = .ok (ins, 3)) (hp : pc + 3 = pc') {on : String} (hon : own M = on) (hs : Site on ins cr M') (hcr : rcv cr av h) (hlen : av.length = na M' + (if cr.isSome then 1 else 0)) (hml : ml M' ≤ 20) (hm : mc M' = 0 ∧ ms M' = 0) (hwt : (st.map wt).sum ≤ 8) (hst : st0 = av.reverse ++ st)
    (kk : Spec d M' av h (fun r h1 => wp (d + 1) M Q kc ks pc' ls (nxt r st) h1)) : wp (d + 1) M Q kc ks pc ls st0 h := by
  subst hp
  intro p l e R s m args below meth c A Z E ad H locs lsC K G D hl g1 g2
  refine run_W (site_run K D hl hd hon hs hcr hlen hml hwt hst (by rw [hm.1]; exact g1) (by rw [hm.2]; exact g2) kk) D.2.1 D.2.2 K.2.2.2.2.2.2.1 ?_
  intro r h1 ad' H1 locs1 a1 a2 a3 a4 a5
  obtain ⟨e1, e2⟩ := a3 hm.1
  subst e1
  rw [hm.1, hm.2]
  have w := a4 p l e R s m args below meth c A Z E ad' H1 locs1 lsC K (by rw [e2]; exact G) a5 hl g1 g2
  cases r with
  | none => exact w
  | some v => exact w
end Calls
end
section
/-! making cells; the JDK's own; instanceof (printed by wip/whole/p07.py) -/
def okv (n : Nat) : AV → Bool
  | .inr (.inr (some k)) => decide (k < n)
  | _ => true
def Val (h : Hp) : Prop := ∀ k j x, k < hn h → hr h k j = some x → x < hn h
def ext1 (ad : Nat → Nat) (n a : Nat) : Nat → Nat := fun k => if k = n then a else ad k
theorem ext1_lt {ad : Nat → Nat} {n a k : Nat} (hk : k < n) : ext1 ad n a k = ad k := by
  have hne : k ≠ n := by omega
  simp [ext1, hne]
theorem ext1_at {ad : Nat → Nat} {n a : Nat} : ext1 ad n a n = a := by simp [ext1]
theorem cv_ok {n : Nat} {ad ad' : Nat → Nat} {v : AV} (hv : okv n v = true) (ha : ∀ k, k < n → ad' k = ad k) : cv ad' v = cv ad v := by
  rcases v with x | x | o
  · rfl
  · rfl
  · cases o with
    | none => rfl
    | some k =>
      have hk : k < n := by simpa [okv] using hv
      simp [cv, ha k hk]
theorem lc_ok {n : Nat} {ad ad' : Nat → Nat} {ls : List (Nat × AV)} (hv : ls.all (fun q => okv n q.2) = true) (ha : ∀ k, k < n → ad' k = ad k) : lc ad' ls = lc ad ls := by
  unfold lc
  apply List.map_congr_left
  intro q hq
  rw [cv_ok (List.all_eq_true.mp hv q hq) ha]
theorem st_ok {n : Nat} {ad ad' : Nat → Nat} {st : List AV} (hv : st.all (okv n) = true) (ha : ∀ k, k < n → ad' k = ad k) : st.map (cv ad') = st.map (cv ad) := by
  apply List.map_congr_left
  intro q hq
  exact cv_ok (List.all_eq_true.mp hv q hq) ha
theorem fv_ad {ad ad' : Nat → Nat} {f : Nat → Int32} {g : Nat → Option Nat} (hv : ∀ j x, g j = some x → ad' x = ad x) : ∀ (l : List Bool) (j : Nat), fv ad' f g j l = fv ad f g j l := by
  intro l
  induction l with
  | nil => intro j; rfl
  | cons b t ih =>
    intro j
    cases b with
    | true => simp [fv, ih]
    | false =>
      have e : (g j).map ad' = (g j).map ad := by
        cases hg : g j with
        | none => rfl
        | some x => simp [hv j x hg]
      simp [fv, ih, e]
theorem rrow_ad {ad ad' : Nat → Nat} {g : Nat → Option Nat} (hv : ∀ j x, g j = some x → ad' x = ad x) : rrow g ad' = rrow g ad := by
  funext j
  unfold rrow
  cases hg : g j with
  | none => rfl
  | some x => simp [hv j x hg]
theorem cell_ad {E : En} {ad ad' : Nat → Nat} {h h' : Hp} {k : Nat} (h1 : hi h' k = hi h k) (h2 : hr h' k = hr h k) (hv : ∀ j x, hr h k j = some x → ad' x = ad x) : cell E ad' h' k = cell E ad h k := by
  unfold cell
  rw [h1, h2, rrow_ad hv]
  split <;> first | rfl | rw [fv_ad hv]
theorem hi_grow_lt {h : Hp} {k : Nat} (hk : k < hn h) : hi (grow h) k = hi h k := by
  have hne : k ≠ h.1 := Nat.ne_of_lt hk
  simp [hi, grow, hne]
theorem hr_grow_lt {h : Hp} {k : Nat} (hk : k < hn h) : hr (grow h) k = hr h k := by
  have hne : k ≠ h.1 := Nat.ne_of_lt hk
  simp [hr, grow, hne]
theorem hi_grow_at {h : Hp} : hi (grow h) (hn h) = fun _ => 0 := by simp [hi, grow, hn]
theorem hr_grow_at {h : Hp} : hr (grow h) (hn h) = fun _ => none := by simp [hr, grow, hn]
theorem toW_grow {E : En} {ad ad' : Nat → Nat} {h : Hp} (hv : Val h) (ha : ∀ k, k < hn h → ad' k = ad k) : toW E ad' (grow h) = toW E ad h ++ [(ad' (hn h), cell E ad' (grow h) (hn h))] := by
  show (List.range (hn h + 1)).map _ = _
  rw [List.range_succ, List.map_append]
  congr 1
  unfold toW
  apply List.map_congr_left
  intro k hk
  have hk : k < hn h := List.mem_range.mp hk
  rw [ha k hk, cell_ad (hi_grow_lt hk) (hr_grow_lt hk) (fun j x hx => ha x (hv k j x hk hx))]
theorem Val.grow {h : Hp} (hv : Val h) : Val (grow h) := by
  intro k j x hk hx
  by_cases hlt : k < hn h
  · rw [hr_grow_lt hlt] at hx
    exact Nat.lt_succ_of_lt (hv k j x hlt hx)
  · have : k = hn h := by
      have : k < hn h + 1 := hk
      omega
    subst this
    rw [hr_grow_at] at hx
    cases hx
theorem Val.seti {h : Hp} (hv : Val h) (k j : Nat) (x : Int32) : Val (seti h k j x) := hv
theorem Val.setr {h : Hp} (hv : Val h) (k j : Nat) (x : Nat) (hx : x < hn h) : Val (setr h k j (some x)) := by
  intro a b y ha hy
  rw [hr_setr] at hy
  split at hy
  · cases hy; exact hx
  · exact hv a b y ha hy
theorem RT_ext {p : Program} {l : Launch} {e : Env} {R : Room} {s : State} {m : MethodId} {args : Array Value} {below : List Frame} {meth : Method} {c : Code} {A : Nat → Prop} {Z : State → Prop} {E : En} {ad ad1 : Nat → Nat} {n n1 M : Nat} {Q : Option AV → Hp → Prop} (G : RT p l e R s m args below meth c A Z E ad n M Q) (hm : mc M ≠ 0) (ha : ∀ k, k < n → ad1 k = ad k) (hn1 : n ≤ n1) : RT p l e R s m args below meth c A Z E ad1 n1 M Q := by
  intro ad' r h1 H locs kc ks pc lsC a1 a2 a3 a4 a5 a6 a7 a8
  exact G ad' r h1 H locs kc ks pc lsC (fun k hk => (a1 k (Nat.lt_of_lt_of_le hk hn1)).trans (ha k hk)) (Nat.le_trans hn1 a2) (fun z => absurd z hm) a4 a5 a6 a7 a8
theorem ra_eq {U : State} {cA cB : ClassId} {ty : FieldType} (h1 : va_RA U cA ty) (h2 : va_RA U cB ty) : cA = cB := by
  cases ty with
  | object C =>
    obtain ⟨_, _, _, _, _, f1⟩ := h1
    obtain ⟨_, _, _, _, _, f2⟩ := h2
    exact Option.some.inj (f1.symm.trans f2)
  | _ => exact Option.some.inj (Eq.trans (Eq.symm h1) h2)
def SiteN (o : String) (idx ci N : Nat) : Prop := ∃ q : vw_C, classes[ci]? = some q ∧ q.2.2 = N ∧ (∀ w ∈ u_ws q.1 q.2.1 q.2.2, w ∈ TBL) ∧ Cond.classLink o idx q.1 ∈ TBL ∧ Cond.instantiable q.1 N ∈ TBL ∧ Cond.initialized q.1 ∈ TBL ∧ ∃ ty : Nat → FieldType, (∀ k, k < N → parseFieldDescriptor (q.2.1 k).2.2.1 = some (ty k)) ∧ ∀ j, j < N → defaultValue (ty j) = vp_V (fv id (fun _ => 0) (fun _ => none) 0 (FK ci)) j
section Making
variable {d M : Nat} {Q : Option AV → Hp → Prop} {kc ks pc pc' : Nat} {ls ls' : List (Nat × AV)} {st st0 : List AV} {h : Hp}
theorem r_new {idx ci N : Nat} (hd : fet M pc = .ok (.new idx, 3)) (hp : pc + 3 = pc') {on : String} (hon : own M = on) (hs : SiteN on idx ci N) (hsh : SH (hn h) = (0, ci)) (hv : Val h) (hls : ls.all (fun q => okv (hn h) q.2) = true) (hst : st.all (okv (hn h)) = true) (hkc : kc + 1 ≤ mc M) (hks : ks + N ≤ ms M) (kk : wp d M Q (kc + 1) (ks + N) pc' ls (vR (some (hn h)) :: st) (grow h)) : wp d M Q kc ks pc ls st h := by
  subst hp
  intro p l e R s m args below meth c A Z E ad H locs lsC K G D hl g1 g2
  subst hon
  obtain ⟨q, q1, q2, q3, q4, q5, q6, ty, q7, q8⟩ := hs
  subst q2
  obtain ⟨k1, k2, k3, k4, k5, k6, k7, k8, k9, k10, k11, k12, k13⟩ := id K
  refine va_new (D := E.1) (T := q.2.1) (ci := ci) (fs := fv id (fun _ => 0) (fun _ => none) 0 (FK ci)) k1 k2 k5 q3 ty q7 k4 (k5 _ q4) (k5 _ q5) (k5 _ q6) k6 D.1 D.2.1 D.2.2 k7 q1 q8 (Nat.le_trans hkc k11) (Nat.le_trans hks k12) hd (fun a H1 e1 e2 e3 => ?_)
  have hag : ∀ k, k < hn h → ext1 ad (hn h) a k = ad k := fun k hk => ext1_lt hk
  have hw : toW E (ext1 ad (hn h) a) (grow h) = toW E ad h ++ [(a, .inr (ci, fv id (fun _ => 0) (fun _ => none) 0 (FK ci)))] := by
    rw [toW_grow hv hag, ext1_at, cell_obj hsh, hi_grow_at, hr_grow_at, fv_ad (ad := id) (fun j x hx => by cases hx)]
  have w := kk p l e R s m args below meth c A Z E (ext1 ad (hn h) a) H1 locs lsC K (RT_ext G (by omega) hag (Nat.le_succ _)) ⟨by rw [hw]; exact e1, by rw [hw]; exact e2, e3⟩ (by rw [lc_ok hls hag]; exact hl) hkc hks
  rw [List.map_cons, st_ok hst hag, show cv (ext1 ad (hn h) a) (vR (some (hn h))) = .ref a by simp [cv, va_rf, ext1_at]] at w
  exact w
theorem r_newI {n : Int32} {N : Nat} (hd : fet M pc = .ok (.newarray .int, 2)) (hp : pc + 2 = pc') (hs : Cond.arrayClass .int ∈ TBL) (hsh : SH (hn h) = (1, N)) (hn0 : ¬ n < 0) (hN : n.toNatClampNeg = N) (hby : N ≤ 10000) (hv : Val h) (hls : ls.all (fun q => okv (hn h) q.2) = true) (hst : st.all (okv (hn h)) = true) (hkc : kc + 1 ≤ mc M) (hks : ks + N ≤ ms M) (kk : wp d M Q (kc + 1) (ks + N) pc' ls (vR (some (hn h)) :: st) (grow h)) : wp d M Q kc ks pc ls (vI n :: st) h := by
  subst hp
  intro p l e R s m args below meth c A Z E ad H locs lsC K G D hl g1 g2
  obtain ⟨k1, k2, k3, k4, k5, k6, k7, k8, k9, k10, k11, k12, k13⟩ := id K
  refine va_newa (D := E.1) (atype := .int) (a0 := (N, .inl (fun _ => 0))) (ty := .int) k1 k2 (k5 _ hs) rfl k6 D.1 D.2.1 D.2.2 k7 (fun _ => rfl) hn0 hN (by show N * 4 ≤ 536870912; omega) (Nat.le_trans hkc k11) (Nat.le_trans hks k12) hd (fun a cA H1 e0 e1 e2 e3 => ?_)
  have hcA : cA = E.2.1 := ra_eq (e0.2 4 (cA, .int) rfl).2 (k6.2 0 (E.2.1, .int) rfl).2
  subst hcA
  have hag : ∀ k, k < hn h → ext1 ad (hn h) a k = ad k := fun k hk => ext1_lt hk
  have hw : toW E (ext1 ad (hn h) a) (grow h) = toW E ad h ++ [(a, .inl (E.2.1, N, .inl (fun _ => 0)))] := by
    rw [toW_grow hv hag, ext1_at, cell_int hsh, hi_grow_at]
  have w := kk p l e R s m args below meth c A Z E (ext1 ad (hn h) a) H1 locs lsC K (RT_ext G (by omega) hag (Nat.le_succ _)) ⟨by rw [hw]; exact e1, by rw [hw]; exact e2, e3⟩ (by rw [lc_ok hls hag]; exact hl) hkc hks
  rw [List.map_cons, st_ok hst hag, show cv (ext1 ad (hn h) a) (vR (some (hn h))) = .ref a by simp [cv, va_rf, ext1_at]] at w
  exact w
theorem r_newZ {n : Int32} {N : Nat} (hd : fet M pc = .ok (.newarray .boolean, 2)) (hp : pc + 2 = pc') (hs : Cond.arrayClass .boolean ∈ TBL) (hsh : SH (hn h) = (2, N)) (hn0 : ¬ n < 0) (hN : n.toNatClampNeg = N) (hby : N ≤ 10000) (hv : Val h) (hls : ls.all (fun q => okv (hn h) q.2) = true) (hst : st.all (okv (hn h)) = true) (hkc : kc + 1 ≤ mc M) (hks : ks + N ≤ ms M) (kk : wp d M Q (kc + 1) (ks + N) pc' ls (vR (some (hn h)) :: st) (grow h)) : wp d M Q kc ks pc ls (vI n :: st) h := by
  subst hp
  intro p l e R s m args below meth c A Z E ad H locs lsC K G D hl g1 g2
  obtain ⟨k1, k2, k3, k4, k5, k6, k7, k8, k9, k10, k11, k12, k13⟩ := id K
  refine va_newa (D := E.1) (atype := .boolean) (a0 := (N, .inl (fun _ => 0))) (ty := .boolean) k1 k2 (k5 _ hs) rfl k6 D.1 D.2.1 D.2.2 k7 (fun _ => rfl) hn0 hN (by show N * 1 ≤ 536870912; omega) (Nat.le_trans hkc k11) (Nat.le_trans hks k12) hd (fun a cA H1 e0 e1 e2 e3 => ?_)
  have hcA : cA = E.2.2.1 := ra_eq (e0.2 4 (cA, .boolean) rfl).2 (k6.2 1 (E.2.2.1, .boolean) rfl).2
  subst hcA
  have hag : ∀ k, k < hn h → ext1 ad (hn h) a k = ad k := fun k hk => ext1_lt hk
  have hw : toW E (ext1 ad (hn h) a) (grow h) = toW E ad h ++ [(a, .inl (E.2.2.1, N, .inl (fun _ => 0)))] := by
    rw [toW_grow hv hag, ext1_at, cell_bool hsh, hi_grow_at]
  have w := kk p l e R s m args below meth c A Z E (ext1 ad (hn h) a) H1 locs lsC K (RT_ext G (by omega) hag (Nat.le_succ _)) ⟨by rw [hw]; exact e1, by rw [hw]; exact e2, e3⟩ (by rw [lc_ok hls hag]; exact hl) hkc hks
  rw [List.map_cons, st_ok hst hag, show cv (ext1 ad (hn h) a) (vR (some (hn h))) = .ref a by simp [cv, va_rf, ext1_at]] at w
  exact w
theorem r_newK {n : Int32} {N idx : Nat} (hd : fet M pc = .ok (.anewarray idx, 3)) (hp : pc + 3 = pc') {on : String} (hon : own M = on) (hs : Cond.classLink on idx RX3 ∈ TBL) (hov : RX3 ∈ overL) (hsh : SH (hn h) = (3, N)) (hn0 : ¬ n < 0) (hN : n.toNatClampNeg = N) (hby : N ≤ 10000) (hv : Val h) (hls : ls.all (fun q => okv (hn h) q.2) = true) (hst : st.all (okv (hn h)) = true) (hkc : kc + 1 ≤ mc M) (hks : ks + N ≤ ms M) (kk : wp d M Q (kc + 1) (ks + N) pc' ls (vR (some (hn h)) :: st) (grow h)) : wp d M Q kc ks pc ls (vI n :: st) h := by
  subst hp
  subst hon
  intro p l e R s m args below meth c A Z E ad H locs lsC K G D hl g1 g2
  obtain ⟨k1, k2, k3, k4, k5, k6, k7, k8, k9, k10, k11, k12, k13⟩ := id K
  refine va_newq (D := E.1) (C := RX3) k1 k2 k4 (k5 _ hs) (k8.2.2.2 _ hov) k6 D.1 D.2.1 D.2.2 k7 hn0 hN (by omega) (Nat.le_trans hkc k11) (Nat.le_trans hks k12) hd (fun a cA H1 e0 e1 e2 e3 => ?_)
  have hcA : cA = E.2.2.2.1 := ra_eq (e0.2 4 (cA, .object RX3) rfl).2 (k6.2 2 (E.2.2.2.1, .object RX3) rfl).2
  subst hcA
  have hag : ∀ k, k < hn h → ext1 ad (hn h) a k = ad k := fun k hk => ext1_lt hk
  have hw : toW E (ext1 ad (hn h) a) (grow h) = toW E ad h ++ [(a, .inl (E.2.2.2.1, N, .inr (.inr (.inr (.inr (fun _ => none))))))] := by
    rw [toW_grow hv hag, ext1_at, cell_kinds hsh, hr_grow_at]
    rfl
  have w := kk p l e R s m args below meth c A Z E (ext1 ad (hn h) a) H1 locs lsC K (RT_ext G (by omega) hag (Nat.le_succ _)) ⟨by rw [hw]; exact e1, by rw [hw]; exact e2, e3⟩ (by rw [lc_ok hls hag]; exact hl) hkc hks
  rw [List.map_cons, st_ok hst hag, show cv (ext1 ad (hn h) a) (vR (some (hn h))) = .ref a by simp [cv, va_rf, ext1_at]] at w
  exact w
theorem r_newT {n : Int32} {N idx : Nat} (hd : fet M pc = .ok (.anewarray idx, 3)) (hp : pc + 3 = pc') {on : String} (hon : own M = on) (hs : Cond.classLink on idx RX8 ∈ TBL) (hov : RX8 ∈ overL) (hsh : SH (hn h) = (4, N)) (hn0 : ¬ n < 0) (hN : n.toNatClampNeg = N) (hby : N ≤ 10000) (hv : Val h) (hls : ls.all (fun q => okv (hn h) q.2) = true) (hst : st.all (okv (hn h)) = true) (hkc : kc + 1 ≤ mc M) (hks : ks + N ≤ ms M) (kk : wp d M Q (kc + 1) (ks + N) pc' ls (vR (some (hn h)) :: st) (grow h)) : wp d M Q kc ks pc ls (vI n :: st) h := by
  subst hp
  subst hon
  intro p l e R s m args below meth c A Z E ad H locs lsC K G D hl g1 g2
  obtain ⟨k1, k2, k3, k4, k5, k6, k7, k8, k9, k10, k11, k12, k13⟩ := id K
  refine va_newq (D := E.1) (C := RX8) k1 k2 k4 (k5 _ hs) (k8.2.2.2 _ hov) k6 D.1 D.2.1 D.2.2 k7 hn0 hN (by omega) (Nat.le_trans hkc k11) (Nat.le_trans hks k12) hd (fun a cA H1 e0 e1 e2 e3 => ?_)
  have hcA : cA = E.2.2.2.2 := ra_eq (e0.2 4 (cA, .object RX8) rfl).2 (k6.2 3 (E.2.2.2.2, .object RX8) rfl).2
  subst hcA
  have hag : ∀ k, k < hn h → ext1 ad (hn h) a k = ad k := fun k hk => ext1_lt hk
  have hw : toW E (ext1 ad (hn h) a) (grow h) = toW E ad h ++ [(a, .inl (E.2.2.2.2, N, .inr (.inr (.inr (.inr (fun _ => none))))))] := by
    rw [toW_grow hv hag, ext1_at, cell_things hsh, hr_grow_at]
    rfl
  have w := kk p l e R s m args below meth c A Z E (ext1 ad (hn h) a) H1 locs lsC K (RT_ext G (by omega) hag (Nat.le_succ _)) ⟨by rw [hw]; exact e1, by rw [hw]; exact e2, e3⟩ (by rw [lc_ok hls hag]; exact hl) hkc hks
  rw [List.map_cons, st_ok hst hag, show cv (ext1 ad (hn h) a) (vR (some (hn h))) = .ref a by simp [cv, va_rf, ext1_at]] at w
  exact w
theorem r_aastK {o n x ci : Nat} {i : Int32} (hd : fet M pc = .ok (.aastore, 1)) (hp : pc + 1 = pc') (hsh : SH o = (3, n)) (ho : o < hn h) (hx : SH x = (0, ci)) (hxo : x < hn h) (hcx : (classes.getD ci (RL, TX0, 0)).1 = RX3 ∨ ((classes.getD ci (RL, TX0, 0)).1, RX3) ∈ castL) (hin : vp_in i n) (kk : wp d M Q kc ks pc' ls st (setr h o i.toNatClampNeg (some x))) : wp d M Q kc ks pc ls (vR (some x) :: vI i :: vR (some o) :: st) h := by
  subst hp
  intro p l e R s m args below meth c A Z E ad H locs lsC K G D hl g1 g2
  have he : (toW E ad h)[x]? = some (ad x, .inr (ci, fv ad (hi h x) (hr h x) 0 (FK ci))) := by rw [toW_at hxo, cell_obj hx]
  obtain ⟨q, hq, -⟩ := D.1 x _ he
  have hg : classes.getD ci (RL, TX0, 0) = q := by rw [List.getD_eq_getElem?_getD, hq]; rfl
  rw [hg] at hcx
  have hset : (toW E ad h).set o (ad o, .inl (E.2.2.2.1, n, .inr (.inr (.inr (.inr (va_up (rrow (hr h o) ad) i.toNatClampNeg (some (ad x)))))))) = toW E ad (setr h o i.toNatClampNeg (some x)) := by
    refine toW_set rfl ?_ (fun a _ => by rw [hi_setr]) (fun a ha => hr_setr_ne h o _ _ a ha)
    rw [cell_kinds hsh, hr_setr_row, rrow_up]
    rfl
  rcases hcx with w | w
  · refine va_astq (D := E.1) (a := ad o) (v := ad x) (r := q) K.1 K.2.1 K.2.2.2.2.2.1 D.1 D.2.1 D.2.2 o 2 x ci (by rw [toW_at ho, cell_kinds hsh]) (by rw [w]; rfl) he hq hin hd (fun H1 locs1 e1 e2 e3 => ?_)
    rw [hset] at e1 e2
    exact kk p l e R s m args below meth c A Z E ad H1 locs1 lsC K G ⟨e1, e2, e3⟩ hl g1 g2
  · refine va_astqO (D := E.1) (a := ad o) (v := ad x) (r := q) (E := RX3) K.1 K.2.1 K.2.2.2.2.2.1 D.1 D.2.1 D.2.2 o 2 x ci (by rw [toW_at ho, cell_kinds hsh]) rfl (K.2.2.2.2.2.2.2.1.2.1 _ w) he hq hin hd (fun H1 locs1 e1 e2 e3 => ?_)
    rw [hset] at e1 e2
    exact kk p l e R s m args below meth c A Z E ad H1 locs1 lsC K G ⟨e1, e2, e3⟩ hl g1 g2
theorem r_aastT {o n x ci : Nat} {i : Int32} (hd : fet M pc = .ok (.aastore, 1)) (hp : pc + 1 = pc') (hsh : SH o = (4, n)) (ho : o < hn h) (hx : SH x = (0, ci)) (hxo : x < hn h) (hcx : (classes.getD ci (RL, TX0, 0)).1 = RX8 ∨ ((classes.getD ci (RL, TX0, 0)).1, RX8) ∈ castL) (hin : vp_in i n) (kk : wp d M Q kc ks pc' ls st (setr h o i.toNatClampNeg (some x))) : wp d M Q kc ks pc ls (vR (some x) :: vI i :: vR (some o) :: st) h := by
  subst hp
  intro p l e R s m args below meth c A Z E ad H locs lsC K G D hl g1 g2
  have he : (toW E ad h)[x]? = some (ad x, .inr (ci, fv ad (hi h x) (hr h x) 0 (FK ci))) := by rw [toW_at hxo, cell_obj hx]
  obtain ⟨q, hq, -⟩ := D.1 x _ he
  have hg : classes.getD ci (RL, TX0, 0) = q := by rw [List.getD_eq_getElem?_getD, hq]; rfl
  rw [hg] at hcx
  have hset : (toW E ad h).set o (ad o, .inl (E.2.2.2.2, n, .inr (.inr (.inr (.inr (va_up (rrow (hr h o) ad) i.toNatClampNeg (some (ad x)))))))) = toW E ad (setr h o i.toNatClampNeg (some x)) := by
    refine toW_set rfl ?_ (fun a _ => by rw [hi_setr]) (fun a ha => hr_setr_ne h o _ _ a ha)
    rw [cell_things hsh, hr_setr_row, rrow_up]
    rfl
  rcases hcx with w | w
  · refine va_astq (D := E.1) (a := ad o) (v := ad x) (r := q) K.1 K.2.1 K.2.2.2.2.2.1 D.1 D.2.1 D.2.2 o 3 x ci (by rw [toW_at ho, cell_things hsh]) (by rw [w]; rfl) he hq hin hd (fun H1 locs1 e1 e2 e3 => ?_)
    rw [hset] at e1 e2
    exact kk p l e R s m args below meth c A Z E ad H1 locs1 lsC K G ⟨e1, e2, e3⟩ hl g1 g2
  · refine va_astqO (D := E.1) (a := ad o) (v := ad x) (r := q) (E := RX8) K.1 K.2.1 K.2.2.2.2.2.1 D.1 D.2.1 D.2.2 o 3 x ci (by rw [toW_at ho, cell_things hsh]) rfl (K.2.2.2.2.2.2.2.1.2.1 _ w) he hq hin hd (fun H1 locs1 e1 e2 e3 => ?_)
    rw [hset] at e1 e2
    exact kk p l e R s m args below meth c A Z E ad H1 locs1 lsC K G ⟨e1, e2, e3⟩ hl g1 g2
theorem r_callA {M' : Nat} {ins : Instr} {cr : Option Nat} (av st : List AV) (hd : fet M pc = .ok (ins, 3)) (hp : pc + 3 = pc') {on : String} (hon : own M = on) (hs : Site on ins cr M') (hcr : rcv cr av h) (hlen : av.length = na M' + (if cr.isSome then 1 else 0)) (hml : ml M' ≤ 20) (hm : mc M ≠ 0) (hls : ls.all (fun q => okv (hn h) q.2) = true) (hso : st.all (okv (hn h)) = true) (hwt : (st.map wt).sum ≤ 8) (hst : st0 = av.reverse ++ st) (hkc : kc + mc M' ≤ mc M) (hks : ks + ms M' ≤ ms M)
    (kk : Spec d M' av h (fun r h1 => wp (d + 1) M Q (kc + mc M') (ks + ms M') pc' ls (nxt r st) h1)) : wp (d + 1) M Q kc ks pc ls st0 h := by
  subst hp
  intro p l e R s m args below meth c A Z E ad H locs lsC K G D hl g1 g2
  refine run_W (site_run K D hl hd hon hs hcr hlen hml hwt hst hkc hks kk) D.2.1 D.2.2 K.2.2.2.2.2.2.1 ?_
  intro r h1 ad' H1 locs1 a1 a2 a3 a4 a5
  have w := a4 p l e R s m args below meth c A Z E ad' H1 locs1 lsC K (RT_ext G hm a1 a2) a5 (by rw [lc_ok hls a1]; exact hl) hkc hks
  cases r with
  | none => rw [nxt, st_ok hso a1] at w; exact w
  | some v => rw [nxt, List.map_cons, st_ok hso a1] at w; exact w
theorem r_objInit {idx o : Nat} (hd : fet M pc = .ok (.invokespecial idx, 3)) (hp : pc + 3 = pc') {on : String} (hon : own M = on) (h1 : Cond.methodLink on idx objectInit ∈ TBL) (h2 : Cond.instanceMethod objectInit ∈ TBL) (h3 : Cond.code objectInit ⟨#[0xb1]⟩ 1 none ∈ TBL) (hwt : (st.map wt).sum ≤ 8) (kk : wp (d + 1) M Q kc ks pc' ls st h) : wp (d + 1) M Q kc ks pc ls (vR (some o) :: st) h := by
  subst hp
  subst hon
  intro p l e R s m args below meth c A Z E ad H locs lsC K G D hl g1 g2
  obtain ⟨k1, k2, k3, k4, k5, k6, k7, k8, k9, k10, k11, k12, k13⟩ := id K
  refine W.objInit (a := ad o) k1 k2 k4 (k5 _ h1) (k5 _ h2) (k5 _ h3) rfl (by rw [k3]; exact hl.1) rfl hd (by omega) ?_ (kk p l e R s m args below meth c A Z E ad H locs lsC K G D hl g1 g2)
  have w := lv_room (m := m) (pc := pc) (ls := lsC) (rest := []) (st := st.map (cv ad)) (by rw [cat_sum]; exact hwt)
  have e0 : (F0 m pc lsC ([] : List Value)).monitorRoom = (F0 m pc lsC (List.map (cv ad) (vR (some o) :: st))).monitorRoom := rfl
  rw [e0] at w
  omega
theorem r_max {x y : Int32} {idx : Nat} (hd : fet M pc = .ok (.invokestatic idx, 3)) (hp : pc + 3 = pc') {on : String} (hon : own M = on) (h1 : Cond.methodLink on idx Lib.Math.max.name ∈ TBL) (h2 : Cond.static Lib.Math.max.name ∈ TBL) (h3 : Cond.initialized "java/lang/Math" ∈ TBL) (h4 : Cond.code Lib.Math.max.name Lib.Math.max.code 2 (some .int) ∈ TBL) (hwt : (st.map wt).sum ≤ 8) (kk : wp (d + 1) M Q kc ks pc' ls (vI (if x < y then y else x) :: st) h) : wp (d + 1) M Q kc ks pc ls (vI y :: vI x :: st) h := by
  subst hp
  subst hon
  intro p l e R s m args below meth c A Z E ad H locs lsC K G D hl g1 g2
  obtain ⟨k1, k2, k3, k4, k5, k6, k7, k8, k9, k10, k11, k12, k13⟩ := id K
  exact va_mmax k1 k2 (by rw [k3]; exact hl.1.symm) k4 (k5 _ h1) (k5 _ h2) (k5 _ h3) (k5 _ h4) (by omega) (by rw [cat_sum]; omega) (Nat.le_trans g1 k11) (Nat.le_trans g2 k12) hd (kk p l e R s m args below meth c A Z E ad H locs lsC K G D hl g1 g2)
theorem r_min {x y : Int32} {idx : Nat} (hd : fet M pc = .ok (.invokestatic idx, 3)) (hp : pc + 3 = pc') {on : String} (hon : own M = on) (h1 : Cond.methodLink on idx Lib.Math.min.name ∈ TBL) (h2 : Cond.static Lib.Math.min.name ∈ TBL) (h3 : Cond.initialized "java/lang/Math" ∈ TBL) (h4 : Cond.code Lib.Math.min.name Lib.Math.min.code 2 (some .int) ∈ TBL) (hwt : (st.map wt).sum ≤ 8) (kk : wp (d + 1) M Q kc ks pc' ls (vI (if y < x then y else x) :: st) h) : wp (d + 1) M Q kc ks pc ls (vI y :: vI x :: st) h := by
  subst hp
  subst hon
  intro p l e R s m args below meth c A Z E ad H locs lsC K G D hl g1 g2
  obtain ⟨k1, k2, k3, k4, k5, k6, k7, k8, k9, k10, k11, k12, k13⟩ := id K
  exact va_mmin k1 k2 (by rw [k3]; exact hl.1.symm) k4 (k5 _ h1) (k5 _ h2) (k5 _ h3) (k5 _ h4) (by omega) (by rw [cat_sum]; omega) (Nat.le_trans g1 k11) (Nat.le_trans g2 k12) hd (kk p l e R s m args below meth c A Z E ad H locs lsC K G D hl g1 g2)
theorem r_abs {x : Int32} {idx : Nat} (hd : fet M pc = .ok (.invokestatic idx, 3)) (hp : pc + 3 = pc') {on : String} (hon : own M = on) (h1 : Cond.methodLink on idx Lib.Math.abs.name ∈ TBL) (h2 : Cond.static Lib.Math.abs.name ∈ TBL) (h3 : Cond.initialized "java/lang/Math" ∈ TBL) (h4 : Cond.code Lib.Math.abs.name Lib.Math.abs.code 1 (some .int) ∈ TBL) (hwt : (st.map wt).sum ≤ 8) (kk : wp (d + 1) M Q kc ks pc' ls (vI (if 0 ≤ x then x else 0 - x) :: st) h) : wp (d + 1) M Q kc ks pc ls (vI x :: st) h := by
  subst hp
  subst hon
  intro p l e R s m args below meth c A Z E ad H locs lsC K G D hl g1 g2
  obtain ⟨k1, k2, k3, k4, k5, k6, k7, k8, k9, k10, k11, k12, k13⟩ := id K
  exact va_mabs k1 k2 (by rw [k3]; exact hl.1.symm) k4 (k5 _ h1) (k5 _ h2) (k5 _ h3) (k5 _ h4) (by omega) (by rw [cat_sum]; omega) (Nat.le_trans g1 k11) (Nat.le_trans g2 k12) hd (kk p l e R s m args below meth c A Z E ad H locs lsC K G D hl g1 g2)
theorem r_copy {o0 o1 n0 n1 idx : Nat} {sp dp n : Int32} (hd : fet M pc = .ok (.invokestatic idx, 3)) (hp : pc + 3 = pc') {on : String} (hon : own M = on) (h1 : Cond.methodLink on idx arraycopyName ∈ TBL) (h2 : Cond.native arraycopyName ∈ TBL) (h3 : Cond.static arraycopyName ∈ TBL) (h4 : Cond.initialized "java/lang/System" ∈ TBL) (hs0 : SH o0 = (1, n0)) (hs1 : SH o1 = (1, n1)) (ho0 : o0 < hn h) (ho1 : o1 < hn h) (c1 : ¬ sp < 0) (c2 : ¬ dp < 0) (c3 : ¬ n < 0) (c4 : sp.toNatClampNeg + n.toNatClampNeg ≤ n0) (c5 : dp.toNatClampNeg + n.toNatClampNeg ≤ n1) (hwt : (st.map wt).sum ≤ 8) (kk : wp (d + 1) M Q kc ks pc' ls st (setw h o1 (va_cpy (hi h o0) (hi h o1) sp.toNatClampNeg dp.toNatClampNeg n.toNatClampNeg))) : wp (d + 1) M Q kc ks pc ls (vI n :: vI dp :: vR (some o1) :: vI sp :: vR (some o0) :: st) h := by
  subst hp
  subst hon
  intro p l e R s m args below meth c A Z E ad H locs lsC K G D hl g1 g2
  obtain ⟨k1, k2, k3, k4, k5, k6, k7, k8, k9, k10, k11, k12, k13⟩ := id K
  have hset : (toW E ad h).set o1 (ad o1, .inl (E.2.1, n1, .inl (va_cpy (hi h o0) (hi h o1) sp.toNatClampNeg dp.toNatClampNeg n.toNatClampNeg))) = toW E ad (setw h o1 (va_cpy (hi h o0) (hi h o1) sp.toNatClampNeg dp.toNatClampNeg n.toNatClampNeg)) := by
    refine toW_set rfl ?_ (fun a ha => hi_setw_ne h o1 _ a ha) (fun a _ => by rw [hr_setw])
    rw [cell_int hs1, hi_setw_row]
  have hnw : nativeFrameWords "java/lang/System" "arraycopy" 5 ≤ 20 := by decide +kernel
  refine va_copyi (D := E.1) (a := ad o1) (a0 := ad o0) (ty := .int) k1 k2 (by rw [k3]; exact hl.1.symm) k4 (k5 _ h1) (k5 _ h2) (k5 _ h3) (k5 _ h4) k6 D.1 D.2.1 D.2.2 o0 o1 0 0 (by rw [toW_at ho0, cell_int hs0]) (by rw [toW_at ho1, cell_int hs1]) rfl rfl rfl c1 c2 c3 c4 c5 (fun _ _ => rfl) (by omega) (by rw [cat_sum]; omega) hd (fun H1 locs1 e1 e2 e3 => ?_)
  rw [hset] at e1 e2
  exact kk p l e R s m args below meth c A Z E ad H1 locs1 lsC K G ⟨e1, e2, e3⟩ hl g1 g2
theorem r_instN {idx : Nat} (hd : fet M pc = .ok (.instanceof idx, 3)) (hp : pc + 3 = pc') (kk : wp d M Q kc ks pc' ls (vI 0 :: st) h) : wp d M Q kc ks pc ls (vR none :: st) h := by
  subst hp
  intro p l e R s m args below meth c A Z E ad H locs lsC K G D hl g1 g2
  exact lv_instN K.1 K.2.1 hd (kk p l e R s m args below meth c A Z E ad H locs lsC K G D hl g1 g2)
theorem r_inst {idx o ci : Nat} {nm : String} (b : Bool) (hd : fet M pc = .ok (.instanceof idx, 3)) (hp : pc + 3 = pc') {on : String} (hon : own M = on) (hs : Cond.classLink on idx nm ∈ TBL) (hsh : SH o = (0, ci)) (ho : o < hn h) (hb : if b then (classes.getD ci (RL, TX0, 0)).1 = nm ∨ ((classes.getD ci (RL, TX0, 0)).1, nm) ∈ castL else ((classes.getD ci (RL, TX0, 0)).1, nm) ∈ nocastL) (kk : wp d M Q kc ks pc' ls (vI (if b then 1 else 0) :: st) h) : wp d M Q kc ks pc ls (vR (some o) :: st) h := by
  subst hp
  subst hon
  intro p l e R s m args below meth c A Z E ad H locs lsC K G D hl g1 g2
  obtain ⟨k1, k2, k3, k4, k5, k6, k7, k8, k9, k10, k11, k12, k13⟩ := id K
  have he : (toW E ad h)[o]? = some (ad o, .inr (ci, fv ad (hi h o) (hr h o) 0 (FK ci))) := by rw [toW_at ho, cell_obj hsh]
  obtain ⟨q, hq, -⟩ := D.1 o _ he
  have hg : classes.getD ci (RL, TX0, 0) = q := by rw [List.getD_eq_getElem?_getD, hq]; rfl
  rw [hg] at hb
  have hrc := va_recv k6 D.1 hq he
  cases b with
  | true =>
    rcases hb with w | w
    · subst w
      exact va_instS (a := ad o) k1 k2 k4 (k5 _ hs) ((k6.1 ci q hq).2) hrc hd (kk p l e R s m args below meth c A Z E ad H locs lsC K G D hl g1 g2)
    · exact va_instY (a := ad o) (C := q.1) k1 k2 k4 (k5 _ hs) (k8.2.1 _ w) hrc hd (kk p l e R s m args below meth c A Z E ad H locs lsC K G D hl g1 g2)
  | false => exact va_instNo (a := ad o) (C := q.1) k1 k2 k4 (k5 _ hs) (k8.2.2.1 _ hb) hrc hd (kk p l e R s m args below meth c A Z E ad H locs lsC K G D hl g1 g2)
end Making
end
section
/-! call sites in general -/
def DOK (M' : Nat) : Prop := (ym M').cls ≠ "java/lang/invoke/MethodHandle" ∧ (ym M').cls ≠ "java/lang/invoke/VarHandle" ∧ (parseMethodDescriptor (ym M').desc).map (fun d => d.parameters.length) = some (na M')
def MI (M' : Nat) : Prop := Cond.code (ym M') (bt M') (ml M') (rt M') ∈ TBL ∧ Cond.instanceMethod (ym M') ∈ TBL ∧ Cond.initialized (ym M').cls ∈ TBL ∧ DOK M'
def MSt (M' : Nat) : Prop := Cond.code (ym M') (bt M') (ml M') (rt M') ∈ TBL ∧ Cond.static (ym M') ∈ TBL ∧ Cond.initialized (ym M').cls ∈ TBL ∧ DOK M'
theorem mem3 {a b c : Cond} {l : List Cond} (h1 : a ∈ l) (h2 : b ∈ l) (h3 : c ∈ l) : ∀ w ∈ [a, b, c], w ∈ l := by
  intro w hw
  simp at hw
  rcases hw with rfl | rfl | rfl <;> assumption
theorem mem4 {a b c d : Cond} {l : List Cond} (h1 : a ∈ l) (h2 : b ∈ l) (h3 : c ∈ l) (h4 : d ∈ l) : ∀ w ∈ [a, b, c, d], w ∈ l := by
  intro w hw
  simp at hw
  rcases hw with rfl | rfl | rfl | rfl <;> assumption
theorem mem5 {a b c d e : Cond} {l : List Cond} (h1 : a ∈ l) (h2 : b ∈ l) (h3 : c ∈ l) (h4 : d ∈ l) (h5 : e ∈ l) : ∀ w ∈ [a, b, c, d, e], w ∈ l := by
  intro w hw
  simp at hw
  rcases hw with rfl | rfl | rfl | rfl | rfl <;> assumption
theorem mem6 {a b c d e f : Cond} {l : List Cond} (h1 : a ∈ l) (h2 : b ∈ l) (h3 : c ∈ l) (h4 : d ∈ l) (h5 : e ∈ l) (h6 : f ∈ l) : ∀ w ∈ [a, b, c, d, e, f], w ∈ l := by
  intro w hw
  simp at hw
  rcases hw with rfl | rfl | rfl | rfl | rfl | rfl <;> assumption
theorem siteV {o : String} {idx ci M' : Nat} (q : vw_C) (hq0 : classes[ci]? = some q) (hC : (ym M').cls = q.1) (hM0 : MI M') (h1 : Cond.methodLink o idx (ym M') ∈ TBL) (h3 : Cond.selects q.1 (ym M') (ym M') ∈ TBL) : Site o (.invokevirtual idx) (some ci) M' := by
  intro p l e R s m args below meth c H locs kc ks cc nL Pc Qc free rm As rest g E S N hK hM hc hs hR hb hpc hrc hlen hg hsz hst hw hd hf
  obtain ⟨b, As', q2, cl, rfl, hq, c1, c2, c3⟩ := hrc ci rfl
  cases hq0.symm.trans hq
  obtain ⟨m1, m2, m3, m4⟩ := hM0
  exact va_runV (As := As') (rest := rest) (C := q.1) S hM (cwV (na M') S.2.2.2.2 (good_app (mem4 h1 m2 h3 (hC ▸ m3)) (good_ws m1)) rfl hc hs ⟨hC, m4⟩ hR) ⟨hb, ⟨cl, c1, c2, c3⟩, hpc⟩ hg (by simpa using hlen) hsz (by rw [hst]; simp) hw hd hf
theorem siteS {o : String} {idx M' : Nat} (hC : (ym M').cls = o) (hM0 : MSt M') (h1 : Cond.methodLink o idx (ym M') ∈ TBL) : Site o (.invokestatic idx) none M' := by
  intro p l e R s m args below meth c H locs kc ks cc nL Pc Qc free rm As rest g E S N hK hM hc hs hR hb hpc hrc hlen hg hsz hst hw hd hf
  obtain ⟨m1, m2, m3, m4⟩ := hM0
  exact va_runS (As := As) (rest := rest) S hM (cwS (na M') S.2.2.2.2 (good_app (mem3 h1 m2 (hC ▸ m3)) (good_ws m1)) rfl hc hs ⟨hC, m4⟩ hR) ⟨hb, hpc⟩ hg (by simpa using hlen) hsz hst hw hd hf
theorem siteS2 {o : String} {idx M' : Nat} (hM0 : MSt M') (h1 : Cond.methodLink o idx (ym M') ∈ TBL) : Site o (.invokestatic idx) none M' := by
  intro p l e R s m args below meth c H locs kc ks cc nL Pc Qc free rm As rest g E S N hK hM hc hs hR hb hpc hrc hlen hg hsz hst hw hd hf
  obtain ⟨m1, m2, m3, m4⟩ := hM0
  have ht := S.2.2.2.2
  exact va_runS (As := As) (rest := rest) S hM ⟨callB_of (na M') ht (good_ws m1) rfl hc hs (ht _ m3) (ht _ h1) m4 hR, ht _ m2⟩ ⟨hb, hpc⟩ hg (by simpa using hlen) hsz hst hw hd hf
theorem siteSN {o host : String} {idx M' : Nat} (hM0 : MSt M') (h1 : (o, idx, ym M', host) ∈ nestL) : Site o (.invokestatic idx) none M' := by
  intro p l e R s m args below meth c H locs kc ks cc nL Pc Qc free rm As rest g E S N hK hM hc hs hR hb hpc hrc hlen hg hsz hst hw hd hf
  obtain ⟨m1, m2, m3, m4⟩ := hM0
  have ht := S.2.2.2.2
  exact va_runSN (As := As) (rest := rest) S hM ⟨va_cnB (na M') ht (good_ws m1) rfl hc hs (N.1 _ h1) (ht _ m3) m4 hR, ht _ m2, trivial⟩ ⟨hb, hpc⟩ hg (by simpa using hlen) hsz hst hw hd hf
theorem siteI {o : String} {idx ci M' : Nat} (hn0 : rt M' = none) (hi0 : (ym M').name = "<init>") (hM0 : MI M') (h1 : Cond.methodLink o idx (ym M') ∈ TBL) : Site o (.invokespecial idx) (some ci) M' := by
  intro p l e R s m args below meth c H locs kc ks cc nL Pc Qc free rm As rest g E S N hK hM hc hs hR hb hpc hrc hlen hg hsz hst hw hd hf
  obtain ⟨b, As', q2, cl, rfl, hq, c1, c2, c3⟩ := hrc ci rfl
  obtain ⟨m1, m2, m3, m4⟩ := hM0
  have ht := S.2.2.2.2
  exact va_runI (As := As') (rest := rest) (maxL := ml M') (bytes := bt M') S hM (cwI (na M') ht (good_ws m1) (show WS M' = Cond.code (ym M') (bt M') (ml M') none :: TBL by unfold WS; rw [hn0]) hc hs (ht _ m3) (ht _ h1) (ht _ m2) hi0 m4 hR) ⟨hb, hpc⟩ hg (by simpa using hlen) hsz (by rw [hst]; simp) hw hd hf
theorem siteIN {o host : String} {idx ci M' : Nat} (hn0 : rt M' = none) (hi0 : (ym M').name = "<init>") (hM0 : MI M') (h1 : (o, idx, ym M', host) ∈ nestL) : Site o (.invokespecial idx) (some ci) M' := by
  intro p l e R s m args below meth c H locs kc ks cc nL Pc Qc free rm As rest g E S N hK hM hc hs hR hb hpc hrc hlen hg hsz hst hw hd hf
  obtain ⟨b, As', q2, cl, rfl, hq, c1, c2, c3⟩ := hrc ci rfl
  obtain ⟨m1, m2, m3, m4⟩ := hM0
  have ht := S.2.2.2.2
  exact va_runIN (As := As') (rest := rest) (maxL := ml M') (bytes := bt M') S hM ⟨va_cnB (na M') ht (good_ws m1) (show WS M' = Cond.code (ym M') (bt M') (ml M') none :: TBL by unfold WS; rw [hn0]) hc hs (N.1 _ h1) (ht _ m3) m4 hR, hi0, ht _ m2⟩ ⟨hb, hpc⟩ hg (by simpa using hlen) hsz (by rw [hst]; simp) hw hd hf
theorem siteU {o owner : String} {idx ci M' : Nat} (x : MethodName) (q : vw_C) (hq0 : classes[ci]? = some q) (hyx : ym M' = ⟨owner, x.name, x.desc⟩) (hM0 : MI M') (h1 : Cond.methodLink o idx x ∈ TBL) (h2 : Cond.sameMethod x.cls owner x.name x.desc ∈ TBL) (h3 : Cond.selects q.1 x (ym M') ∈ TBL) : Site o (.invokevirtual idx) (some ci) M' := by
  intro p l e R s m args below meth c H locs kc ks cc nL Pc Qc free rm As rest g E S N hK hM hc hs hR hb hpc hrc hlen hg hsz hst hw hd hf
  obtain ⟨b, As', q2, cl, rfl, hq, c1, c2, c3⟩ := hrc ci rfl
  cases hq0.symm.trans hq
  obtain ⟨m1, m2, m3, m4⟩ := hM0
  have m5 := m4
  unfold DOK at m5
  rw [hyx] at m5
  exact va_runU (As := As') (rest := rest) (C := q.1) (owner := owner) S hM (va_cwU (na M') S.2.2.2.2 (good_app (mem5 h1 h2 h3 m2 m3) (good_ws m1)) rfl hc hs hyx m5 hR) ⟨hb, ⟨cl, c1, c2, c3⟩, hpc⟩ hg (by simpa using hlen) hsz (by rw [hst]; simp) hw hd hf
theorem siteO {o owner : String} {idx ci M' M0 : Nat} (x : MethodName) (q : vw_C) (hq0 : classes[ci]? = some q) (hyx : ym M0 = ⟨owner, x.name, x.desc⟩) (hna : na M0 = na M') (hM0 : MI M') (hM1 : MI M0) (h1 : Cond.methodLink o idx x ∈ TBL) (h2 : Cond.sameMethod x.cls owner x.name x.desc ∈ TBL) (h3 : Cond.selects q.1 x (ym M') ∈ TBL) : Site o (.invokevirtual idx) (some ci) M' := by
  intro p l e R s m args below meth c H locs kc ks cc nL Pc Qc free rm As rest g E S N hK hM hc hs hR hb hpc hrc hlen hg hsz hst hw hd hf
  obtain ⟨b, As', q2, cl, rfl, hq, c1, c2, c3⟩ := hrc ci rfl
  cases hq0.symm.trans hq
  obtain ⟨m1, m2, m3, m4⟩ := hM0
  obtain ⟨z1, z2, z3, z4⟩ := hM1
  unfold DOK at z4
  rw [hyx] at z1 z2 z4
  rw [hna] at z4
  exact va_runU (As := As') (rest := rest) (C := q.1) (owner := owner) S hM (va_cwO (na M') S.2.2.2.2 (good_app (mem6 h1 h2 z2 h3 m2 m3) (good_ws m1)) rfl hc hs z1 z4 hR) ⟨hb, ⟨cl, c1, c2, c3⟩, hpc⟩ hg (by simpa using hlen) hsz (by rw [hst]; simp) hw hd hf
theorem siteSU {o : String} {idx ci M' : Nat} (hno : (ym M').name ≠ "<init>") (hM0 : MI M') (h1 : Cond.methodLink o idx (ym M') ∈ TBL) (h2 : Cond.sameMethod (ym M').cls (ym M').cls (ym M').name (ym M').desc ∈ TBL) (h3 : Cond.superclass o (ym M').cls ∈ TBL) : Site o (.invokespecial idx) (some ci) M' := by
  intro p l e R s m args below meth c H locs kc ks cc nL Pc Qc free rm As rest g E S N hK hM hc hs hR hb hpc hrc hlen hg hsz hst hw hd hf
  obtain ⟨b, As', q2, cl, rfl, hq, c1, c2, c3⟩ := hrc ci rfl
  obtain ⟨m1, m2, m3, m4⟩ := hM0
  exact va_runSU (As := As') (rest := rest) ((hK.1 ci q2 hq).2) S hM (va_cwSU (na M') S.2.2.2.2 (good_app (mem5 h1 h2 h3 m2 m3) (good_ws m1)) rfl hc hs ⟨hno, m4.2.2⟩ hR) ⟨hb, ⟨cl, c1, c2, c3⟩, hpc⟩ hg (by simpa using hlen) hsz (by rw [hst]; simp) hw hd hf
end
section
theorem o0 : own 0 = RX0 := by decide +kernel
theorem d0_0 : fet 0 0 = .ok (.aload_n 0, 1) := by decide +kernel
theorem d0_1 : fet 0 1 = .ok (.iload_n 1, 1) := by decide +kernel
theorem d0_2 : fet 0 2 = .ok (.iload_n 2, 1) := by decide +kernel
theorem d0_3 : fet 0 3 = .ok (.iload_n 3, 1) := by decide +kernel
theorem d0_4 : fet 0 4 = .ok (.iload 4, 2) := by decide +kernel
theorem d0_6 : fet 0 6 = .ok (.invokespecial 1, 3) := by decide +kernel
theorem d0_9 : fet 0 9 = .ok (.return_, 1) := by decide +kernel
theorem o1 : own 1 = RX0 := by decide +kernel
theorem d1_0 : fet 1 0 = .ok (.aload_n 2, 1) := by decide +kernel
theorem d1_1 : fet 1 1 = .ok (.bipush 13, 2) := by decide +kernel
theorem d1_3 : fet 1 3 = .ok (.invokevirtual 7, 3) := by decide +kernel
theorem d1_6 : fet 1 6 = .ok (.aload_n 0, 1) := by decide +kernel
theorem d1_7 : fet 1 7 = .ok (.aload_n 1, 1) := by decide +kernel
theorem d1_8 : fet 1 8 = .ok (.aload_n 2, 1) := by decide +kernel
theorem d1_9 : fet 1 9 = .ok (.invokespecial 13, 3) := by decide +kernel
theorem d1_12 : fet 1 12 = .ok (.bipush 100, 2) := by decide +kernel
theorem d1_14 : fet 1 14 = .ok (.isub, 1) := by decide +kernel
theorem d1_15 : fet 1 15 = .ok (.ireturn, 1) := by decide +kernel
theorem o2 : own 2 = RX0 := by decide +kernel
theorem d2_0 : fet 2 0 = .ok (.aload_n 2, 1) := by decide +kernel
theorem d2_1 : fet 2 1 = .ok (.bipush 23, 2) := by decide +kernel
theorem d2_3 : fet 2 3 = .ok (.invokevirtual 7, 3) := by decide +kernel
theorem d2_6 : fet 2 6 = .ok (.aload_n 0, 1) := by decide +kernel
theorem d2_7 : fet 2 7 = .ok (.aload_n 1, 1) := by decide +kernel
theorem d2_8 : fet 2 8 = .ok (.aload_n 2, 1) := by decide +kernel
theorem d2_9 : fet 2 9 = .ok (.invokespecial 17, 3) := by decide +kernel
theorem d2_12 : fet 2 12 = .ok (.aload_n 0, 1) := by decide +kernel
theorem d2_13 : fet 2 13 = .ok (.aload_n 1, 1) := by decide +kernel
theorem d2_14 : fet 2 14 = .ok (.aload_n 2, 1) := by decide +kernel
theorem d2_15 : fet 2 15 = .ok (.invokevirtual 20, 3) := by decide +kernel
theorem d2_18 : fet 2 18 = .ok (.isub, 1) := by decide +kernel
theorem d2_19 : fet 2 19 = .ok (.ireturn, 1) := by decide +kernel
theorem o3 : own 3 = RX1 := by decide +kernel
theorem d3_0 : fet 3 0 = .ok (.aload_n 0, 1) := by decide +kernel
theorem d3_1 : fet 3 1 = .ok (.iload_n 1, 1) := by decide +kernel
theorem d3_2 : fet 3 2 = .ok (.iload_n 2, 1) := by decide +kernel
theorem d3_3 : fet 3 3 = .ok (.iload_n 3, 1) := by decide +kernel
theorem d3_4 : fet 3 4 = .ok (.iload 4, 2) := by decide +kernel
theorem d3_6 : fet 3 6 = .ok (.invokespecial 1, 3) := by decide +kernel
theorem d3_9 : fet 3 9 = .ok (.return_, 1) := by decide +kernel
theorem o4 : own 4 = RX1 := by decide +kernel
theorem d4_0 : fet 4 0 = .ok (.aload_n 2, 1) := by decide +kernel
theorem d4_1 : fet 4 1 = .ok (.bipush 12, 2) := by decide +kernel
theorem d4_3 : fet 4 3 = .ok (.invokevirtual 7, 3) := by decide +kernel
theorem d4_6 : fet 4 6 = .ok (.aload_n 0, 1) := by decide +kernel
theorem d4_7 : fet 4 7 = .ok (.aload_n 1, 1) := by decide +kernel
theorem d4_8 : fet 4 8 = .ok (.aload_n 2, 1) := by decide +kernel
theorem d4_9 : fet 4 9 = .ok (.invokespecial 13, 3) := by decide +kernel
theorem d4_12 : fet 4 12 = .ok (.ineg, 1) := by decide +kernel
theorem d4_13 : fet 4 13 = .ok (.ireturn, 1) := by decide +kernel
theorem o5 : own 5 = RX1 := by decide +kernel
theorem d5_0 : fet 5 0 = .ok (.aload_n 2, 1) := by decide +kernel
theorem d5_1 : fet 5 1 = .ok (.bipush 24, 2) := by decide +kernel
theorem d5_3 : fet 5 3 = .ok (.invokevirtual 7, 3) := by decide +kernel
theorem d5_6 : fet 5 6 = .ok (.iconst 2, 1) := by decide +kernel
theorem d5_7 : fet 5 7 = .ok (.aload_n 0, 1) := by decide +kernel
theorem d5_8 : fet 5 8 = .ok (.aload_n 1, 1) := by decide +kernel
theorem d5_9 : fet 5 9 = .ok (.aload_n 2, 1) := by decide +kernel
theorem d5_10 : fet 5 10 = .ok (.invokespecial 17, 3) := by decide +kernel
theorem d5_13 : fet 5 13 = .ok (.imul, 1) := by decide +kernel
theorem d5_14 : fet 5 14 = .ok (.ireturn, 1) := by decide +kernel
theorem o6 : own 6 = RX2 := by decide +kernel
theorem d6_0 : fet 6 0 = .ok (.aload_n 0, 1) := by decide +kernel
theorem d6_1 : fet 6 1 = .ok (.iload_n 1, 1) := by decide +kernel
theorem d6_2 : fet 6 2 = .ok (.iload_n 2, 1) := by decide +kernel
theorem d6_3 : fet 6 3 = .ok (.iload_n 3, 1) := by decide +kernel
theorem d6_4 : fet 6 4 = .ok (.iload 4, 2) := by decide +kernel
theorem d6_6 : fet 6 6 = .ok (.invokespecial 1, 3) := by decide +kernel
theorem d6_9 : fet 6 9 = .ok (.return_, 1) := by decide +kernel
theorem o7 : own 7 = RX2 := by decide +kernel
theorem d7_0 : fet 7 0 = .ok (.aload_n 2, 1) := by decide +kernel
theorem d7_1 : fet 7 1 = .ok (.bipush 14, 2) := by decide +kernel
theorem d7_3 : fet 7 3 = .ok (.invokevirtual 7, 3) := by decide +kernel
theorem d7_6 : fet 7 6 = .ok (.iconst 2, 1) := by decide +kernel
theorem d7_7 : fet 7 7 = .ok (.aload_n 0, 1) := by decide +kernel
theorem d7_8 : fet 7 8 = .ok (.aload_n 1, 1) := by decide +kernel
theorem d7_9 : fet 7 9 = .ok (.aload_n 2, 1) := by decide +kernel
theorem d7_10 : fet 7 10 = .ok (.invokespecial 13, 3) := by decide +kernel
theorem d7_13 : fet 7 13 = .ok (.imul, 1) := by decide +kernel
theorem d7_14 : fet 7 14 = .ok (.ireturn, 1) := by decide +kernel
theorem o8 : own 8 = RX3 := by decide +kernel
theorem d8_0 : fet 8 0 = .ok (.aload_n 0, 1) := by decide +kernel
theorem d8_1 : fet 8 1 = .ok (.invokespecial 1, 3) := by decide +kernel
theorem d8_4 : fet 8 4 = .ok (.aload_n 0, 1) := by decide +kernel
theorem d8_5 : fet 8 5 = .ok (.iload_n 1, 1) := by decide +kernel
theorem d8_6 : fet 8 6 = .ok (.putfield 7, 3) := by decide +kernel
theorem d8_9 : fet 8 9 = .ok (.aload_n 0, 1) := by decide +kernel
theorem d8_10 : fet 8 10 = .ok (.iload_n 2, 1) := by decide +kernel
theorem d8_11 : fet 8 11 = .ok (.putfield 13, 3) := by decide +kernel
theorem d8_14 : fet 8 14 = .ok (.aload_n 0, 1) := by decide +kernel
theorem d8_15 : fet 8 15 = .ok (.iload_n 3, 1) := by decide +kernel
theorem d8_16 : fet 8 16 = .ok (.putfield 16, 3) := by decide +kernel
theorem d8_19 : fet 8 19 = .ok (.aload_n 0, 1) := by decide +kernel
theorem d8_20 : fet 8 20 = .ok (.iload 4, 2) := by decide +kernel
theorem d8_22 : fet 8 22 = .ok (.putfield 19, 3) := by decide +kernel
theorem d8_25 : fet 8 25 = .ok (.return_, 1) := by decide +kernel
theorem o9 : own 9 = RX3 := by decide +kernel
theorem d9_0 : fet 9 0 = .ok (.aload_n 0, 1) := by decide +kernel
theorem d9_1 : fet 9 1 = .ok (.getfield 13, 3) := by decide +kernel
theorem d9_4 : fet 9 4 = .ok (.ifCond .le 12, 3) := by decide +kernel
theorem d9_7 : fet 9 7 = .ok (.iload_n 1, 1) := by decide +kernel
theorem d9_8 : fet 9 8 = .ok (.aload_n 0, 1) := by decide +kernel
theorem d9_9 : fet 9 9 = .ok (.getfield 13, 3) := by decide +kernel
theorem d9_12 : fet 9 12 = .ok (.idiv, 1) := by decide +kernel
theorem d9_13 : fet 9 13 = .ok (.goto 4, 3) := by decide +kernel
theorem d9_16 : fet 9 16 = .ok (.iconst 0, 1) := by decide +kernel
theorem d9_17 : fet 9 17 = .ok (.ireturn, 1) := by decide +kernel
theorem o10 : own 10 = RX3 := by decide +kernel
theorem d10_0 : fet 10 0 = .ok (.iconst 0, 1) := by decide +kernel
theorem d10_1 : fet 10 1 = .ok (.ireturn, 1) := by decide +kernel
theorem o11 : own 11 = RX3 := by decide +kernel
theorem d11_0 : fet 11 0 = .ok (.aload_n 2, 1) := by decide +kernel
theorem d11_1 : fet 11 1 = .ok (.bipush 10, 2) := by decide +kernel
theorem d11_3 : fet 11 3 = .ok (.invokevirtual 22, 3) := by decide +kernel
theorem d11_6 : fet 11 6 = .ok (.aload_n 1, 1) := by decide +kernel
theorem d11_7 : fet 11 7 = .ok (.getfield 28, 3) := by decide +kernel
theorem d11_10 : fet 11 10 = .ok (.ireturn, 1) := by decide +kernel
theorem o12 : own 12 = RX3 := by decide +kernel
theorem d12_0 : fet 12 0 = .ok (.aload_n 2, 1) := by decide +kernel
theorem d12_1 : fet 12 1 = .ok (.bipush 20, 2) := by decide +kernel
theorem d12_3 : fet 12 3 = .ok (.invokevirtual 22, 3) := by decide +kernel
theorem d12_6 : fet 12 6 = .ok (.aload_n 1, 1) := by decide +kernel
theorem d12_7 : fet 12 7 = .ok (.getfield 33, 3) := by decide +kernel
theorem d12_10 : fet 12 10 = .ok (.ireturn, 1) := by decide +kernel
theorem o13 : own 13 = RX4 := by decide +kernel
theorem d13_0 : fet 13 0 = .ok (.aload_n 0, 1) := by decide +kernel
theorem d13_1 : fet 13 1 = .ok (.invokespecial 3, 3) := by decide +kernel
theorem d13_4 : fet 13 4 = .ok (.aload_n 0, 1) := by decide +kernel
theorem d13_5 : fet 13 5 = .ok (.sipush 160, 3) := by decide +kernel
theorem d13_8 : fet 13 8 = .ok (.newarray .int, 2) := by decide +kernel
theorem d13_10 : fet 13 10 = .ok (.putfield 11, 3) := by decide +kernel
theorem d13_13 : fet 13 13 = .ok (.return_, 1) := by decide +kernel
theorem o14 : own 14 = RX4 := by decide +kernel
theorem d14_0 : fet 14 0 = .ok (.aload_n 0, 1) := by decide +kernel
theorem d14_1 : fet 14 1 = .ok (.getfield 15, 3) := by decide +kernel
theorem d14_4 : fet 14 4 = .ok (.sipush 160, 3) := by decide +kernel
theorem d14_7 : fet 14 7 = .ok (.if_icmp .lt 5, 3) := by decide +kernel
theorem d14_10 : fet 14 10 = .ok (.iconst 0, 1) := by decide +kernel
theorem d14_11 : fet 14 11 = .ok (.ireturn, 1) := by decide +kernel
theorem d14_12 : fet 14 12 = .ok (.aload_n 0, 1) := by decide +kernel
theorem d14_13 : fet 14 13 = .ok (.getfield 11, 3) := by decide +kernel
theorem d14_16 : fet 14 16 = .ok (.aload_n 0, 1) := by decide +kernel
theorem d14_17 : fet 14 17 = .ok (.getfield 15, 3) := by decide +kernel
theorem d14_20 : fet 14 20 = .ok (.iload_n 1, 1) := by decide +kernel
theorem d14_21 : fet 14 21 = .ok (.iastore, 1) := by decide +kernel
theorem d14_22 : fet 14 22 = .ok (.aload_n 0, 1) := by decide +kernel
theorem d14_23 : fet 14 23 = .ok (.dup, 1) := by decide +kernel
theorem d14_24 : fet 14 24 = .ok (.getfield 15, 3) := by decide +kernel
theorem d14_27 : fet 14 27 = .ok (.iconst 1, 1) := by decide +kernel
theorem d14_28 : fet 14 28 = .ok (.iadd, 1) := by decide +kernel
theorem d14_29 : fet 14 29 = .ok (.putfield 15, 3) := by decide +kernel
theorem d14_32 : fet 14 32 = .ok (.iconst 1, 1) := by decide +kernel
theorem d14_33 : fet 14 33 = .ok (.ireturn, 1) := by decide +kernel
theorem o15 : own 15 = RX4 := by decide +kernel
theorem d15_0 : fet 15 0 = .ok (.aload_n 0, 1) := by decide +kernel
theorem d15_1 : fet 15 1 = .ok (.iconst 0, 1) := by decide +kernel
theorem d15_2 : fet 15 2 = .ok (.putfield 19, 3) := by decide +kernel
theorem d15_5 : fet 15 5 = .ok (.aload_n 0, 1) := by decide +kernel
theorem d15_6 : fet 15 6 = .ok (.iconst 0, 1) := by decide +kernel
theorem d15_7 : fet 15 7 = .ok (.putfield 22, 3) := by decide +kernel
theorem d15_10 : fet 15 10 = .ok (.aload_n 1, 1) := by decide +kernel
theorem d15_11 : fet 15 11 = .ok (.invokevirtual 26, 3) := by decide +kernel
theorem d15_14 : fet 15 14 = .ok (.aload_n 0, 1) := by decide +kernel
theorem d15_15 : fet 15 15 = .ok (.aload_n 1, 1) := by decide +kernel
theorem d15_16 : fet 15 16 = .ok (.invokevirtual 31, 3) := by decide +kernel
theorem d15_19 : fet 15 19 = .ok (.iconst 0, 1) := by decide +kernel
theorem d15_20 : fet 15 20 = .ok (.istore_n 2, 1) := by decide +kernel
theorem d15_21 : fet 15 21 = .ok (.iload_n 2, 1) := by decide +kernel
theorem d15_22 : fet 15 22 = .ok (.bipush 8, 2) := by decide +kernel
theorem d15_24 : fet 15 24 = .ok (.if_icmp .gt 30, 3) := by decide +kernel
theorem d15_27 : fet 15 27 = .ok (.aload_n 0, 1) := by decide +kernel
theorem d15_28 : fet 15 28 = .ok (.getfield 22, 3) := by decide +kernel
theorem d15_31 : fet 15 31 = .ok (.ifCond .ne 23, 3) := by decide +kernel
theorem d15_34 : fet 15 34 = .ok (.aload_n 0, 1) := by decide +kernel
theorem d15_35 : fet 15 35 = .ok (.invokevirtual 35, 3) := by decide +kernel
theorem d15_38 : fet 15 38 = .ok (.bipush 99, 2) := by decide +kernel
theorem d15_40 : fet 15 40 = .ok (.if_icmp .ne 14, 3) := by decide +kernel
theorem d15_43 : fet 15 43 = .ok (.aload_n 0, 1) := by decide +kernel
theorem d15_44 : fet 15 44 = .ok (.aload_n 1, 1) := by decide +kernel
theorem d15_45 : fet 15 45 = .ok (.invokevirtual 39, 3) := by decide +kernel
theorem d15_48 : fet 15 48 = .ok (.iinc 2 1, 3) := by decide +kernel
theorem d15_51 : fet 15 51 = .ok (.goto (-30), 3) := by decide +kernel
theorem d15_54 : fet 15 54 = .ok (.iconst 0, 1) := by decide +kernel
theorem d15_55 : fet 15 55 = .ok (.istore_n 2, 1) := by decide +kernel
theorem d15_56 : fet 15 56 = .ok (.iload_n 2, 1) := by decide +kernel
theorem d15_57 : fet 15 57 = .ok (.bipush 6, 2) := by decide +kernel
theorem d15_59 : fet 15 59 = .ok (.if_icmp .gt 33, 3) := by decide +kernel
theorem d15_62 : fet 15 62 = .ok (.aload_n 0, 1) := by decide +kernel
theorem d15_63 : fet 15 63 = .ok (.getfield 22, 3) := by decide +kernel
theorem d15_66 : fet 15 66 = .ok (.ifCond .ne 26, 3) := by decide +kernel
theorem d15_69 : fet 15 69 = .ok (.aload_n 0, 1) := by decide +kernel
theorem d15_70 : fet 15 70 = .ok (.invokevirtual 35, 3) := by decide +kernel
theorem d15_73 : fet 15 73 = .ok (.invokestatic 42, 3) := by decide +kernel
theorem d15_76 : fet 15 76 = .ok (.ldc 46, 2) := by decide +kernel
theorem d15_78 : fet 15 78 = .ok (.if_icmp .eq 14, 3) := by decide +kernel
theorem d15_81 : fet 15 81 = .ok (.aload_n 0, 1) := by decide +kernel
theorem d15_82 : fet 15 82 = .ok (.aload_n 1, 1) := by decide +kernel
theorem d15_83 : fet 15 83 = .ok (.invokevirtual 47, 3) := by decide +kernel
theorem d15_86 : fet 15 86 = .ok (.iinc 2 1, 3) := by decide +kernel
theorem d15_89 : fet 15 89 = .ok (.goto (-33), 3) := by decide +kernel
theorem d15_92 : fet 15 92 = .ok (.iconst 0, 1) := by decide +kernel
theorem d15_93 : fet 15 93 = .ok (.istore_n 2, 1) := by decide +kernel
theorem d15_94 : fet 15 94 = .ok (.iload_n 2, 1) := by decide +kernel
theorem d15_95 : fet 15 95 = .ok (.iconst 4, 1) := by decide +kernel
theorem d15_96 : fet 15 96 = .ok (.if_icmp .gt 30, 3) := by decide +kernel
theorem d15_99 : fet 15 99 = .ok (.aload_n 0, 1) := by decide +kernel
theorem d15_100 : fet 15 100 = .ok (.getfield 22, 3) := by decide +kernel
theorem d15_103 : fet 15 103 = .ok (.ifCond .ne 23, 3) := by decide +kernel
theorem d15_106 : fet 15 106 = .ok (.aload_n 0, 1) := by decide +kernel
theorem d15_107 : fet 15 107 = .ok (.invokevirtual 35, 3) := by decide +kernel
theorem d15_110 : fet 15 110 = .ok (.bipush 101, 2) := by decide +kernel
theorem d15_112 : fet 15 112 = .ok (.if_icmp .ne 14, 3) := by decide +kernel
theorem d15_115 : fet 15 115 = .ok (.aload_n 0, 1) := by decide +kernel
theorem d15_116 : fet 15 116 = .ok (.aload_n 1, 1) := by decide +kernel
theorem d15_117 : fet 15 117 = .ok (.invokevirtual 50, 3) := by decide +kernel
theorem d15_120 : fet 15 120 = .ok (.iinc 2 1, 3) := by decide +kernel
theorem d15_123 : fet 15 123 = .ok (.goto (-29), 3) := by decide +kernel
theorem d15_126 : fet 15 126 = .ok (.aload_n 0, 1) := by decide +kernel
theorem d15_127 : fet 15 127 = .ok (.getfield 22, 3) := by decide +kernel
theorem d15_130 : fet 15 130 = .ok (.ifCond .ne 23, 3) := by decide +kernel
theorem d15_133 : fet 15 133 = .ok (.aload_n 0, 1) := by decide +kernel
theorem d15_134 : fet 15 134 = .ok (.getfield 19, 3) := by decide +kernel
theorem d15_137 : fet 15 137 = .ok (.aload_n 0, 1) := by decide +kernel
theorem d15_138 : fet 15 138 = .ok (.getfield 15, 3) := by decide +kernel
theorem d15_141 : fet 15 141 = .ok (.if_icmp .ge 12, 3) := by decide +kernel
theorem d15_144 : fet 15 144 = .ok (.aload_n 0, 1) := by decide +kernel
theorem d15_145 : fet 15 145 = .ok (.iconst 1, 1) := by decide +kernel
theorem d15_146 : fet 15 146 = .ok (.aload_n 0, 1) := by decide +kernel
theorem d15_147 : fet 15 147 = .ok (.getfield 19, 3) := by decide +kernel
theorem d15_150 : fet 15 150 = .ok (.invokevirtual 53, 3) := by decide +kernel
theorem d15_153 : fet 15 153 = .ok (.aload_n 0, 1) := by decide +kernel
theorem d15_154 : fet 15 154 = .ok (.getfield 22, 3) := by decide +kernel
theorem d15_157 : fet 15 157 = .ok (.ifCond .ne 7, 3) := by decide +kernel
theorem d15_160 : fet 15 160 = .ok (.iconst 1, 1) := by decide +kernel
theorem d15_161 : fet 15 161 = .ok (.goto 4, 3) := by decide +kernel
theorem d15_164 : fet 15 164 = .ok (.iconst 0, 1) := by decide +kernel
theorem d15_165 : fet 15 165 = .ok (.ireturn, 1) := by decide +kernel
theorem o16 : own 16 = RX4 := by decide +kernel
theorem d16_0 : fet 16 0 = .ok (.aload_n 0, 1) := by decide +kernel
theorem d16_1 : fet 16 1 = .ok (.bipush 103, 2) := by decide +kernel
theorem d16_3 : fet 16 3 = .ok (.invokevirtual 57, 3) := by decide +kernel
theorem d16_6 : fet 16 6 = .ok (.aload_n 1, 1) := by decide +kernel
theorem d16_7 : fet 16 7 = .ok (.aload_n 0, 1) := by decide +kernel
theorem d16_8 : fet 16 8 = .ok (.iconst 1, 1) := by decide +kernel
theorem d16_9 : fet 16 9 = .ok (.bipush 30, 2) := by decide +kernel
theorem d16_11 : fet 16 11 = .ok (.invokevirtual 61, 3) := by decide +kernel
theorem d16_14 : fet 16 14 = .ok (.putfield 65, 3) := by decide +kernel
theorem d16_17 : fet 16 17 = .ok (.aload_n 0, 1) := by decide +kernel
theorem d16_18 : fet 16 18 = .ok (.bipush 44, 2) := by decide +kernel
theorem d16_20 : fet 16 20 = .ok (.invokevirtual 57, 3) := by decide +kernel
theorem d16_23 : fet 16 23 = .ok (.aload_n 1, 1) := by decide +kernel
theorem d16_24 : fet 16 24 = .ok (.aload_n 0, 1) := by decide +kernel
theorem d16_25 : fet 16 25 = .ok (.iconst 0, 1) := by decide +kernel
theorem d16_26 : fet 16 26 = .ok (.bipush 9, 2) := by decide +kernel
theorem d16_28 : fet 16 28 = .ok (.invokevirtual 61, 3) := by decide +kernel
theorem d16_31 : fet 16 31 = .ok (.putfield 68, 3) := by decide +kernel
theorem d16_34 : fet 16 34 = .ok (.aload_n 0, 1) := by decide +kernel
theorem d16_35 : fet 16 35 = .ok (.bipush 59, 2) := by decide +kernel
theorem d16_37 : fet 16 37 = .ok (.invokevirtual 57, 3) := by decide +kernel
theorem d16_40 : fet 16 40 = .ok (.return_, 1) := by decide +kernel
theorem o17 : own 17 = RX4 := by decide +kernel
theorem d17_0 : fet 17 0 = .ok (.aload_n 1, 1) := by decide +kernel
theorem d17_1 : fet 17 1 = .ok (.getfield 71, 3) := by decide +kernel
theorem d17_4 : fet 17 4 = .ok (.bipush 8, 2) := by decide +kernel
theorem d17_6 : fet 17 6 = .ok (.if_icmp .lt 13, 3) := by decide +kernel
theorem d17_9 : fet 17 9 = .ok (.aload_n 0, 1) := by decide +kernel
theorem d17_10 : fet 17 10 = .ok (.iconst 3, 1) := by decide +kernel
theorem d17_11 : fet 17 11 = .ok (.aload_n 0, 1) := by decide +kernel
theorem d17_12 : fet 17 12 = .ok (.getfield 19, 3) := by decide +kernel
theorem d17_15 : fet 17 15 = .ok (.invokevirtual 53, 3) := by decide +kernel
theorem d17_18 : fet 17 18 = .ok (.return_, 1) := by decide +kernel
theorem d17_19 : fet 17 19 = .ok (.aload_n 0, 1) := by decide +kernel
theorem d17_20 : fet 17 20 = .ok (.bipush 99, 2) := by decide +kernel
theorem d17_22 : fet 17 22 = .ok (.invokevirtual 57, 3) := by decide +kernel
theorem d17_25 : fet 17 25 = .ok (.aload_n 0, 1) := by decide +kernel
theorem d17_26 : fet 17 26 = .ok (.iconst 0, 1) := by decide +kernel
theorem d17_27 : fet 17 27 = .ok (.bipush 11, 2) := by decide +kernel
theorem d17_29 : fet 17 29 = .ok (.invokevirtual 61, 3) := by decide +kernel
theorem d17_32 : fet 17 32 = .ok (.istore_n 2, 1) := by decide +kernel
theorem d17_33 : fet 17 33 = .ok (.aload_n 0, 1) := by decide +kernel
theorem d17_34 : fet 17 34 = .ok (.bipush 44, 2) := by decide +kernel
theorem d17_36 : fet 17 36 = .ok (.invokevirtual 57, 3) := by decide +kernel
theorem d17_39 : fet 17 39 = .ok (.aload_n 0, 1) := by decide +kernel
theorem d17_40 : fet 17 40 = .ok (.iconst 1, 1) := by decide +kernel
theorem d17_41 : fet 17 41 = .ok (.bipush 30, 2) := by decide +kernel
theorem d17_43 : fet 17 43 = .ok (.invokevirtual 61, 3) := by decide +kernel
theorem d17_46 : fet 17 46 = .ok (.istore_n 3, 1) := by decide +kernel
theorem d17_47 : fet 17 47 = .ok (.aload_n 0, 1) := by decide +kernel
theorem d17_48 : fet 17 48 = .ok (.bipush 59, 2) := by decide +kernel
theorem d17_50 : fet 17 50 = .ok (.invokevirtual 57, 3) := by decide +kernel
theorem d17_53 : fet 17 53 = .ok (.aload_n 1, 1) := by decide +kernel
theorem d17_54 : fet 17 54 = .ok (.iload_n 2, 1) := by decide +kernel
theorem d17_55 : fet 17 55 = .ok (.iload_n 3, 1) := by decide +kernel
theorem d17_56 : fet 17 56 = .ok (.iconst 0, 1) := by decide +kernel
theorem d17_57 : fet 17 57 = .ok (.invokevirtual 74, 3) := by decide +kernel
theorem d17_60 : fet 17 60 = .ok (.return_, 1) := by decide +kernel
theorem o18 : own 18 = RX4 := by decide +kernel
theorem d18_0 : fet 18 0 = .ok (.aload_n 1, 1) := by decide +kernel
theorem d18_1 : fet 18 1 = .ok (.getfield 78, 3) := by decide +kernel
theorem d18_4 : fet 18 4 = .ok (.bipush 6, 2) := by decide +kernel
theorem d18_6 : fet 18 6 = .ok (.if_icmp .lt 13, 3) := by decide +kernel
theorem d18_9 : fet 18 9 = .ok (.aload_n 0, 1) := by decide +kernel
theorem d18_10 : fet 18 10 = .ok (.iconst 3, 1) := by decide +kernel
theorem d18_11 : fet 18 11 = .ok (.aload_n 0, 1) := by decide +kernel
theorem d18_12 : fet 18 12 = .ok (.getfield 19, 3) := by decide +kernel
theorem d18_15 : fet 18 15 = .ok (.invokevirtual 53, 3) := by decide +kernel
theorem d18_18 : fet 18 18 = .ok (.return_, 1) := by decide +kernel
theorem d18_19 : fet 18 19 = .ok (.aload_n 0, 1) := by decide +kernel
theorem d18_20 : fet 18 20 = .ok (.invokevirtual 81, 3) := by decide +kernel
theorem d18_23 : fet 18 23 = .ok (.istore_n 2, 1) := by decide +kernel
theorem d18_24 : fet 18 24 = .ok (.aload_n 0, 1) := by decide +kernel
theorem d18_25 : fet 18 25 = .ok (.getfield 19, 3) := by decide +kernel
theorem d18_28 : fet 18 28 = .ok (.istore_n 3, 1) := by decide +kernel
theorem d18_29 : fet 18 29 = .ok (.aload_n 0, 1) := by decide +kernel
theorem d18_30 : fet 18 30 = .ok (.iconst 0, 1) := by decide +kernel
theorem d18_31 : fet 18 31 = .ok (.bipush 12, 2) := by decide +kernel
theorem d18_33 : fet 18 33 = .ok (.invokevirtual 61, 3) := by decide +kernel
theorem d18_36 : fet 18 36 = .ok (.istore 4, 2) := by decide +kernel
theorem d18_38 : fet 18 38 = .ok (.aload_n 0, 1) := by decide +kernel
theorem d18_39 : fet 18 39 = .ok (.getfield 22, 3) := by decide +kernel
theorem d18_42 : fet 18 42 = .ok (.ifCond .ne 18, 3) := by decide +kernel
theorem d18_45 : fet 18 45 = .ok (.aload_n 1, 1) := by decide +kernel
theorem d18_46 : fet 18 46 = .ok (.iload 4, 2) := by decide +kernel
theorem d18_48 : fet 18 48 = .ok (.invokevirtual 84, 3) := by decide +kernel
theorem d18_51 : fet 18 51 = .ok (.ifnull 9, 3) := by decide +kernel
theorem d18_54 : fet 18 54 = .ok (.aload_n 0, 1) := by decide +kernel
theorem d18_55 : fet 18 55 = .ok (.iconst 2, 1) := by decide +kernel
theorem d18_56 : fet 18 56 = .ok (.iload_n 3, 1) := by decide +kernel
theorem d18_57 : fet 18 57 = .ok (.invokevirtual 53, 3) := by decide +kernel
theorem d18_60 : fet 18 60 = .ok (.aload_n 0, 1) := by decide +kernel
theorem d18_61 : fet 18 61 = .ok (.bipush 59, 2) := by decide +kernel
theorem d18_63 : fet 18 63 = .ok (.invokevirtual 57, 3) := by decide +kernel
theorem d18_66 : fet 18 66 = .ok (.aload_n 1, 1) := by decide +kernel
theorem d18_67 : fet 18 67 = .ok (.iload_n 2, 1) := by decide +kernel
theorem d18_68 : fet 18 68 = .ok (.iload 4, 2) := by decide +kernel
theorem d18_70 : fet 18 70 = .ok (.invokevirtual 88, 3) := by decide +kernel
theorem d18_73 : fet 18 73 = .ok (.return_, 1) := by decide +kernel
theorem o19 : own 19 = RX4 := by decide +kernel
theorem d19_0 : fet 19 0 = .ok (.aload_n 1, 1) := by decide +kernel
theorem d19_1 : fet 19 1 = .ok (.getfield 91, 3) := by decide +kernel
theorem d19_4 : fet 19 4 = .ok (.iconst 4, 1) := by decide +kernel
theorem d19_5 : fet 19 5 = .ok (.if_icmp .lt 13, 3) := by decide +kernel
theorem d19_8 : fet 19 8 = .ok (.aload_n 0, 1) := by decide +kernel
theorem d19_9 : fet 19 9 = .ok (.iconst 3, 1) := by decide +kernel
theorem d19_10 : fet 19 10 = .ok (.aload_n 0, 1) := by decide +kernel
theorem d19_11 : fet 19 11 = .ok (.getfield 19, 3) := by decide +kernel
theorem d19_14 : fet 19 14 = .ok (.invokevirtual 53, 3) := by decide +kernel
theorem d19_17 : fet 19 17 = .ok (.return_, 1) := by decide +kernel
theorem d19_18 : fet 19 18 = .ok (.aload_n 0, 1) := by decide +kernel
theorem d19_19 : fet 19 19 = .ok (.bipush 101, 2) := by decide +kernel
theorem d19_21 : fet 19 21 = .ok (.invokevirtual 57, 3) := by decide +kernel
theorem d19_24 : fet 19 24 = .ok (.aload_n 0, 1) := by decide +kernel
theorem d19_25 : fet 19 25 = .ok (.invokevirtual 81, 3) := by decide +kernel
theorem d19_28 : fet 19 28 = .ok (.istore_n 2, 1) := by decide +kernel
theorem d19_29 : fet 19 29 = .ok (.aload_n 0, 1) := by decide +kernel
theorem d19_30 : fet 19 30 = .ok (.iconst 0, 1) := by decide +kernel
theorem d19_31 : fet 19 31 = .ok (.bipush 60, 2) := by decide +kernel
theorem d19_33 : fet 19 33 = .ok (.invokevirtual 61, 3) := by decide +kernel
theorem d19_36 : fet 19 36 = .ok (.istore_n 3, 1) := by decide +kernel
theorem d19_37 : fet 19 37 = .ok (.aload_n 0, 1) := by decide +kernel
theorem d19_38 : fet 19 38 = .ok (.bipush 59, 2) := by decide +kernel
theorem d19_40 : fet 19 40 = .ok (.invokevirtual 57, 3) := by decide +kernel
theorem d19_43 : fet 19 43 = .ok (.aload_n 1, 1) := by decide +kernel
theorem d19_44 : fet 19 44 = .ok (.iload_n 2, 1) := by decide +kernel
theorem d19_45 : fet 19 45 = .ok (.iload_n 3, 1) := by decide +kernel
theorem d19_46 : fet 19 46 = .ok (.invokevirtual 94, 3) := by decide +kernel
theorem d19_49 : fet 19 49 = .ok (.return_, 1) := by decide +kernel
theorem o20 : own 20 = RX4 := by decide +kernel
theorem d20_0 : fet 20 0 = .ok (.aload_n 0, 1) := by decide +kernel
theorem d20_1 : fet 20 1 = .ok (.getfield 19, 3) := by decide +kernel
theorem d20_4 : fet 20 4 = .ok (.aload_n 0, 1) := by decide +kernel
theorem d20_5 : fet 20 5 = .ok (.getfield 15, 3) := by decide +kernel
theorem d20_8 : fet 20 8 = .ok (.if_icmp .ge 15, 3) := by decide +kernel
theorem d20_11 : fet 20 11 = .ok (.aload_n 0, 1) := by decide +kernel
theorem d20_12 : fet 20 12 = .ok (.getfield 11, 3) := by decide +kernel
theorem d20_15 : fet 20 15 = .ok (.aload_n 0, 1) := by decide +kernel
theorem d20_16 : fet 20 16 = .ok (.getfield 19, 3) := by decide +kernel
theorem d20_19 : fet 20 19 = .ok (.iaload, 1) := by decide +kernel
theorem d20_20 : fet 20 20 = .ok (.goto 4, 3) := by decide +kernel
theorem d20_23 : fet 20 23 = .ok (.iconst (-1), 1) := by decide +kernel
theorem d20_24 : fet 20 24 = .ok (.ireturn, 1) := by decide +kernel
theorem o21 : own 21 = RX4 := by decide +kernel
theorem d21_0 : fet 21 0 = .ok (.aload_n 0, 1) := by decide +kernel
theorem d21_1 : fet 21 1 = .ok (.invokevirtual 35, 3) := by decide +kernel
theorem d21_4 : fet 21 4 = .ok (.iload_n 1, 1) := by decide +kernel
theorem d21_5 : fet 21 5 = .ok (.if_icmp .ne 16, 3) := by decide +kernel
theorem d21_8 : fet 21 8 = .ok (.aload_n 0, 1) := by decide +kernel
theorem d21_9 : fet 21 9 = .ok (.dup, 1) := by decide +kernel
theorem d21_10 : fet 21 10 = .ok (.getfield 19, 3) := by decide +kernel
theorem d21_13 : fet 21 13 = .ok (.iconst 1, 1) := by decide +kernel
theorem d21_14 : fet 21 14 = .ok (.iadd, 1) := by decide +kernel
theorem d21_15 : fet 21 15 = .ok (.putfield 19, 3) := by decide +kernel
theorem d21_18 : fet 21 18 = .ok (.goto 12, 3) := by decide +kernel
theorem d21_21 : fet 21 21 = .ok (.aload_n 0, 1) := by decide +kernel
theorem d21_22 : fet 21 22 = .ok (.iconst 1, 1) := by decide +kernel
theorem d21_23 : fet 21 23 = .ok (.aload_n 0, 1) := by decide +kernel
theorem d21_24 : fet 21 24 = .ok (.getfield 19, 3) := by decide +kernel
theorem d21_27 : fet 21 27 = .ok (.invokevirtual 53, 3) := by decide +kernel
theorem d21_30 : fet 21 30 = .ok (.return_, 1) := by decide +kernel
theorem o22 : own 22 = RX4 := by decide +kernel
theorem d22_0 : fet 22 0 = .ok (.aload_n 0, 1) := by decide +kernel
theorem d22_1 : fet 22 1 = .ok (.invokevirtual 35, 3) := by decide +kernel
theorem d22_4 : fet 22 4 = .ok (.invokestatic 42, 3) := by decide +kernel
theorem d22_7 : fet 22 7 = .ok (.istore_n 1, 1) := by decide +kernel
theorem d22_8 : fet 22 8 = .ok (.iload_n 1, 1) := by decide +kernel
theorem d22_9 : fet 22 9 = .ok (.ldc 46, 2) := by decide +kernel
theorem d22_11 : fet 22 11 = .ok (.if_icmp .ne 14, 3) := by decide +kernel
theorem d22_14 : fet 22 14 = .ok (.aload_n 0, 1) := by decide +kernel
theorem d22_15 : fet 22 15 = .ok (.iconst 1, 1) := by decide +kernel
theorem d22_16 : fet 22 16 = .ok (.aload_n 0, 1) := by decide +kernel
theorem d22_17 : fet 22 17 = .ok (.getfield 19, 3) := by decide +kernel
theorem d22_20 : fet 22 20 = .ok (.invokevirtual 53, 3) := by decide +kernel
theorem d22_23 : fet 22 23 = .ok (.iconst 0, 1) := by decide +kernel
theorem d22_24 : fet 22 24 = .ok (.ireturn, 1) := by decide +kernel
theorem d22_25 : fet 22 25 = .ok (.aload_n 0, 1) := by decide +kernel
theorem d22_26 : fet 22 26 = .ok (.dup, 1) := by decide +kernel
theorem d22_27 : fet 22 27 = .ok (.getfield 19, 3) := by decide +kernel
theorem d22_30 : fet 22 30 = .ok (.iconst 1, 1) := by decide +kernel
theorem d22_31 : fet 22 31 = .ok (.iadd, 1) := by decide +kernel
theorem d22_32 : fet 22 32 = .ok (.putfield 19, 3) := by decide +kernel
theorem d22_35 : fet 22 35 = .ok (.iload_n 1, 1) := by decide +kernel
theorem d22_36 : fet 22 36 = .ok (.ireturn, 1) := by decide +kernel
theorem o23 : own 23 = RX4 := by decide +kernel
theorem d23_0 : fet 23 0 = .ok (.aload_n 0, 1) := by decide +kernel
theorem d23_1 : fet 23 1 = .ok (.getfield 19, 3) := by decide +kernel
theorem d23_4 : fet 23 4 = .ok (.istore_n 3, 1) := by decide +kernel
theorem d23_5 : fet 23 5 = .ok (.iconst 0, 1) := by decide +kernel
theorem d23_6 : fet 23 6 = .ok (.istore 4, 2) := by decide +kernel
theorem d23_8 : fet 23 8 = .ok (.iconst 0, 1) := by decide +kernel
theorem d23_9 : fet 23 9 = .ok (.istore 5, 2) := by decide +kernel
theorem d23_11 : fet 23 11 = .ok (.iload 5, 2) := by decide +kernel
theorem d23_13 : fet 23 13 = .ok (.iconst 3, 1) := by decide +kernel
theorem d23_14 : fet 23 14 = .ok (.if_icmp .ge 44, 3) := by decide +kernel
theorem d23_17 : fet 23 17 = .ok (.aload_n 0, 1) := by decide +kernel
theorem d23_18 : fet 23 18 = .ok (.invokevirtual 35, 3) := by decide +kernel
theorem d23_21 : fet 23 21 = .ok (.invokestatic 97, 3) := by decide +kernel
theorem d23_24 : fet 23 24 = .ok (.ifCond .eq 34, 3) := by decide +kernel
theorem d23_27 : fet 23 27 = .ok (.iload 4, 2) := by decide +kernel
theorem d23_29 : fet 23 29 = .ok (.bipush 10, 2) := by decide +kernel
theorem d23_31 : fet 23 31 = .ok (.imul, 1) := by decide +kernel
theorem d23_32 : fet 23 32 = .ok (.aload_n 0, 1) := by decide +kernel
theorem d23_33 : fet 23 33 = .ok (.invokevirtual 35, 3) := by decide +kernel
theorem d23_36 : fet 23 36 = .ok (.iadd, 1) := by decide +kernel
theorem d23_37 : fet 23 37 = .ok (.bipush 48, 2) := by decide +kernel
theorem d23_39 : fet 23 39 = .ok (.isub, 1) := by decide +kernel
theorem d23_40 : fet 23 40 = .ok (.istore 4, 2) := by decide +kernel
theorem d23_42 : fet 23 42 = .ok (.aload_n 0, 1) := by decide +kernel
theorem d23_43 : fet 23 43 = .ok (.dup, 1) := by decide +kernel
theorem d23_44 : fet 23 44 = .ok (.getfield 19, 3) := by decide +kernel
theorem d23_47 : fet 23 47 = .ok (.iconst 1, 1) := by decide +kernel
theorem d23_48 : fet 23 48 = .ok (.iadd, 1) := by decide +kernel
theorem d23_49 : fet 23 49 = .ok (.putfield 19, 3) := by decide +kernel
theorem d23_52 : fet 23 52 = .ok (.iinc 5 1, 3) := by decide +kernel
theorem d23_55 : fet 23 55 = .ok (.goto (-44), 3) := by decide +kernel
theorem d23_58 : fet 23 58 = .ok (.aload_n 0, 1) := by decide +kernel
theorem d23_59 : fet 23 59 = .ok (.getfield 19, 3) := by decide +kernel
theorem d23_62 : fet 23 62 = .ok (.iload_n 3, 1) := by decide +kernel
theorem d23_63 : fet 23 63 = .ok (.isub, 1) := by decide +kernel
theorem d23_64 : fet 23 64 = .ok (.istore 5, 2) := by decide +kernel
theorem d23_66 : fet 23 66 = .ok (.iload 5, 2) := by decide +kernel
theorem d23_68 : fet 23 68 = .ok (.iconst 1, 1) := by decide +kernel
theorem d23_69 : fet 23 69 = .ok (.if_icmp .lt 9, 3) := by decide +kernel
theorem d23_72 : fet 23 72 = .ok (.iload 5, 2) := by decide +kernel
theorem d23_74 : fet 23 74 = .ok (.iconst 2, 1) := by decide +kernel
theorem d23_75 : fet 23 75 = .ok (.if_icmp .le 12, 3) := by decide +kernel
theorem d23_78 : fet 23 78 = .ok (.aload_n 0, 1) := by decide +kernel
theorem d23_79 : fet 23 79 = .ok (.iconst 1, 1) := by decide +kernel
theorem d23_80 : fet 23 80 = .ok (.iload_n 3, 1) := by decide +kernel
theorem d23_81 : fet 23 81 = .ok (.invokevirtual 53, 3) := by decide +kernel
theorem d23_84 : fet 23 84 = .ok (.goto 21, 3) := by decide +kernel
theorem d23_87 : fet 23 87 = .ok (.iload 4, 2) := by decide +kernel
theorem d23_89 : fet 23 89 = .ok (.iload_n 1, 1) := by decide +kernel
theorem d23_90 : fet 23 90 = .ok (.if_icmp .lt 9, 3) := by decide +kernel
theorem d23_93 : fet 23 93 = .ok (.iload 4, 2) := by decide +kernel
theorem d23_95 : fet 23 95 = .ok (.iload_n 2, 1) := by decide +kernel
theorem d23_96 : fet 23 96 = .ok (.if_icmp .le 9, 3) := by decide +kernel
theorem d23_99 : fet 23 99 = .ok (.aload_n 0, 1) := by decide +kernel
theorem d23_100 : fet 23 100 = .ok (.iconst 2, 1) := by decide +kernel
theorem d23_101 : fet 23 101 = .ok (.iload_n 3, 1) := by decide +kernel
theorem d23_102 : fet 23 102 = .ok (.invokevirtual 53, 3) := by decide +kernel
theorem d23_105 : fet 23 105 = .ok (.iload 4, 2) := by decide +kernel
theorem d23_107 : fet 23 107 = .ok (.ireturn, 1) := by decide +kernel
theorem o24 : own 24 = RX4 := by decide +kernel
theorem d24_0 : fet 24 0 = .ok (.aload_n 0, 1) := by decide +kernel
theorem d24_1 : fet 24 1 = .ok (.getfield 22, 3) := by decide +kernel
theorem d24_4 : fet 24 4 = .ok (.ifCond .ne 18, 3) := by decide +kernel
theorem d24_7 : fet 24 7 = .ok (.aload_n 0, 1) := by decide +kernel
theorem d24_8 : fet 24 8 = .ok (.iconst 1, 1) := by decide +kernel
theorem d24_9 : fet 24 9 = .ok (.putfield 22, 3) := by decide +kernel
theorem d24_12 : fet 24 12 = .ok (.aload_n 0, 1) := by decide +kernel
theorem d24_13 : fet 24 13 = .ok (.iload_n 1, 1) := by decide +kernel
theorem d24_14 : fet 24 14 = .ok (.putfield 101, 3) := by decide +kernel
theorem d24_17 : fet 24 17 = .ok (.aload_n 0, 1) := by decide +kernel
theorem d24_18 : fet 24 18 = .ok (.iload_n 2, 1) := by decide +kernel
theorem d24_19 : fet 24 19 = .ok (.putfield 104, 3) := by decide +kernel
theorem d24_22 : fet 24 22 = .ok (.return_, 1) := by decide +kernel
theorem o25 : own 25 = RX4 := by decide +kernel
theorem d25_0 : fet 25 0 = .ok (.iload_n 0, 1) := by decide +kernel
theorem d25_1 : fet 25 1 = .ok (.bipush 48, 2) := by decide +kernel
theorem d25_3 : fet 25 3 = .ok (.if_icmp .lt 13, 3) := by decide +kernel
theorem d25_6 : fet 25 6 = .ok (.iload_n 0, 1) := by decide +kernel
theorem d25_7 : fet 25 7 = .ok (.bipush 57, 2) := by decide +kernel
theorem d25_9 : fet 25 9 = .ok (.if_icmp .gt 7, 3) := by decide +kernel
theorem d25_12 : fet 25 12 = .ok (.iconst 1, 1) := by decide +kernel
theorem d25_13 : fet 25 13 = .ok (.goto 4, 3) := by decide +kernel
theorem d25_16 : fet 25 16 = .ok (.iconst 0, 1) := by decide +kernel
theorem d25_17 : fet 25 17 = .ok (.ireturn, 1) := by decide +kernel
theorem o26 : own 26 = RX4 := by decide +kernel
theorem d26_0 : fet 26 0 = .ok (.iload_n 0, 1) := by decide +kernel
theorem d26_1 : fet 26 1 = .ok (.lookupswitch 61 #[(100, 55), (104, 57), (107, 53), (109, 59), (119, 51)], 51) := by decide +kernel
theorem d26_52 : fet 26 52 = .ok (.iconst 1, 1) := by decide +kernel
theorem d26_53 : fet 26 53 = .ok (.ireturn, 1) := by decide +kernel
theorem d26_54 : fet 26 54 = .ok (.iconst 2, 1) := by decide +kernel
theorem d26_55 : fet 26 55 = .ok (.ireturn, 1) := by decide +kernel
theorem d26_56 : fet 26 56 = .ok (.iconst 3, 1) := by decide +kernel
theorem d26_57 : fet 26 57 = .ok (.ireturn, 1) := by decide +kernel
theorem d26_58 : fet 26 58 = .ok (.iconst 4, 1) := by decide +kernel
theorem d26_59 : fet 26 59 = .ok (.ireturn, 1) := by decide +kernel
theorem d26_60 : fet 26 60 = .ok (.iconst 5, 1) := by decide +kernel
theorem d26_61 : fet 26 61 = .ok (.ireturn, 1) := by decide +kernel
theorem d26_62 : fet 26 62 = .ok (.ldc 46, 2) := by decide +kernel
theorem d26_64 : fet 26 64 = .ok (.ireturn, 1) := by decide +kernel
theorem o27 : own 27 = RX5 := by decide +kernel
theorem d27_0 : fet 27 0 = .ok (.aload_n 0, 1) := by decide +kernel
theorem d27_1 : fet 27 1 = .ok (.invokespecial 1, 3) := by decide +kernel
theorem d27_4 : fet 27 4 = .ok (.aload_n 0, 1) := by decide +kernel
theorem d27_5 : fet 27 5 = .ok (.sipush 320, 3) := by decide +kernel
theorem d27_8 : fet 27 8 = .ok (.newarray .int, 2) := by decide +kernel
theorem d27_10 : fet 27 10 = .ok (.putfield 9, 3) := by decide +kernel
theorem d27_13 : fet 27 13 = .ok (.aload_n 0, 1) := by decide +kernel
theorem d27_14 : fet 27 14 = .ok (.bipush 8, 2) := by decide +kernel
theorem d27_16 : fet 27 16 = .ok (.newarray .int, 2) := by decide +kernel
theorem d27_18 : fet 27 18 = .ok (.putfield 13, 3) := by decide +kernel
theorem d27_21 : fet 27 21 = .ok (.aload_n 0, 1) := by decide +kernel
theorem d27_22 : fet 27 22 = .ok (.bipush 8, 2) := by decide +kernel
theorem d27_24 : fet 27 24 = .ok (.newarray .int, 2) := by decide +kernel
theorem d27_26 : fet 27 26 = .ok (.putfield 16, 3) := by decide +kernel
theorem d27_29 : fet 27 29 = .ok (.iconst 0, 1) := by decide +kernel
theorem d27_30 : fet 27 30 = .ok (.istore_n 1, 1) := by decide +kernel
theorem d27_31 : fet 27 31 = .ok (.iload_n 1, 1) := by decide +kernel
theorem d27_32 : fet 27 32 = .ok (.bipush 8, 2) := by decide +kernel
theorem d27_34 : fet 27 34 = .ok (.if_icmp .ge 16, 3) := by decide +kernel
theorem d27_37 : fet 27 37 = .ok (.aload_n 0, 1) := by decide +kernel
theorem d27_38 : fet 27 38 = .ok (.getfield 13, 3) := by decide +kernel
theorem d27_41 : fet 27 41 = .ok (.iload_n 1, 1) := by decide +kernel
theorem d27_42 : fet 27 42 = .ok (.iconst (-1), 1) := by decide +kernel
theorem d27_43 : fet 27 43 = .ok (.iastore, 1) := by decide +kernel
theorem d27_44 : fet 27 44 = .ok (.iinc 1 1, 3) := by decide +kernel
theorem d27_47 : fet 27 47 = .ok (.goto (-16), 3) := by decide +kernel
theorem d27_50 : fet 27 50 = .ok (.return_, 1) := by decide +kernel
theorem o28 : own 28 = RX5 := by decide +kernel
theorem d28_0 : fet 28 0 = .ok (.iload_n 1, 1) := by decide +kernel
theorem d28_1 : fet 28 1 = .ok (.ifCond .lt 13, 3) := by decide +kernel
theorem d28_4 : fet 28 4 = .ok (.iload_n 1, 1) := by decide +kernel
theorem d28_5 : fet 28 5 = .ok (.bipush 8, 2) := by decide +kernel
theorem d28_7 : fet 28 7 = .ok (.if_icmp .ge 7, 3) := by decide +kernel
theorem d28_10 : fet 28 10 = .ok (.iconst 1, 1) := by decide +kernel
theorem d28_11 : fet 28 11 = .ok (.goto 4, 3) := by decide +kernel
theorem d28_14 : fet 28 14 = .ok (.iconst 0, 1) := by decide +kernel
theorem d28_15 : fet 28 15 = .ok (.ireturn, 1) := by decide +kernel
theorem o29 : own 29 = RX5 := by decide +kernel
theorem d29_0 : fet 29 0 = .ok (.aload_n 0, 1) := by decide +kernel
theorem d29_1 : fet 29 1 = .ok (.getfield 13, 3) := by decide +kernel
theorem d29_4 : fet 29 4 = .ok (.iload_n 1, 1) := by decide +kernel
theorem d29_5 : fet 29 5 = .ok (.iaload, 1) := by decide +kernel
theorem d29_6 : fet 29 6 = .ok (.iconst (-1), 1) := by decide +kernel
theorem d29_7 : fet 29 7 = .ok (.if_icmp .ne 7, 3) := by decide +kernel
theorem d29_10 : fet 29 10 = .ok (.iconst 1, 1) := by decide +kernel
theorem d29_11 : fet 29 11 = .ok (.goto 4, 3) := by decide +kernel
theorem d29_14 : fet 29 14 = .ok (.iconst 0, 1) := by decide +kernel
theorem d29_15 : fet 29 15 = .ok (.ireturn, 1) := by decide +kernel
theorem o30 : own 30 = RX5 := by decide +kernel
theorem d30_0 : fet 30 0 = .ok (.aload_n 0, 1) := by decide +kernel
theorem d30_1 : fet 30 1 = .ok (.getfield 13, 3) := by decide +kernel
theorem d30_4 : fet 30 4 = .ok (.iload_n 1, 1) := by decide +kernel
theorem d30_5 : fet 30 5 = .ok (.iaload, 1) := by decide +kernel
theorem d30_6 : fet 30 6 = .ok (.aload_n 0, 1) := by decide +kernel
theorem d30_7 : fet 30 7 = .ok (.getfield 13, 3) := by decide +kernel
theorem d30_10 : fet 30 10 = .ok (.iload_n 2, 1) := by decide +kernel
theorem d30_11 : fet 30 11 = .ok (.iaload, 1) := by decide +kernel
theorem d30_12 : fet 30 12 = .ok (.if_icmp .ne 7, 3) := by decide +kernel
theorem d30_15 : fet 30 15 = .ok (.iconst 1, 1) := by decide +kernel
theorem d30_16 : fet 30 16 = .ok (.goto 4, 3) := by decide +kernel
theorem d30_19 : fet 30 19 = .ok (.iconst 0, 1) := by decide +kernel
theorem d30_20 : fet 30 20 = .ok (.ireturn, 1) := by decide +kernel
theorem o31 : own 31 = RX5 := by decide +kernel
theorem d31_0 : fet 31 0 = .ok (.iload_n 2, 1) := by decide +kernel
theorem d31_1 : fet 31 1 = .ok (.ifCond .lt 33, 3) := by decide +kernel
theorem d31_4 : fet 31 4 = .ok (.iload_n 3, 1) := by decide +kernel
theorem d31_5 : fet 31 5 = .ok (.ifCond .lt 29, 3) := by decide +kernel
theorem d31_8 : fet 31 8 = .ok (.iload_n 3, 1) := by decide +kernel
theorem d31_9 : fet 31 9 = .ok (.aload_n 0, 1) := by decide +kernel
theorem d31_10 : fet 31 10 = .ok (.getfield 16, 3) := by decide +kernel
theorem d31_13 : fet 31 13 = .ok (.iload_n 1, 1) := by decide +kernel
theorem d31_14 : fet 31 14 = .ok (.iaload, 1) := by decide +kernel
theorem d31_15 : fet 31 15 = .ok (.if_icmp .gt 19, 3) := by decide +kernel
theorem d31_18 : fet 31 18 = .ok (.iload_n 2, 1) := by decide +kernel
theorem d31_19 : fet 31 19 = .ok (.aload_n 0, 1) := by decide +kernel
theorem d31_20 : fet 31 20 = .ok (.getfield 16, 3) := by decide +kernel
theorem d31_23 : fet 31 23 = .ok (.iload_n 1, 1) := by decide +kernel
theorem d31_24 : fet 31 24 = .ok (.iaload, 1) := by decide +kernel
theorem d31_25 : fet 31 25 = .ok (.iload_n 3, 1) := by decide +kernel
theorem d31_26 : fet 31 26 = .ok (.isub, 1) := by decide +kernel
theorem d31_27 : fet 31 27 = .ok (.if_icmp .gt 7, 3) := by decide +kernel
theorem d31_30 : fet 31 30 = .ok (.iconst 1, 1) := by decide +kernel
theorem d31_31 : fet 31 31 = .ok (.goto 4, 3) := by decide +kernel
theorem d31_34 : fet 31 34 = .ok (.iconst 0, 1) := by decide +kernel
theorem d31_35 : fet 31 35 = .ok (.ireturn, 1) := by decide +kernel
theorem o32 : own 32 = RX5 := by decide +kernel
theorem d32_0 : fet 32 0 = .ok (.aload_n 0, 1) := by decide +kernel
theorem d32_1 : fet 32 1 = .ok (.getfield 13, 3) := by decide +kernel
theorem d32_4 : fet 32 4 = .ok (.iload_n 1, 1) := by decide +kernel
theorem d32_5 : fet 32 5 = .ok (.iload_n 2, 1) := by decide +kernel
theorem d32_6 : fet 32 6 = .ok (.iastore, 1) := by decide +kernel
theorem d32_7 : fet 32 7 = .ok (.aload_n 0, 1) := by decide +kernel
theorem d32_8 : fet 32 8 = .ok (.getfield 16, 3) := by decide +kernel
theorem d32_11 : fet 32 11 = .ok (.iload_n 1, 1) := by decide +kernel
theorem d32_12 : fet 32 12 = .ok (.iload_n 3, 1) := by decide +kernel
theorem d32_13 : fet 32 13 = .ok (.iastore, 1) := by decide +kernel
theorem d32_14 : fet 32 14 = .ok (.iconst 0, 1) := by decide +kernel
theorem d32_15 : fet 32 15 = .ok (.istore 4, 2) := by decide +kernel
theorem d32_17 : fet 32 17 = .ok (.iload 4, 2) := by decide +kernel
theorem d32_19 : fet 32 19 = .ok (.iload_n 3, 1) := by decide +kernel
theorem d32_20 : fet 32 20 = .ok (.if_icmp .ge 22, 3) := by decide +kernel
theorem d32_23 : fet 32 23 = .ok (.aload_n 0, 1) := by decide +kernel
theorem d32_24 : fet 32 24 = .ok (.getfield 9, 3) := by decide +kernel
theorem d32_27 : fet 32 27 = .ok (.iload_n 1, 1) := by decide +kernel
theorem d32_28 : fet 32 28 = .ok (.bipush 40, 2) := by decide +kernel
theorem d32_30 : fet 32 30 = .ok (.imul, 1) := by decide +kernel
theorem d32_31 : fet 32 31 = .ok (.iload 4, 2) := by decide +kernel
theorem d32_33 : fet 32 33 = .ok (.iadd, 1) := by decide +kernel
theorem d32_34 : fet 32 34 = .ok (.iconst 0, 1) := by decide +kernel
theorem d32_35 : fet 32 35 = .ok (.iastore, 1) := by decide +kernel
theorem d32_36 : fet 32 36 = .ok (.iinc 4 1, 3) := by decide +kernel
theorem d32_39 : fet 32 39 = .ok (.goto (-22), 3) := by decide +kernel
theorem d32_42 : fet 32 42 = .ok (.return_, 1) := by decide +kernel
theorem o33 : own 33 = RX5 := by decide +kernel
theorem d33_0 : fet 33 0 = .ok (.aload_n 0, 1) := by decide +kernel
theorem d33_1 : fet 33 1 = .ok (.getfield 9, 3) := by decide +kernel
theorem d33_4 : fet 33 4 = .ok (.iload_n 1, 1) := by decide +kernel
theorem d33_5 : fet 33 5 = .ok (.bipush 40, 2) := by decide +kernel
theorem d33_7 : fet 33 7 = .ok (.imul, 1) := by decide +kernel
theorem d33_8 : fet 33 8 = .ok (.iload_n 2, 1) := by decide +kernel
theorem d33_9 : fet 33 9 = .ok (.iadd, 1) := by decide +kernel
theorem d33_10 : fet 33 10 = .ok (.iaload, 1) := by decide +kernel
theorem d33_11 : fet 33 11 = .ok (.ireturn, 1) := by decide +kernel
theorem o34 : own 34 = RX5 := by decide +kernel
theorem d34_0 : fet 34 0 = .ok (.aload_n 0, 1) := by decide +kernel
theorem d34_1 : fet 34 1 = .ok (.getfield 13, 3) := by decide +kernel
theorem d34_4 : fet 34 4 = .ok (.iload_n 1, 1) := by decide +kernel
theorem d34_5 : fet 34 5 = .ok (.iaload, 1) := by decide +kernel
theorem d34_6 : fet 34 6 = .ok (.ifCond .ne 8, 3) := by decide +kernel
theorem d34_9 : fet 34 9 = .ok (.iload_n 3, 1) := by decide +kernel
theorem d34_10 : fet 34 10 = .ok (.i2b, 1) := by decide +kernel
theorem d34_11 : fet 34 11 = .ok (.goto 19, 3) := by decide +kernel
theorem d34_14 : fet 34 14 = .ok (.aload_n 0, 1) := by decide +kernel
theorem d34_15 : fet 34 15 = .ok (.getfield 13, 3) := by decide +kernel
theorem d34_18 : fet 34 18 = .ok (.iload_n 1, 1) := by decide +kernel
theorem d34_19 : fet 34 19 = .ok (.iaload, 1) := by decide +kernel
theorem d34_20 : fet 34 20 = .ok (.iconst 1, 1) := by decide +kernel
theorem d34_21 : fet 34 21 = .ok (.if_icmp .ne 8, 3) := by decide +kernel
theorem d34_24 : fet 34 24 = .ok (.iload_n 3, 1) := by decide +kernel
theorem d34_25 : fet 34 25 = .ok (.i2s, 1) := by decide +kernel
theorem d34_26 : fet 34 26 = .ok (.goto 4, 3) := by decide +kernel
theorem d34_29 : fet 34 29 = .ok (.iload_n 3, 1) := by decide +kernel
theorem d34_30 : fet 34 30 = .ok (.istore 4, 2) := by decide +kernel
theorem d34_32 : fet 34 32 = .ok (.aload_n 0, 1) := by decide +kernel
theorem d34_33 : fet 34 33 = .ok (.getfield 9, 3) := by decide +kernel
theorem d34_36 : fet 34 36 = .ok (.iload_n 1, 1) := by decide +kernel
theorem d34_37 : fet 34 37 = .ok (.bipush 40, 2) := by decide +kernel
theorem d34_39 : fet 34 39 = .ok (.imul, 1) := by decide +kernel
theorem d34_40 : fet 34 40 = .ok (.iload_n 2, 1) := by decide +kernel
theorem d34_41 : fet 34 41 = .ok (.iadd, 1) := by decide +kernel
theorem d34_42 : fet 34 42 = .ok (.iload 4, 2) := by decide +kernel
theorem d34_44 : fet 34 44 = .ok (.iastore, 1) := by decide +kernel
theorem d34_45 : fet 34 45 = .ok (.iload 4, 2) := by decide +kernel
theorem d34_47 : fet 34 47 = .ok (.ireturn, 1) := by decide +kernel
theorem o35 : own 35 = RX5 := by decide +kernel
theorem d35_0 : fet 35 0 = .ok (.aload_n 0, 1) := by decide +kernel
theorem d35_1 : fet 35 1 = .ok (.getfield 9, 3) := by decide +kernel
theorem d35_4 : fet 35 4 = .ok (.iload_n 1, 1) := by decide +kernel
theorem d35_5 : fet 35 5 = .ok (.bipush 40, 2) := by decide +kernel
theorem d35_7 : fet 35 7 = .ok (.imul, 1) := by decide +kernel
theorem d35_8 : fet 35 8 = .ok (.iload_n 2, 1) := by decide +kernel
theorem d35_9 : fet 35 9 = .ok (.iadd, 1) := by decide +kernel
theorem d35_10 : fet 35 10 = .ok (.aload_n 0, 1) := by decide +kernel
theorem d35_11 : fet 35 11 = .ok (.getfield 9, 3) := by decide +kernel
theorem d35_14 : fet 35 14 = .ok (.iload_n 3, 1) := by decide +kernel
theorem d35_15 : fet 35 15 = .ok (.bipush 40, 2) := by decide +kernel
theorem d35_17 : fet 35 17 = .ok (.imul, 1) := by decide +kernel
theorem d35_18 : fet 35 18 = .ok (.iload 4, 2) := by decide +kernel
theorem d35_20 : fet 35 20 = .ok (.iadd, 1) := by decide +kernel
theorem d35_21 : fet 35 21 = .ok (.iload 5, 2) := by decide +kernel
theorem d35_23 : fet 35 23 = .ok (.invokestatic 19, 3) := by decide +kernel
theorem d35_26 : fet 35 26 = .ok (.return_, 1) := by decide +kernel
theorem o36 : own 36 = RX5 := by decide +kernel
theorem d36_0 : fet 36 0 = .ok (.aload_n 0, 1) := by decide +kernel
theorem d36_1 : fet 36 1 = .ok (.getfield 13, 3) := by decide +kernel
theorem d36_4 : fet 36 4 = .ok (.iload_n 1, 1) := by decide +kernel
theorem d36_5 : fet 36 5 = .ok (.iconst (-1), 1) := by decide +kernel
theorem d36_6 : fet 36 6 = .ok (.iastore, 1) := by decide +kernel
theorem d36_7 : fet 36 7 = .ok (.aload_n 0, 1) := by decide +kernel
theorem d36_8 : fet 36 8 = .ok (.getfield 16, 3) := by decide +kernel
theorem d36_11 : fet 36 11 = .ok (.iload_n 1, 1) := by decide +kernel
theorem d36_12 : fet 36 12 = .ok (.iaload, 1) := by decide +kernel
theorem d36_13 : fet 36 13 = .ok (.ireturn, 1) := by decide +kernel
theorem o37 : own 37 = RX5 := by decide +kernel
theorem d37_0 : fet 37 0 = .ok (.iconst 0, 1) := by decide +kernel
theorem d37_1 : fet 37 1 = .ok (.istore_n 1, 1) := by decide +kernel
theorem d37_2 : fet 37 2 = .ok (.iconst 0, 1) := by decide +kernel
theorem d37_3 : fet 37 3 = .ok (.istore_n 2, 1) := by decide +kernel
theorem d37_4 : fet 37 4 = .ok (.iload_n 2, 1) := by decide +kernel
theorem d37_5 : fet 37 5 = .ok (.bipush 8, 2) := by decide +kernel
theorem d37_7 : fet 37 7 = .ok (.if_icmp .ge 28, 3) := by decide +kernel
theorem d37_10 : fet 37 10 = .ok (.iload_n 1, 1) := by decide +kernel
theorem d37_11 : fet 37 11 = .ok (.aload_n 0, 1) := by decide +kernel
theorem d37_12 : fet 37 12 = .ok (.iload_n 2, 1) := by decide +kernel
theorem d37_13 : fet 37 13 = .ok (.invokevirtual 25, 3) := by decide +kernel
theorem d37_16 : fet 37 16 = .ok (.ifCond .ne 7, 3) := by decide +kernel
theorem d37_19 : fet 37 19 = .ok (.iconst 1, 1) := by decide +kernel
theorem d37_20 : fet 37 20 = .ok (.goto 4, 3) := by decide +kernel
theorem d37_23 : fet 37 23 = .ok (.iconst 0, 1) := by decide +kernel
theorem d37_24 : fet 37 24 = .ok (.invokestatic 29, 3) := by decide +kernel
theorem d37_27 : fet 37 27 = .ok (.iadd, 1) := by decide +kernel
theorem d37_28 : fet 37 28 = .ok (.istore_n 1, 1) := by decide +kernel
theorem d37_29 : fet 37 29 = .ok (.iinc 2 1, 3) := by decide +kernel
theorem d37_32 : fet 37 32 = .ok (.goto (-28), 3) := by decide +kernel
theorem d37_35 : fet 37 35 = .ok (.iload_n 1, 1) := by decide +kernel
theorem d37_36 : fet 37 36 = .ok (.ireturn, 1) := by decide +kernel
theorem o38 : own 38 = RX6 := by decide +kernel
theorem d38_0 : fet 38 0 = .ok (.aload_n 0, 1) := by decide +kernel
theorem d38_1 : fet 38 1 = .ok (.iload_n 1, 1) := by decide +kernel
theorem d38_2 : fet 38 2 = .ok (.iload_n 2, 1) := by decide +kernel
theorem d38_3 : fet 38 3 = .ok (.iload_n 3, 1) := by decide +kernel
theorem d38_4 : fet 38 4 = .ok (.iload 4, 2) := by decide +kernel
theorem d38_6 : fet 38 6 = .ok (.invokespecial 1, 3) := by decide +kernel
theorem d38_9 : fet 38 9 = .ok (.return_, 1) := by decide +kernel
theorem o39 : own 39 = RX6 := by decide +kernel
theorem d39_0 : fet 39 0 = .ok (.iconst 1, 1) := by decide +kernel
theorem d39_1 : fet 39 1 = .ok (.ireturn, 1) := by decide +kernel
theorem o40 : own 40 = RX6 := by decide +kernel
theorem d40_0 : fet 40 0 = .ok (.aload_n 2, 1) := by decide +kernel
theorem d40_1 : fet 40 1 = .ok (.bipush 11, 2) := by decide +kernel
theorem d40_3 : fet 40 3 = .ok (.invokevirtual 7, 3) := by decide +kernel
theorem d40_6 : fet 40 6 = .ok (.aload_n 0, 1) := by decide +kernel
theorem d40_7 : fet 40 7 = .ok (.aload_n 1, 1) := by decide +kernel
theorem d40_8 : fet 40 8 = .ok (.aload_n 2, 1) := by decide +kernel
theorem d40_9 : fet 40 9 = .ok (.invokespecial 13, 3) := by decide +kernel
theorem d40_12 : fet 40 12 = .ok (.aload_n 0, 1) := by decide +kernel
theorem d40_13 : fet 40 13 = .ok (.aload_n 1, 1) := by decide +kernel
theorem d40_14 : fet 40 14 = .ok (.aload_n 2, 1) := by decide +kernel
theorem d40_15 : fet 40 15 = .ok (.invokevirtual 17, 3) := by decide +kernel
theorem d40_18 : fet 40 18 = .ok (.iadd, 1) := by decide +kernel
theorem d40_19 : fet 40 19 = .ok (.ireturn, 1) := by decide +kernel
theorem o41 : own 41 = RX6 := by decide +kernel
theorem d41_0 : fet 41 0 = .ok (.aload_n 2, 1) := by decide +kernel
theorem d41_1 : fet 41 1 = .ok (.bipush 21, 2) := by decide +kernel
theorem d41_3 : fet 41 3 = .ok (.invokevirtual 7, 3) := by decide +kernel
theorem d41_6 : fet 41 6 = .ok (.aload_n 0, 1) := by decide +kernel
theorem d41_7 : fet 41 7 = .ok (.aload_n 1, 1) := by decide +kernel
theorem d41_8 : fet 41 8 = .ok (.aload_n 2, 1) := by decide +kernel
theorem d41_9 : fet 41 9 = .ok (.invokespecial 22, 3) := by decide +kernel
theorem d41_12 : fet 41 12 = .ok (.aload_n 1, 1) := by decide +kernel
theorem d41_13 : fet 41 13 = .ok (.getfield 23, 3) := by decide +kernel
theorem d41_16 : fet 41 16 = .ok (.iadd, 1) := by decide +kernel
theorem d41_17 : fet 41 17 = .ok (.ireturn, 1) := by decide +kernel
theorem o42 : own 42 = RX7 := by decide +kernel
theorem d42_0 : fet 42 0 = .ok (.aload_n 0, 1) := by decide +kernel
theorem d42_1 : fet 42 1 = .ok (.iload_n 1, 1) := by decide +kernel
theorem d42_2 : fet 42 2 = .ok (.iload_n 2, 1) := by decide +kernel
theorem d42_3 : fet 42 3 = .ok (.iload_n 3, 1) := by decide +kernel
theorem d42_4 : fet 42 4 = .ok (.iload 4, 2) := by decide +kernel
theorem d42_6 : fet 42 6 = .ok (.invokespecial 1, 3) := by decide +kernel
theorem d42_9 : fet 42 9 = .ok (.return_, 1) := by decide +kernel
theorem o43 : own 43 = RX7 := by decide +kernel
theorem d43_0 : fet 43 0 = .ok (.aload_n 2, 1) := by decide +kernel
theorem d43_1 : fet 43 1 = .ok (.bipush 22, 2) := by decide +kernel
theorem d43_3 : fet 43 3 = .ok (.invokevirtual 7, 3) := by decide +kernel
theorem d43_6 : fet 43 6 = .ok (.aload_n 0, 1) := by decide +kernel
theorem d43_7 : fet 43 7 = .ok (.aload_n 1, 1) := by decide +kernel
theorem d43_8 : fet 43 8 = .ok (.aload_n 2, 1) := by decide +kernel
theorem d43_9 : fet 43 9 = .ok (.invokespecial 13, 3) := by decide +kernel
theorem d43_12 : fet 43 12 = .ok (.sipush 1000, 3) := by decide +kernel
theorem d43_15 : fet 43 15 = .ok (.isub, 1) := by decide +kernel
theorem d43_16 : fet 43 16 = .ok (.ireturn, 1) := by decide +kernel
theorem o44 : own 44 = RX8 := by decide +kernel
theorem d44_0 : fet 44 0 = .ok (.aload_n 0, 1) := by decide +kernel
theorem d44_1 : fet 44 1 = .ok (.invokespecial 3, 3) := by decide +kernel
theorem d44_4 : fet 44 4 = .ok (.aload_n 0, 1) := by decide +kernel
theorem d44_5 : fet 44 5 = .ok (.iload_n 1, 1) := by decide +kernel
theorem d44_6 : fet 44 6 = .ok (.putfield 9, 3) := by decide +kernel
theorem d44_9 : fet 44 9 = .ok (.aload_n 0, 1) := by decide +kernel
theorem d44_10 : fet 44 10 = .ok (.aload_n 2, 1) := by decide +kernel
theorem d44_11 : fet 44 11 = .ok (.putfield 15, 3) := by decide +kernel
theorem d44_14 : fet 44 14 = .ok (.return_, 1) := by decide +kernel
theorem o45 : own 45 = RX8 := by decide +kernel
theorem d45_0 : fet 45 0 = .ok (.aload_n 0, 1) := by decide +kernel
theorem d45_1 : fet 45 1 = .ok (.aload_n 1, 1) := by decide +kernel
theorem d45_2 : fet 45 2 = .ok (.putfield 15, 3) := by decide +kernel
theorem d45_5 : fet 45 5 = .ok (.aload_n 0, 1) := by decide +kernel
theorem d45_6 : fet 45 6 = .ok (.iload_n 2, 1) := by decide +kernel
theorem d45_7 : fet 45 7 = .ok (.putfield 19, 3) := by decide +kernel
theorem d45_10 : fet 45 10 = .ok (.aload_n 0, 1) := by decide +kernel
theorem d45_11 : fet 45 11 = .ok (.iconst 0, 1) := by decide +kernel
theorem d45_12 : fet 45 12 = .ok (.putfield 22, 3) := by decide +kernel
theorem d45_15 : fet 45 15 = .ok (.aload_n 0, 1) := by decide +kernel
theorem d45_16 : fet 45 16 = .ok (.iconst 0, 1) := by decide +kernel
theorem d45_17 : fet 45 17 = .ok (.putfield 25, 3) := by decide +kernel
theorem d45_20 : fet 45 20 = .ok (.aload_n 0, 1) := by decide +kernel
theorem d45_21 : fet 45 21 = .ok (.iconst 0, 1) := by decide +kernel
theorem d45_22 : fet 45 22 = .ok (.putfield 28, 3) := by decide +kernel
theorem d45_25 : fet 45 25 = .ok (.aload_n 0, 1) := by decide +kernel
theorem d45_26 : fet 45 26 = .ok (.iconst 0, 1) := by decide +kernel
theorem d45_27 : fet 45 27 = .ok (.putfield 31, 3) := by decide +kernel
theorem d45_30 : fet 45 30 = .ok (.aload_n 0, 1) := by decide +kernel
theorem d45_31 : fet 45 31 = .ok (.iconst 0, 1) := by decide +kernel
theorem d45_32 : fet 45 32 = .ok (.putfield 34, 3) := by decide +kernel
theorem d45_35 : fet 45 35 = .ok (.return_, 1) := by decide +kernel
theorem o46 : own 46 = RX8 := by decide +kernel
theorem d46_0 : fet 46 0 = .ok (.aload_n 0, 1) := by decide +kernel
theorem d46_1 : fet 46 1 = .ok (.aload_n 1, 1) := by decide +kernel
theorem d46_2 : fet 46 2 = .ok (.getfield 15, 3) := by decide +kernel
theorem d46_5 : fet 46 5 = .ok (.putfield 15, 3) := by decide +kernel
theorem d46_8 : fet 46 8 = .ok (.aload_n 0, 1) := by decide +kernel
theorem d46_9 : fet 46 9 = .ok (.aload_n 1, 1) := by decide +kernel
theorem d46_10 : fet 46 10 = .ok (.getfield 19, 3) := by decide +kernel
theorem d46_13 : fet 46 13 = .ok (.putfield 19, 3) := by decide +kernel
theorem d46_16 : fet 46 16 = .ok (.aload_n 0, 1) := by decide +kernel
theorem d46_17 : fet 46 17 = .ok (.aload_n 1, 1) := by decide +kernel
theorem d46_18 : fet 46 18 = .ok (.getfield 22, 3) := by decide +kernel
theorem d46_21 : fet 46 21 = .ok (.putfield 22, 3) := by decide +kernel
theorem d46_24 : fet 46 24 = .ok (.aload_n 0, 1) := by decide +kernel
theorem d46_25 : fet 46 25 = .ok (.aload_n 1, 1) := by decide +kernel
theorem d46_26 : fet 46 26 = .ok (.getfield 25, 3) := by decide +kernel
theorem d46_29 : fet 46 29 = .ok (.putfield 25, 3) := by decide +kernel
theorem d46_32 : fet 46 32 = .ok (.aload_n 0, 1) := by decide +kernel
theorem d46_33 : fet 46 33 = .ok (.aload_n 1, 1) := by decide +kernel
theorem d46_34 : fet 46 34 = .ok (.getfield 28, 3) := by decide +kernel
theorem d46_37 : fet 46 37 = .ok (.putfield 28, 3) := by decide +kernel
theorem d46_40 : fet 46 40 = .ok (.aload_n 0, 1) := by decide +kernel
theorem d46_41 : fet 46 41 = .ok (.aload_n 1, 1) := by decide +kernel
theorem d46_42 : fet 46 42 = .ok (.getfield 31, 3) := by decide +kernel
theorem d46_45 : fet 46 45 = .ok (.putfield 31, 3) := by decide +kernel
theorem d46_48 : fet 46 48 = .ok (.aload_n 0, 1) := by decide +kernel
theorem d46_49 : fet 46 49 = .ok (.aload_n 1, 1) := by decide +kernel
theorem d46_50 : fet 46 50 = .ok (.getfield 34, 3) := by decide +kernel
theorem d46_53 : fet 46 53 = .ok (.putfield 34, 3) := by decide +kernel
theorem d46_56 : fet 46 56 = .ok (.return_, 1) := by decide +kernel
theorem o47 : own 47 = RX8 := by decide +kernel
theorem d47_0 : fet 47 0 = .ok (.aload_n 0, 1) := by decide +kernel
theorem d47_1 : fet 47 1 = .ok (.getfield 19, 3) := by decide +kernel
theorem d47_4 : fet 47 4 = .ok (.bipush 13, 2) := by decide +kernel
theorem d47_6 : fet 47 6 = .ok (.if_icmp .ne 7, 3) := by decide +kernel
theorem d47_9 : fet 47 9 = .ok (.iconst 1, 1) := by decide +kernel
theorem d47_10 : fet 47 10 = .ok (.goto 4, 3) := by decide +kernel
theorem d47_13 : fet 47 13 = .ok (.iconst 0, 1) := by decide +kernel
theorem d47_14 : fet 47 14 = .ok (.ireturn, 1) := by decide +kernel
theorem o48 : own 48 = RX8 := by decide +kernel
theorem d48_0 : fet 48 0 = .ok (.aload_n 0, 1) := by decide +kernel
theorem d48_1 : fet 48 1 = .ok (.getfield 22, 3) := by decide +kernel
theorem d48_4 : fet 48 4 = .ok (.aload_n 0, 1) := by decide +kernel
theorem d48_5 : fet 48 5 = .ok (.getfield 15, 3) := by decide +kernel
theorem d48_8 : fet 48 8 = .ok (.getfield 38, 3) := by decide +kernel
theorem d48_11 : fet 48 11 = .ok (.if_icmp .lt 7, 3) := by decide +kernel
theorem d48_14 : fet 48 14 = .ok (.iconst 1, 1) := by decide +kernel
theorem d48_15 : fet 48 15 = .ok (.goto 4, 3) := by decide +kernel
theorem d48_18 : fet 48 18 = .ok (.iconst 0, 1) := by decide +kernel
theorem d48_19 : fet 48 19 = .ok (.ireturn, 1) := by decide +kernel
theorem o49 : own 49 = RX8 := by decide +kernel
theorem d49_0 : fet 49 0 = .ok (.aload_n 0, 1) := by decide +kernel
theorem d49_1 : fet 49 1 = .ok (.invokevirtual 43, 3) := by decide +kernel
theorem d49_4 : fet 49 4 = .ok (.ifCond .eq 14, 3) := by decide +kernel
theorem d49_7 : fet 49 7 = .ok (.aload_n 0, 1) := by decide +kernel
theorem d49_8 : fet 49 8 = .ok (.getfield 34, 3) := by decide +kernel
theorem d49_11 : fet 49 11 = .ok (.ifCond .ne 7, 3) := by decide +kernel
theorem d49_14 : fet 49 14 = .ok (.iconst 1, 1) := by decide +kernel
theorem d49_15 : fet 49 15 = .ok (.goto 4, 3) := by decide +kernel
theorem d49_18 : fet 49 18 = .ok (.iconst 0, 1) := by decide +kernel
theorem d49_19 : fet 49 19 = .ok (.ireturn, 1) := by decide +kernel
theorem o50 : own 50 = RX8 := by decide +kernel
theorem d50_0 : fet 50 0 = .ok (.iload_n 1, 1) := by decide +kernel
theorem d50_1 : fet 50 1 = .ok (.aload_n 0, 1) := by decide +kernel
theorem d50_2 : fet 50 2 = .ok (.getfield 31, 3) := by decide +kernel
theorem d50_5 : fet 50 5 = .ok (.if_icmp .ne 10, 3) := by decide +kernel
theorem d50_8 : fet 50 8 = .ok (.aload_n 0, 1) := by decide +kernel
theorem d50_9 : fet 50 9 = .ok (.getfield 25, 3) := by decide +kernel
theorem d50_12 : fet 50 12 = .ok (.goto 7, 3) := by decide +kernel
theorem d50_15 : fet 50 15 = .ok (.aload_n 0, 1) := by decide +kernel
theorem d50_16 : fet 50 16 = .ok (.getfield 28, 3) := by decide +kernel
theorem d50_19 : fet 50 19 = .ok (.ireturn, 1) := by decide +kernel
theorem o51 : own 51 = RX8 := by decide +kernel
theorem d51_0 : fet 51 0 = .ok (.aload_n 0, 1) := by decide +kernel
theorem d51_1 : fet 51 1 = .ok (.getfield 25, 3) := by decide +kernel
theorem d51_4 : fet 51 4 = .ok (.istore_n 1, 1) := by decide +kernel
theorem d51_5 : fet 51 5 = .ok (.aload_n 0, 1) := by decide +kernel
theorem d51_6 : fet 51 6 = .ok (.aload_n 0, 1) := by decide +kernel
theorem d51_7 : fet 51 7 = .ok (.getfield 28, 3) := by decide +kernel
theorem d51_10 : fet 51 10 = .ok (.putfield 25, 3) := by decide +kernel
theorem d51_13 : fet 51 13 = .ok (.aload_n 0, 1) := by decide +kernel
theorem d51_14 : fet 51 14 = .ok (.iload_n 1, 1) := by decide +kernel
theorem d51_15 : fet 51 15 = .ok (.putfield 28, 3) := by decide +kernel
theorem d51_18 : fet 51 18 = .ok (.aload_n 0, 1) := by decide +kernel
theorem d51_19 : fet 51 19 = .ok (.iconst 1, 1) := by decide +kernel
theorem d51_20 : fet 51 20 = .ok (.aload_n 0, 1) := by decide +kernel
theorem d51_21 : fet 51 21 = .ok (.getfield 31, 3) := by decide +kernel
theorem d51_24 : fet 51 24 = .ok (.isub, 1) := by decide +kernel
theorem d51_25 : fet 51 25 = .ok (.putfield 31, 3) := by decide +kernel
theorem d51_28 : fet 51 28 = .ok (.return_, 1) := by decide +kernel
theorem o52 : own 52 = RX8 := by decide +kernel
theorem d52_0 : fet 52 0 = .ok (.iload_n 1, 1) := by decide +kernel
theorem d52_1 : fet 52 1 = .ok (.ifCond .le 26, 3) := by decide +kernel
theorem d52_4 : fet 52 4 = .ok (.aload_n 0, 1) := by decide +kernel
theorem d52_5 : fet 52 5 = .ok (.getfield 25, 3) := by decide +kernel
theorem d52_8 : fet 52 8 = .ok (.bipush 10, 2) := by decide +kernel
theorem d52_10 : fet 52 10 = .ok (.if_icmp .lt 17, 3) := by decide +kernel
theorem d52_13 : fet 52 13 = .ok (.aload_n 0, 1) := by decide +kernel
theorem d52_14 : fet 52 14 = .ok (.getfield 15, 3) := by decide +kernel
theorem d52_17 : fet 52 17 = .ok (.invokevirtual 47, 3) := by decide +kernel
theorem d52_20 : fet 52 20 = .ok (.ifCond .eq 7, 3) := by decide +kernel
theorem d52_23 : fet 52 23 = .ok (.iconst 3, 1) := by decide +kernel
theorem d52_24 : fet 52 24 = .ok (.goto 4, 3) := by decide +kernel
theorem d52_27 : fet 52 27 = .ok (.iconst 0, 1) := by decide +kernel
theorem d52_28 : fet 52 28 = .ok (.istore_n 3, 1) := by decide +kernel
theorem d52_29 : fet 52 29 = .ok (.iload_n 1, 1) := by decide +kernel
theorem d52_30 : fet 52 30 = .ok (.iload_n 3, 1) := by decide +kernel
theorem d52_31 : fet 52 31 = .ok (.iadd, 1) := by decide +kernel
theorem d52_32 : fet 52 32 = .ok (.iload_n 2, 1) := by decide +kernel
theorem d52_33 : fet 52 33 = .ok (.iadd, 1) := by decide +kernel
theorem d52_34 : fet 52 34 = .ok (.ireturn, 1) := by decide +kernel
theorem o53 : own 53 = RX8 := by decide +kernel
theorem d53_0 : fet 53 0 = .ok (.aload_n 0, 1) := by decide +kernel
theorem d53_1 : fet 53 1 = .ok (.dup, 1) := by decide +kernel
theorem d53_2 : fet 53 2 = .ok (.getfield 25, 3) := by decide +kernel
theorem d53_5 : fet 53 5 = .ok (.aload_n 0, 1) := by decide +kernel
theorem d53_6 : fet 53 6 = .ok (.iload_n 1, 1) := by decide +kernel
theorem d53_7 : fet 53 7 = .ok (.iload_n 2, 1) := by decide +kernel
theorem d53_8 : fet 53 8 = .ok (.invokevirtual 50, 3) := by decide +kernel
theorem d53_11 : fet 53 11 = .ok (.iadd, 1) := by decide +kernel
theorem d53_12 : fet 53 12 = .ok (.putfield 25, 3) := by decide +kernel
theorem d53_15 : fet 53 15 = .ok (.aload_n 0, 1) := by decide +kernel
theorem d53_16 : fet 53 16 = .ok (.iconst 0, 1) := by decide +kernel
theorem d53_17 : fet 53 17 = .ok (.aload_n 0, 1) := by decide +kernel
theorem d53_18 : fet 53 18 = .ok (.getfield 28, 3) := by decide +kernel
theorem d53_21 : fet 53 21 = .ok (.iconst 2, 1) := by decide +kernel
theorem d53_22 : fet 53 22 = .ok (.isub, 1) := by decide +kernel
theorem d53_23 : fet 53 23 = .ok (.invokestatic 54, 3) := by decide +kernel
theorem d53_26 : fet 53 26 = .ok (.putfield 28, 3) := by decide +kernel
theorem d53_29 : fet 53 29 = .ok (.aload_n 0, 1) := by decide +kernel
theorem d53_30 : fet 53 30 = .ok (.dup, 1) := by decide +kernel
theorem d53_31 : fet 53 31 = .ok (.getfield 22, 3) := by decide +kernel
theorem d53_34 : fet 53 34 = .ok (.aload_n 0, 1) := by decide +kernel
theorem d53_35 : fet 53 35 = .ok (.getfield 15, 3) := by decide +kernel
theorem d53_38 : fet 53 38 = .ok (.aload_n 0, 1) := by decide +kernel
theorem d53_39 : fet 53 39 = .ok (.getfield 25, 3) := by decide +kernel
theorem d53_42 : fet 53 42 = .ok (.aload_n 0, 1) := by decide +kernel
theorem d53_43 : fet 53 43 = .ok (.getfield 28, 3) := by decide +kernel
theorem d53_46 : fet 53 46 = .ok (.iadd, 1) := by decide +kernel
theorem d53_47 : fet 53 47 = .ok (.invokevirtual 59, 3) := by decide +kernel
theorem d53_50 : fet 53 50 = .ok (.iadd, 1) := by decide +kernel
theorem d53_51 : fet 53 51 = .ok (.putfield 22, 3) := by decide +kernel
theorem d53_54 : fet 53 54 = .ok (.aload_n 0, 1) := by decide +kernel
theorem d53_55 : fet 53 55 = .ok (.aload_n 0, 1) := by decide +kernel
theorem d53_56 : fet 53 56 = .ok (.getfield 34, 3) := by decide +kernel
theorem d53_59 : fet 53 59 = .ok (.ifCond .ne 31, 3) := by decide +kernel
theorem d53_62 : fet 53 62 = .ok (.aload_n 0, 1) := by decide +kernel
theorem d53_63 : fet 53 63 = .ok (.getfield 25, 3) := by decide +kernel
theorem d53_66 : fet 53 66 = .ok (.aload_n 0, 1) := by decide +kernel
theorem d53_67 : fet 53 67 = .ok (.getfield 15, 3) := by decide +kernel
theorem d53_70 : fet 53 70 = .ok (.getfield 63, 3) := by decide +kernel
theorem d53_73 : fet 53 73 = .ok (.if_icmp .gt 17, 3) := by decide +kernel
theorem d53_76 : fet 53 76 = .ok (.aload_n 0, 1) := by decide +kernel
theorem d53_77 : fet 53 77 = .ok (.getfield 28, 3) := by decide +kernel
theorem d53_80 : fet 53 80 = .ok (.aload_n 0, 1) := by decide +kernel
theorem d53_81 : fet 53 81 = .ok (.getfield 15, 3) := by decide +kernel
theorem d53_84 : fet 53 84 = .ok (.getfield 63, 3) := by decide +kernel
theorem d53_87 : fet 53 87 = .ok (.if_icmp .le 7, 3) := by decide +kernel
theorem d53_90 : fet 53 90 = .ok (.iconst 1, 1) := by decide +kernel
theorem d53_91 : fet 53 91 = .ok (.goto 4, 3) := by decide +kernel
theorem d53_94 : fet 53 94 = .ok (.iconst 0, 1) := by decide +kernel
theorem d53_95 : fet 53 95 = .ok (.putfield 34, 3) := by decide +kernel
theorem d53_98 : fet 53 98 = .ok (.return_, 1) := by decide +kernel
theorem o54 : own 54 = RX8 := by decide +kernel
theorem d54_0 : fet 54 0 = .ok (.aload_n 0, 1) := by decide +kernel
theorem d54_1 : fet 54 1 = .ok (.iconst 0, 1) := by decide +kernel
theorem d54_2 : fet 54 2 = .ok (.aload_n 0, 1) := by decide +kernel
theorem d54_3 : fet 54 3 = .ok (.getfield 25, 3) := by decide +kernel
theorem d54_6 : fet 54 6 = .ok (.iconst 3, 1) := by decide +kernel
theorem d54_7 : fet 54 7 = .ok (.iload_n 1, 1) := by decide +kernel
theorem d54_8 : fet 54 8 = .ok (.imul, 1) := by decide +kernel
theorem d54_9 : fet 54 9 = .ok (.isub, 1) := by decide +kernel
theorem d54_10 : fet 54 10 = .ok (.invokestatic 54, 3) := by decide +kernel
theorem d54_13 : fet 54 13 = .ok (.putfield 25, 3) := by decide +kernel
theorem d54_16 : fet 54 16 = .ok (.aload_n 0, 1) := by decide +kernel
theorem d54_17 : fet 54 17 = .ok (.iconst 0, 1) := by decide +kernel
theorem d54_18 : fet 54 18 = .ok (.aload_n 0, 1) := by decide +kernel
theorem d54_19 : fet 54 19 = .ok (.getfield 28, 3) := by decide +kernel
theorem d54_22 : fet 54 22 = .ok (.iconst 3, 1) := by decide +kernel
theorem d54_23 : fet 54 23 = .ok (.iload_n 1, 1) := by decide +kernel
theorem d54_24 : fet 54 24 = .ok (.imul, 1) := by decide +kernel
theorem d54_25 : fet 54 25 = .ok (.isub, 1) := by decide +kernel
theorem d54_26 : fet 54 26 = .ok (.invokestatic 54, 3) := by decide +kernel
theorem d54_29 : fet 54 29 = .ok (.putfield 28, 3) := by decide +kernel
theorem d54_32 : fet 54 32 = .ok (.return_, 1) := by decide +kernel
theorem o55 : own 55 = RX8 := by decide +kernel
theorem d55_0 : fet 55 0 = .ok (.iload_n 2, 1) := by decide +kernel
theorem d55_1 : fet 55 1 = .ok (.ifCond .lt 12, 3) := by decide +kernel
theorem d55_4 : fet 55 4 = .ok (.iload_n 2, 1) := by decide +kernel
theorem d55_5 : fet 55 5 = .ok (.aload_n 1, 1) := by decide +kernel
theorem d55_6 : fet 55 6 = .ok (.arraylength, 1) := by decide +kernel
theorem d55_7 : fet 55 7 = .ok (.bipush 7, 2) := by decide +kernel
theorem d55_9 : fet 55 9 = .ok (.isub, 1) := by decide +kernel
theorem d55_10 : fet 55 10 = .ok (.if_icmp .le 4, 3) := by decide +kernel
theorem d55_13 : fet 55 13 = .ok (.return_, 1) := by decide +kernel
theorem d55_14 : fet 55 14 = .ok (.aload_n 1, 1) := by decide +kernel
theorem d55_15 : fet 55 15 = .ok (.iload_n 2, 1) := by decide +kernel
theorem d55_16 : fet 55 16 = .ok (.aload_n 0, 1) := by decide +kernel
theorem d55_17 : fet 55 17 = .ok (.getfield 15, 3) := by decide +kernel
theorem d55_20 : fet 55 20 = .ok (.getfield 66, 3) := by decide +kernel
theorem d55_23 : fet 55 23 = .ok (.iastore, 1) := by decide +kernel
theorem d55_24 : fet 55 24 = .ok (.aload_n 1, 1) := by decide +kernel
theorem d55_25 : fet 55 25 = .ok (.iload_n 2, 1) := by decide +kernel
theorem d55_26 : fet 55 26 = .ok (.iconst 1, 1) := by decide +kernel
theorem d55_27 : fet 55 27 = .ok (.iadd, 1) := by decide +kernel
theorem d55_28 : fet 55 28 = .ok (.aload_n 0, 1) := by decide +kernel
theorem d55_29 : fet 55 29 = .ok (.getfield 19, 3) := by decide +kernel
theorem d55_32 : fet 55 32 = .ok (.iastore, 1) := by decide +kernel
theorem d55_33 : fet 55 33 = .ok (.aload_n 1, 1) := by decide +kernel
theorem d55_34 : fet 55 34 = .ok (.iload_n 2, 1) := by decide +kernel
theorem d55_35 : fet 55 35 = .ok (.iconst 2, 1) := by decide +kernel
theorem d55_36 : fet 55 36 = .ok (.iadd, 1) := by decide +kernel
theorem d55_37 : fet 55 37 = .ok (.aload_n 0, 1) := by decide +kernel
theorem d55_38 : fet 55 38 = .ok (.getfield 22, 3) := by decide +kernel
theorem d55_41 : fet 55 41 = .ok (.iastore, 1) := by decide +kernel
theorem d55_42 : fet 55 42 = .ok (.aload_n 1, 1) := by decide +kernel
theorem d55_43 : fet 55 43 = .ok (.iload_n 2, 1) := by decide +kernel
theorem d55_44 : fet 55 44 = .ok (.iconst 3, 1) := by decide +kernel
theorem d55_45 : fet 55 45 = .ok (.iadd, 1) := by decide +kernel
theorem d55_46 : fet 55 46 = .ok (.aload_n 0, 1) := by decide +kernel
theorem d55_47 : fet 55 47 = .ok (.getfield 25, 3) := by decide +kernel
theorem d55_50 : fet 55 50 = .ok (.iastore, 1) := by decide +kernel
theorem d55_51 : fet 55 51 = .ok (.aload_n 1, 1) := by decide +kernel
theorem d55_52 : fet 55 52 = .ok (.iload_n 2, 1) := by decide +kernel
theorem d55_53 : fet 55 53 = .ok (.iconst 4, 1) := by decide +kernel
theorem d55_54 : fet 55 54 = .ok (.iadd, 1) := by decide +kernel
theorem d55_55 : fet 55 55 = .ok (.aload_n 0, 1) := by decide +kernel
theorem d55_56 : fet 55 56 = .ok (.getfield 28, 3) := by decide +kernel
theorem d55_59 : fet 55 59 = .ok (.iastore, 1) := by decide +kernel
theorem d55_60 : fet 55 60 = .ok (.aload_n 1, 1) := by decide +kernel
theorem d55_61 : fet 55 61 = .ok (.iload_n 2, 1) := by decide +kernel
theorem d55_62 : fet 55 62 = .ok (.iconst 5, 1) := by decide +kernel
theorem d55_63 : fet 55 63 = .ok (.iadd, 1) := by decide +kernel
theorem d55_64 : fet 55 64 = .ok (.aload_n 0, 1) := by decide +kernel
theorem d55_65 : fet 55 65 = .ok (.getfield 31, 3) := by decide +kernel
theorem d55_68 : fet 55 68 = .ok (.iastore, 1) := by decide +kernel
theorem d55_69 : fet 55 69 = .ok (.aload_n 1, 1) := by decide +kernel
theorem d55_70 : fet 55 70 = .ok (.iload_n 2, 1) := by decide +kernel
theorem d55_71 : fet 55 71 = .ok (.bipush 6, 2) := by decide +kernel
theorem d55_73 : fet 55 73 = .ok (.iadd, 1) := by decide +kernel
theorem d55_74 : fet 55 74 = .ok (.aload_n 0, 1) := by decide +kernel
theorem d55_75 : fet 55 75 = .ok (.getfield 34, 3) := by decide +kernel
theorem d55_78 : fet 55 78 = .ok (.invokestatic 67, 3) := by decide +kernel
theorem d55_81 : fet 55 81 = .ok (.iastore, 1) := by decide +kernel
theorem d55_82 : fet 55 82 = .ok (.return_, 1) := by decide +kernel
theorem o56 : own 56 = RX8 := by decide +kernel
theorem d56_0 : fet 56 0 = .ok (.iload_n 2, 1) := by decide +kernel
theorem d56_1 : fet 56 1 = .ok (.ifCond .lt 12, 3) := by decide +kernel
theorem d56_4 : fet 56 4 = .ok (.iload_n 2, 1) := by decide +kernel
theorem d56_5 : fet 56 5 = .ok (.aload_n 1, 1) := by decide +kernel
theorem d56_6 : fet 56 6 = .ok (.arraylength, 1) := by decide +kernel
theorem d56_7 : fet 56 7 = .ok (.bipush 7, 2) := by decide +kernel
theorem d56_9 : fet 56 9 = .ok (.isub, 1) := by decide +kernel
theorem d56_10 : fet 56 10 = .ok (.if_icmp .le 4, 3) := by decide +kernel
theorem d56_13 : fet 56 13 = .ok (.return_, 1) := by decide +kernel
theorem d56_14 : fet 56 14 = .ok (.aload_n 0, 1) := by decide +kernel
theorem d56_15 : fet 56 15 = .ok (.aload_n 3, 1) := by decide +kernel
theorem d56_16 : fet 56 16 = .ok (.putfield 15, 3) := by decide +kernel
theorem d56_19 : fet 56 19 = .ok (.aload_n 0, 1) := by decide +kernel
theorem d56_20 : fet 56 20 = .ok (.aload_n 1, 1) := by decide +kernel
theorem d56_21 : fet 56 21 = .ok (.iload_n 2, 1) := by decide +kernel
theorem d56_22 : fet 56 22 = .ok (.iconst 1, 1) := by decide +kernel
theorem d56_23 : fet 56 23 = .ok (.iadd, 1) := by decide +kernel
theorem d56_24 : fet 56 24 = .ok (.iaload, 1) := by decide +kernel
theorem d56_25 : fet 56 25 = .ok (.putfield 19, 3) := by decide +kernel
theorem d56_28 : fet 56 28 = .ok (.aload_n 0, 1) := by decide +kernel
theorem d56_29 : fet 56 29 = .ok (.aload_n 1, 1) := by decide +kernel
theorem d56_30 : fet 56 30 = .ok (.iload_n 2, 1) := by decide +kernel
theorem d56_31 : fet 56 31 = .ok (.iconst 2, 1) := by decide +kernel
theorem d56_32 : fet 56 32 = .ok (.iadd, 1) := by decide +kernel
theorem d56_33 : fet 56 33 = .ok (.iaload, 1) := by decide +kernel
theorem d56_34 : fet 56 34 = .ok (.putfield 22, 3) := by decide +kernel
theorem d56_37 : fet 56 37 = .ok (.aload_n 0, 1) := by decide +kernel
theorem d56_38 : fet 56 38 = .ok (.aload_n 1, 1) := by decide +kernel
theorem d56_39 : fet 56 39 = .ok (.iload_n 2, 1) := by decide +kernel
theorem d56_40 : fet 56 40 = .ok (.iconst 3, 1) := by decide +kernel
theorem d56_41 : fet 56 41 = .ok (.iadd, 1) := by decide +kernel
theorem d56_42 : fet 56 42 = .ok (.iaload, 1) := by decide +kernel
theorem d56_43 : fet 56 43 = .ok (.putfield 25, 3) := by decide +kernel
theorem d56_46 : fet 56 46 = .ok (.aload_n 0, 1) := by decide +kernel
theorem d56_47 : fet 56 47 = .ok (.aload_n 1, 1) := by decide +kernel
theorem d56_48 : fet 56 48 = .ok (.iload_n 2, 1) := by decide +kernel
theorem d56_49 : fet 56 49 = .ok (.iconst 4, 1) := by decide +kernel
theorem d56_50 : fet 56 50 = .ok (.iadd, 1) := by decide +kernel
theorem d56_51 : fet 56 51 = .ok (.iaload, 1) := by decide +kernel
theorem d56_52 : fet 56 52 = .ok (.putfield 28, 3) := by decide +kernel
theorem d56_55 : fet 56 55 = .ok (.aload_n 0, 1) := by decide +kernel
theorem d56_56 : fet 56 56 = .ok (.aload_n 1, 1) := by decide +kernel
theorem d56_57 : fet 56 57 = .ok (.iload_n 2, 1) := by decide +kernel
theorem d56_58 : fet 56 58 = .ok (.iconst 5, 1) := by decide +kernel
theorem d56_59 : fet 56 59 = .ok (.iadd, 1) := by decide +kernel
theorem d56_60 : fet 56 60 = .ok (.iaload, 1) := by decide +kernel
theorem d56_61 : fet 56 61 = .ok (.putfield 31, 3) := by decide +kernel
theorem d56_64 : fet 56 64 = .ok (.aload_n 0, 1) := by decide +kernel
theorem d56_65 : fet 56 65 = .ok (.aload_n 1, 1) := by decide +kernel
theorem d56_66 : fet 56 66 = .ok (.iload_n 2, 1) := by decide +kernel
theorem d56_67 : fet 56 67 = .ok (.bipush 6, 2) := by decide +kernel
theorem d56_69 : fet 56 69 = .ok (.iadd, 1) := by decide +kernel
theorem d56_70 : fet 56 70 = .ok (.iaload, 1) := by decide +kernel
theorem d56_71 : fet 56 71 = .ok (.ifCond .eq 7, 3) := by decide +kernel
theorem d56_74 : fet 56 74 = .ok (.iconst 1, 1) := by decide +kernel
theorem d56_75 : fet 56 75 = .ok (.goto 4, 3) := by decide +kernel
theorem d56_78 : fet 56 78 = .ok (.iconst 0, 1) := by decide +kernel
theorem d56_79 : fet 56 79 = .ok (.putfield 34, 3) := by decide +kernel
theorem d56_82 : fet 56 82 = .ok (.return_, 1) := by decide +kernel
theorem o57 : own 57 = RX9 := by decide +kernel
theorem d57_0 : fet 57 0 = .ok (.aload_n 0, 1) := by decide +kernel
theorem d57_1 : fet 57 1 = .ok (.invokespecial 1, 3) := by decide +kernel
theorem d57_4 : fet 57 4 = .ok (.aload_n 0, 1) := by decide +kernel
theorem d57_5 : fet 57 5 = .ok (.bipush 16, 2) := by decide +kernel
theorem d57_7 : fet 57 7 = .ok (.newarray .int, 2) := by decide +kernel
theorem d57_9 : fet 57 9 = .ok (.putfield 7, 3) := by decide +kernel
theorem d57_12 : fet 57 12 = .ok (.return_, 1) := by decide +kernel
theorem o58 : own 58 = RX9 := by decide +kernel
theorem d58_0 : fet 58 0 = .ok (.aload_n 0, 1) := by decide +kernel
theorem d58_1 : fet 58 1 = .ok (.getfield 13, 3) := by decide +kernel
theorem d58_4 : fet 58 4 = .ok (.aload_n 0, 1) := by decide +kernel
theorem d58_5 : fet 58 5 = .ok (.getfield 7, 3) := by decide +kernel
theorem d58_8 : fet 58 8 = .ok (.arraylength, 1) := by decide +kernel
theorem d58_9 : fet 58 9 = .ok (.if_icmp .ge 23, 3) := by decide +kernel
theorem d58_12 : fet 58 12 = .ok (.aload_n 0, 1) := by decide +kernel
theorem d58_13 : fet 58 13 = .ok (.getfield 7, 3) := by decide +kernel
theorem d58_16 : fet 58 16 = .ok (.aload_n 0, 1) := by decide +kernel
theorem d58_17 : fet 58 17 = .ok (.getfield 13, 3) := by decide +kernel
theorem d58_20 : fet 58 20 = .ok (.iload_n 1, 1) := by decide +kernel
theorem d58_21 : fet 58 21 = .ok (.iastore, 1) := by decide +kernel
theorem d58_22 : fet 58 22 = .ok (.aload_n 0, 1) := by decide +kernel
theorem d58_23 : fet 58 23 = .ok (.dup, 1) := by decide +kernel
theorem d58_24 : fet 58 24 = .ok (.getfield 13, 3) := by decide +kernel
theorem d58_27 : fet 58 27 = .ok (.iconst 1, 1) := by decide +kernel
theorem d58_28 : fet 58 28 = .ok (.iadd, 1) := by decide +kernel
theorem d58_29 : fet 58 29 = .ok (.putfield 13, 3) := by decide +kernel
theorem d58_32 : fet 58 32 = .ok (.return_, 1) := by decide +kernel
theorem o59 : own 59 = RX10 := by decide +kernel
theorem d59_0 : fet 59 0 = .ok (.aload_n 0, 1) := by decide +kernel
theorem d59_1 : fet 59 1 = .ok (.invokespecial 5, 3) := by decide +kernel
theorem d59_4 : fet 59 4 = .ok (.aload_n 0, 1) := by decide +kernel
theorem d59_5 : fet 59 5 = .ok (.bipush 8, 2) := by decide +kernel
theorem d59_7 : fet 59 7 = .ok (.newarray .int, 2) := by decide +kernel
theorem d59_9 : fet 59 9 = .ok (.putfield 11, 3) := by decide +kernel
theorem d59_12 : fet 59 12 = .ok (.aload_n 0, 1) := by decide +kernel
theorem d59_13 : fet 59 13 = .ok (.bipush 8, 2) := by decide +kernel
theorem d59_15 : fet 59 15 = .ok (.newarray .int, 2) := by decide +kernel
theorem d59_17 : fet 59 17 = .ok (.putfield 17, 3) := by decide +kernel
theorem d59_20 : fet 59 20 = .ok (.aload_n 0, 1) := by decide +kernel
theorem d59_21 : fet 59 21 = .ok (.bipush 8, 2) := by decide +kernel
theorem d59_23 : fet 59 23 = .ok (.newarray .int, 2) := by decide +kernel
theorem d59_25 : fet 59 25 = .ok (.putfield 20, 3) := by decide +kernel
theorem d59_28 : fet 59 28 = .ok (.aload_n 0, 1) := by decide +kernel
theorem d59_29 : fet 59 29 = .ok (.bipush 6, 2) := by decide +kernel
theorem d59_31 : fet 59 31 = .ok (.anewarray 1, 3) := by decide +kernel
theorem d59_34 : fet 59 34 = .ok (.putfield 23, 3) := by decide +kernel
theorem d59_37 : fet 59 37 = .ok (.aload_n 0, 1) := by decide +kernel
theorem d59_38 : fet 59 38 = .ok (.iconst 4, 1) := by decide +kernel
theorem d59_39 : fet 59 39 = .ok (.newarray .int, 2) := by decide +kernel
theorem d59_41 : fet 59 41 = .ok (.putfield 27, 3) := by decide +kernel
theorem d59_44 : fet 59 44 = .ok (.aload_n 0, 1) := by decide +kernel
theorem d59_45 : fet 59 45 = .ok (.iconst 4, 1) := by decide +kernel
theorem d59_46 : fet 59 46 = .ok (.newarray .int, 2) := by decide +kernel
theorem d59_48 : fet 59 48 = .ok (.putfield 30, 3) := by decide +kernel
theorem d59_51 : fet 59 51 = .ok (.aload_n 0, 1) := by decide +kernel
theorem d59_52 : fet 59 52 = .ok (.iconst 4, 1) := by decide +kernel
theorem d59_53 : fet 59 53 = .ok (.newarray .int, 2) := by decide +kernel
theorem d59_55 : fet 59 55 = .ok (.putfield 33, 3) := by decide +kernel
theorem d59_58 : fet 59 58 = .ok (.aload_n 0, 1) := by decide +kernel
theorem d59_59 : fet 59 59 = .ok (.aload_n 1, 1) := by decide +kernel
theorem d59_60 : fet 59 60 = .ok (.putfield 36, 3) := by decide +kernel
theorem d59_63 : fet 59 63 = .ok (.iconst 0, 1) := by decide +kernel
theorem d59_64 : fet 59 64 = .ok (.istore_n 2, 1) := by decide +kernel
theorem d59_65 : fet 59 65 = .ok (.iload_n 2, 1) := by decide +kernel
theorem d59_66 : fet 59 66 = .ok (.bipush 6, 2) := by decide +kernel
theorem d59_68 : fet 59 68 = .ok (.if_icmp .ge 26, 3) := by decide +kernel
theorem d59_71 : fet 59 71 = .ok (.aload_n 0, 1) := by decide +kernel
theorem d59_72 : fet 59 72 = .ok (.getfield 23, 3) := by decide +kernel
theorem d59_75 : fet 59 75 = .ok (.iload_n 2, 1) := by decide +kernel
theorem d59_76 : fet 59 76 = .ok (.new 1, 3) := by decide +kernel
theorem d59_79 : fet 59 79 = .ok (.dup, 1) := by decide +kernel
theorem d59_80 : fet 59 80 = .ok (.iload_n 2, 1) := by decide +kernel
theorem d59_81 : fet 59 81 = .ok (.aload_n 1, 1) := by decide +kernel
theorem d59_82 : fet 59 82 = .ok (.iconst 1, 1) := by decide +kernel
theorem d59_83 : fet 59 83 = .ok (.aaload, 1) := by decide +kernel
theorem d59_84 : fet 59 84 = .ok (.invokespecial 40, 3) := by decide +kernel
theorem d59_87 : fet 59 87 = .ok (.aastore, 1) := by decide +kernel
theorem d59_88 : fet 59 88 = .ok (.iinc 2 1, 3) := by decide +kernel
theorem d59_91 : fet 59 91 = .ok (.goto (-26), 3) := by decide +kernel
theorem d59_94 : fet 59 94 = .ok (.return_, 1) := by decide +kernel
theorem o60 : own 60 = RX10 := by decide +kernel
theorem d60_0 : fet 60 0 = .ok (.aload_n 0, 1) := by decide +kernel
theorem d60_1 : fet 60 1 = .ok (.iconst 0, 1) := by decide +kernel
theorem d60_2 : fet 60 2 = .ok (.putfield 43, 3) := by decide +kernel
theorem d60_5 : fet 60 5 = .ok (.aload_n 0, 1) := by decide +kernel
theorem d60_6 : fet 60 6 = .ok (.iconst 0, 1) := by decide +kernel
theorem d60_7 : fet 60 7 = .ok (.putfield 47, 3) := by decide +kernel
theorem d60_10 : fet 60 10 = .ok (.aload_n 0, 1) := by decide +kernel
theorem d60_11 : fet 60 11 = .ok (.iconst 0, 1) := by decide +kernel
theorem d60_12 : fet 60 12 = .ok (.putfield 50, 3) := by decide +kernel
theorem d60_15 : fet 60 15 = .ok (.aload_n 0, 1) := by decide +kernel
theorem d60_16 : fet 60 16 = .ok (.iconst 0, 1) := by decide +kernel
theorem d60_17 : fet 60 17 = .ok (.putfield 53, 3) := by decide +kernel
theorem d60_20 : fet 60 20 = .ok (.return_, 1) := by decide +kernel
theorem o61 : own 61 = RX10 := by decide +kernel
theorem d61_0 : fet 61 0 = .ok (.aload_n 0, 1) := by decide +kernel
theorem d61_1 : fet 61 1 = .ok (.getfield 47, 3) := by decide +kernel
theorem d61_4 : fet 61 4 = .ok (.bipush 8, 2) := by decide +kernel
theorem d61_6 : fet 61 6 = .ok (.if_icmp .ge 43, 3) := by decide +kernel
theorem d61_9 : fet 61 9 = .ok (.aload_n 0, 1) := by decide +kernel
theorem d61_10 : fet 61 10 = .ok (.getfield 11, 3) := by decide +kernel
theorem d61_13 : fet 61 13 = .ok (.aload_n 0, 1) := by decide +kernel
theorem d61_14 : fet 61 14 = .ok (.getfield 47, 3) := by decide +kernel
theorem d61_17 : fet 61 17 = .ok (.iload_n 1, 1) := by decide +kernel
theorem d61_18 : fet 61 18 = .ok (.iastore, 1) := by decide +kernel
theorem d61_19 : fet 61 19 = .ok (.aload_n 0, 1) := by decide +kernel
theorem d61_20 : fet 61 20 = .ok (.getfield 17, 3) := by decide +kernel
theorem d61_23 : fet 61 23 = .ok (.aload_n 0, 1) := by decide +kernel
theorem d61_24 : fet 61 24 = .ok (.getfield 47, 3) := by decide +kernel
theorem d61_27 : fet 61 27 = .ok (.iload_n 2, 1) := by decide +kernel
theorem d61_28 : fet 61 28 = .ok (.iastore, 1) := by decide +kernel
theorem d61_29 : fet 61 29 = .ok (.aload_n 0, 1) := by decide +kernel
theorem d61_30 : fet 61 30 = .ok (.getfield 20, 3) := by decide +kernel
theorem d61_33 : fet 61 33 = .ok (.aload_n 0, 1) := by decide +kernel
theorem d61_34 : fet 61 34 = .ok (.getfield 47, 3) := by decide +kernel
theorem d61_37 : fet 61 37 = .ok (.iload_n 3, 1) := by decide +kernel
theorem d61_38 : fet 61 38 = .ok (.iastore, 1) := by decide +kernel
theorem d61_39 : fet 61 39 = .ok (.aload_n 0, 1) := by decide +kernel
theorem d61_40 : fet 61 40 = .ok (.dup, 1) := by decide +kernel
theorem d61_41 : fet 61 41 = .ok (.getfield 47, 3) := by decide +kernel
theorem d61_44 : fet 61 44 = .ok (.iconst 1, 1) := by decide +kernel
theorem d61_45 : fet 61 45 = .ok (.iadd, 1) := by decide +kernel
theorem d61_46 : fet 61 46 = .ok (.putfield 47, 3) := by decide +kernel
theorem d61_49 : fet 61 49 = .ok (.return_, 1) := by decide +kernel
theorem o62 : own 62 = RX10 := by decide +kernel
theorem d62_0 : fet 62 0 = .ok (.aload_n 0, 1) := by decide +kernel
theorem d62_1 : fet 62 1 = .ok (.getfield 50, 3) := by decide +kernel
theorem d62_4 : fet 62 4 = .ok (.bipush 6, 2) := by decide +kernel
theorem d62_6 : fet 62 6 = .ok (.if_icmp .ge 31, 3) := by decide +kernel
theorem d62_9 : fet 62 9 = .ok (.aload_n 0, 1) := by decide +kernel
theorem d62_10 : fet 62 10 = .ok (.getfield 23, 3) := by decide +kernel
theorem d62_13 : fet 62 13 = .ok (.aload_n 0, 1) := by decide +kernel
theorem d62_14 : fet 62 14 = .ok (.getfield 50, 3) := by decide +kernel
theorem d62_17 : fet 62 17 = .ok (.aaload, 1) := by decide +kernel
theorem d62_18 : fet 62 18 = .ok (.aload_n 0, 1) := by decide +kernel
theorem d62_19 : fet 62 19 = .ok (.iload_n 1, 1) := by decide +kernel
theorem d62_20 : fet 62 20 = .ok (.invokevirtual 56, 3) := by decide +kernel
theorem d62_23 : fet 62 23 = .ok (.iload_n 2, 1) := by decide +kernel
theorem d62_24 : fet 62 24 = .ok (.invokevirtual 60, 3) := by decide +kernel
theorem d62_27 : fet 62 27 = .ok (.aload_n 0, 1) := by decide +kernel
theorem d62_28 : fet 62 28 = .ok (.dup, 1) := by decide +kernel
theorem d62_29 : fet 62 29 = .ok (.getfield 50, 3) := by decide +kernel
theorem d62_32 : fet 62 32 = .ok (.iconst 1, 1) := by decide +kernel
theorem d62_33 : fet 62 33 = .ok (.iadd, 1) := by decide +kernel
theorem d62_34 : fet 62 34 = .ok (.putfield 50, 3) := by decide +kernel
theorem d62_37 : fet 62 37 = .ok (.return_, 1) := by decide +kernel
theorem o63 : own 63 = RX10 := by decide +kernel
theorem d63_0 : fet 63 0 = .ok (.aload_n 0, 1) := by decide +kernel
theorem d63_1 : fet 63 1 = .ok (.getfield 53, 3) := by decide +kernel
theorem d63_4 : fet 63 4 = .ok (.iconst 4, 1) := by decide +kernel
theorem d63_5 : fet 63 5 = .ok (.if_icmp .ge 44, 3) := by decide +kernel
theorem d63_8 : fet 63 8 = .ok (.aload_n 0, 1) := by decide +kernel
theorem d63_9 : fet 63 9 = .ok (.getfield 27, 3) := by decide +kernel
theorem d63_12 : fet 63 12 = .ok (.aload_n 0, 1) := by decide +kernel
theorem d63_13 : fet 63 13 = .ok (.getfield 53, 3) := by decide +kernel
theorem d63_16 : fet 63 16 = .ok (.iload_n 1, 1) := by decide +kernel
theorem d63_17 : fet 63 17 = .ok (.iastore, 1) := by decide +kernel
theorem d63_18 : fet 63 18 = .ok (.aload_n 0, 1) := by decide +kernel
theorem d63_19 : fet 63 19 = .ok (.getfield 30, 3) := by decide +kernel
theorem d63_22 : fet 63 22 = .ok (.aload_n 0, 1) := by decide +kernel
theorem d63_23 : fet 63 23 = .ok (.getfield 53, 3) := by decide +kernel
theorem d63_26 : fet 63 26 = .ok (.iload_n 2, 1) := by decide +kernel
theorem d63_27 : fet 63 27 = .ok (.iastore, 1) := by decide +kernel
theorem d63_28 : fet 63 28 = .ok (.aload_n 0, 1) := by decide +kernel
theorem d63_29 : fet 63 29 = .ok (.getfield 33, 3) := by decide +kernel
theorem d63_32 : fet 63 32 = .ok (.aload_n 0, 1) := by decide +kernel
theorem d63_33 : fet 63 33 = .ok (.getfield 53, 3) := by decide +kernel
theorem d63_36 : fet 63 36 = .ok (.ldc 64, 2) := by decide +kernel
theorem d63_38 : fet 63 38 = .ok (.iastore, 1) := by decide +kernel
theorem d63_39 : fet 63 39 = .ok (.aload_n 0, 1) := by decide +kernel
theorem d63_40 : fet 63 40 = .ok (.dup, 1) := by decide +kernel
theorem d63_41 : fet 63 41 = .ok (.getfield 53, 3) := by decide +kernel
theorem d63_44 : fet 63 44 = .ok (.iconst 1, 1) := by decide +kernel
theorem d63_45 : fet 63 45 = .ok (.iadd, 1) := by decide +kernel
theorem d63_46 : fet 63 46 = .ok (.putfield 53, 3) := by decide +kernel
theorem d63_49 : fet 63 49 = .ok (.return_, 1) := by decide +kernel
theorem o64 : own 64 = RX10 := by decide +kernel
theorem d64_0 : fet 64 0 = .ok (.aload_n 0, 1) := by decide +kernel
theorem d64_1 : fet 64 1 = .ok (.getfield 36, 3) := by decide +kernel
theorem d64_4 : fet 64 4 = .ok (.iload_n 1, 1) := by decide +kernel
theorem d64_5 : fet 64 5 = .ok (.ifCond .lt 16, 3) := by decide +kernel
theorem d64_8 : fet 64 8 = .ok (.iload_n 1, 1) := by decide +kernel
theorem d64_9 : fet 64 9 = .ok (.aload_n 0, 1) := by decide +kernel
theorem d64_10 : fet 64 10 = .ok (.getfield 36, 3) := by decide +kernel
theorem d64_13 : fet 64 13 = .ok (.arraylength, 1) := by decide +kernel
theorem d64_14 : fet 64 14 = .ok (.if_icmp .ge 7, 3) := by decide +kernel
theorem d64_17 : fet 64 17 = .ok (.iload_n 1, 1) := by decide +kernel
theorem d64_18 : fet 64 18 = .ok (.goto 4, 3) := by decide +kernel
theorem d64_21 : fet 64 21 = .ok (.iconst 0, 1) := by decide +kernel
theorem d64_22 : fet 64 22 = .ok (.aaload, 1) := by decide +kernel
theorem d64_23 : fet 64 23 = .ok (.areturn, 1) := by decide +kernel
theorem o65 : own 65 = RX10 := by decide +kernel
theorem d65_0 : fet 65 0 = .ok (.iload_n 1, 1) := by decide +kernel
theorem d65_1 : fet 65 1 = .ok (.ifCond .lt 20, 3) := by decide +kernel
theorem d65_4 : fet 65 4 = .ok (.iload_n 1, 1) := by decide +kernel
theorem d65_5 : fet 65 5 = .ok (.aload_n 0, 1) := by decide +kernel
theorem d65_6 : fet 65 6 = .ok (.getfield 50, 3) := by decide +kernel
theorem d65_9 : fet 65 9 = .ok (.if_icmp .ge 12, 3) := by decide +kernel
theorem d65_12 : fet 65 12 = .ok (.aload_n 0, 1) := by decide +kernel
theorem d65_13 : fet 65 13 = .ok (.getfield 23, 3) := by decide +kernel
theorem d65_16 : fet 65 16 = .ok (.iload_n 1, 1) := by decide +kernel
theorem d65_17 : fet 65 17 = .ok (.aaload, 1) := by decide +kernel
theorem d65_18 : fet 65 18 = .ok (.goto 4, 3) := by decide +kernel
theorem d65_21 : fet 65 21 = .ok (.aconst_null, 1) := by decide +kernel
theorem d65_22 : fet 65 22 = .ok (.areturn, 1) := by decide +kernel
theorem o66 : own 66 = RX10 := by decide +kernel
theorem d66_0 : fet 66 0 = .ok (.iload_n 1, 1) := by decide +kernel
theorem d66_1 : fet 66 1 = .ok (.ifCond .lt 15, 3) := by decide +kernel
theorem d66_4 : fet 66 4 = .ok (.iload_n 1, 1) := by decide +kernel
theorem d66_5 : fet 66 5 = .ok (.aload_n 0, 1) := by decide +kernel
theorem d66_6 : fet 66 6 = .ok (.getfield 53, 3) := by decide +kernel
theorem d66_9 : fet 66 9 = .ok (.if_icmp .ge 7, 3) := by decide +kernel
theorem d66_12 : fet 66 12 = .ok (.iconst 1, 1) := by decide +kernel
theorem d66_13 : fet 66 13 = .ok (.goto 4, 3) := by decide +kernel
theorem d66_16 : fet 66 16 = .ok (.iconst 0, 1) := by decide +kernel
theorem d66_17 : fet 66 17 = .ok (.ireturn, 1) := by decide +kernel
theorem o67 : own 67 = RX10 := by decide +kernel
theorem d67_0 : fet 67 0 = .ok (.iconst 0, 1) := by decide +kernel
theorem d67_1 : fet 67 1 = .ok (.istore_n 2, 1) := by decide +kernel
theorem d67_2 : fet 67 2 = .ok (.iload_n 2, 1) := by decide +kernel
theorem d67_3 : fet 67 3 = .ok (.aload_n 0, 1) := by decide +kernel
theorem d67_4 : fet 67 4 = .ok (.getfield 50, 3) := by decide +kernel
theorem d67_7 : fet 67 7 = .ok (.if_icmp .ge 36, 3) := by decide +kernel
theorem d67_10 : fet 67 10 = .ok (.aload_n 0, 1) := by decide +kernel
theorem d67_11 : fet 67 11 = .ok (.getfield 23, 3) := by decide +kernel
theorem d67_14 : fet 67 14 = .ok (.iload_n 2, 1) := by decide +kernel
theorem d67_15 : fet 67 15 = .ok (.aaload, 1) := by decide +kernel
theorem d67_16 : fet 67 16 = .ok (.getfield 65, 3) := by decide +kernel
theorem d67_19 : fet 67 19 = .ok (.iload_n 1, 1) := by decide +kernel
theorem d67_20 : fet 67 20 = .ok (.if_icmp .ne 17, 3) := by decide +kernel
theorem d67_23 : fet 67 23 = .ok (.iload_n 1, 1) := by decide +kernel
theorem d67_24 : fet 67 24 = .ok (.invokestatic 68, 3) := by decide +kernel
theorem d67_27 : fet 67 27 = .ok (.ifCond .eq 10, 3) := by decide +kernel
theorem d67_30 : fet 67 30 = .ok (.aload_n 0, 1) := by decide +kernel
theorem d67_31 : fet 67 31 = .ok (.getfield 23, 3) := by decide +kernel
theorem d67_34 : fet 67 34 = .ok (.iload_n 2, 1) := by decide +kernel
theorem d67_35 : fet 67 35 = .ok (.aaload, 1) := by decide +kernel
theorem d67_36 : fet 67 36 = .ok (.areturn, 1) := by decide +kernel
theorem d67_37 : fet 67 37 = .ok (.iinc 2 1, 3) := by decide +kernel
theorem d67_40 : fet 67 40 = .ok (.goto (-38), 3) := by decide +kernel
theorem d67_43 : fet 67 43 = .ok (.aconst_null, 1) := by decide +kernel
theorem d67_44 : fet 67 44 = .ok (.areturn, 1) := by decide +kernel
theorem o68 : own 68 = RX10 := by decide +kernel
theorem d68_0 : fet 68 0 = .ok (.aload_n 0, 1) := by decide +kernel
theorem d68_1 : fet 68 1 = .ok (.iload_n 2, 1) := by decide +kernel
theorem d68_2 : fet 68 2 = .ok (.invokevirtual 72, 3) := by decide +kernel
theorem d68_5 : fet 68 5 = .ok (.astore_n 3, 1) := by decide +kernel
theorem d68_6 : fet 68 6 = .ok (.aload_n 3, 1) := by decide +kernel
theorem d68_7 : fet 68 7 = .ok (.ifnull 8, 3) := by decide +kernel
theorem d68_10 : fet 68 10 = .ok (.aload_n 3, 1) := by decide +kernel
theorem d68_11 : fet 68 11 = .ok (.aload_n 1, 1) := by decide +kernel
theorem d68_12 : fet 68 12 = .ok (.if_acmp .ne 7, 3) := by decide +kernel
theorem d68_15 : fet 68 15 = .ok (.iconst 1, 1) := by decide +kernel
theorem d68_16 : fet 68 16 = .ok (.goto 4, 3) := by decide +kernel
theorem d68_19 : fet 68 19 = .ok (.iconst 0, 1) := by decide +kernel
theorem d68_20 : fet 68 20 = .ok (.ireturn, 1) := by decide +kernel
theorem o69 : own 69 = RX10 := by decide +kernel
theorem d69_0 : fet 69 0 = .ok (.aload_n 0, 1) := by decide +kernel
theorem d69_1 : fet 69 1 = .ok (.getfield 33, 3) := by decide +kernel
theorem d69_4 : fet 69 4 = .ok (.iload_n 1, 1) := by decide +kernel
theorem d69_5 : fet 69 5 = .ok (.iaload, 1) := by decide +kernel
theorem d69_6 : fet 69 6 = .ok (.ldc 64, 2) := by decide +kernel
theorem d69_8 : fet 69 8 = .ok (.if_icmp .ne 38, 3) := by decide +kernel
theorem d69_11 : fet 69 11 = .ok (.aload_n 0, 1) := by decide +kernel
theorem d69_12 : fet 69 12 = .ok (.getfield 30, 3) := by decide +kernel
theorem d69_15 : fet 69 15 = .ok (.iload_n 1, 1) := by decide +kernel
theorem d69_16 : fet 69 16 = .ok (.iaload, 1) := by decide +kernel
theorem d69_17 : fet 69 17 = .ok (.aload_n 0, 1) := by decide +kernel
theorem d69_18 : fet 69 18 = .ok (.getfield 43, 3) := by decide +kernel
theorem d69_21 : fet 69 21 = .ok (.iload_n 3, 1) := by decide +kernel
theorem d69_22 : fet 69 22 = .ok (.iadd, 1) := by decide +kernel
theorem d69_23 : fet 69 23 = .ok (.if_icmp .gt 23, 3) := by decide +kernel
theorem d69_26 : fet 69 26 = .ok (.aload_n 0, 1) := by decide +kernel
theorem d69_27 : fet 69 27 = .ok (.getfield 27, 3) := by decide +kernel
theorem d69_30 : fet 69 30 = .ok (.iload_n 1, 1) := by decide +kernel
theorem d69_31 : fet 69 31 = .ok (.iaload, 1) := by decide +kernel
theorem d69_32 : fet 69 32 = .ok (.aload_n 2, 1) := by decide +kernel
theorem d69_33 : fet 69 33 = .ok (.getfield 76, 3) := by decide +kernel
theorem d69_36 : fet 69 36 = .ok (.getfield 80, 3) := by decide +kernel
theorem d69_39 : fet 69 39 = .ok (.if_icmp .ne 7, 3) := by decide +kernel
theorem d69_42 : fet 69 42 = .ok (.iconst 1, 1) := by decide +kernel
theorem d69_43 : fet 69 43 = .ok (.goto 4, 3) := by decide +kernel
theorem d69_46 : fet 69 46 = .ok (.iconst 0, 1) := by decide +kernel
theorem d69_47 : fet 69 47 = .ok (.ireturn, 1) := by decide +kernel
theorem o70 : own 70 = RX10 := by decide +kernel
theorem d70_0 : fet 70 0 = .ok (.aload_n 0, 1) := by decide +kernel
theorem d70_1 : fet 70 1 = .ok (.getfield 85, 3) := by decide +kernel
theorem d70_4 : fet 70 4 = .ok (.ifCond .le 27, 3) := by decide +kernel
theorem d70_7 : fet 70 7 = .ok (.aload_n 0, 1) := by decide +kernel
theorem d70_8 : fet 70 8 = .ok (.getfield 43, 3) := by decide +kernel
theorem d70_11 : fet 70 11 = .ok (.iload_n 1, 1) := by decide +kernel
theorem d70_12 : fet 70 12 = .ok (.iadd, 1) := by decide +kernel
theorem d70_13 : fet 70 13 = .ok (.aload_n 0, 1) := by decide +kernel
theorem d70_14 : fet 70 14 = .ok (.getfield 85, 3) := by decide +kernel
theorem d70_17 : fet 70 17 = .ok (.idiv, 1) := by decide +kernel
theorem d70_18 : fet 70 18 = .ok (.aload_n 0, 1) := by decide +kernel
theorem d70_19 : fet 70 19 = .ok (.getfield 43, 3) := by decide +kernel
theorem d70_22 : fet 70 22 = .ok (.aload_n 0, 1) := by decide +kernel
theorem d70_23 : fet 70 23 = .ok (.getfield 85, 3) := by decide +kernel
theorem d70_26 : fet 70 26 = .ok (.idiv, 1) := by decide +kernel
theorem d70_27 : fet 70 27 = .ok (.isub, 1) := by decide +kernel
theorem d70_28 : fet 70 28 = .ok (.goto 4, 3) := by decide +kernel
theorem d70_31 : fet 70 31 = .ok (.iconst 0, 1) := by decide +kernel
theorem d70_32 : fet 70 32 = .ok (.ireturn, 1) := by decide +kernel
theorem o71 : own 71 = RX10 := by decide +kernel
theorem d71_0 : fet 71 0 = .ok (.aload_n 0, 1) := by decide +kernel
theorem d71_1 : fet 71 1 = .ok (.iload_n 2, 1) := by decide +kernel
theorem d71_2 : fet 71 2 = .ok (.invokevirtual 88, 3) := by decide +kernel
theorem d71_5 : fet 71 5 = .ok (.istore_n 3, 1) := by decide +kernel
theorem d71_6 : fet 71 6 = .ok (.iconst 0, 1) := by decide +kernel
theorem d71_7 : fet 71 7 = .ok (.istore 4, 2) := by decide +kernel
theorem d71_9 : fet 71 9 = .ok (.iconst 0, 1) := by decide +kernel
theorem d71_10 : fet 71 10 = .ok (.istore 5, 2) := by decide +kernel
theorem d71_12 : fet 71 12 = .ok (.iload 5, 2) := by decide +kernel
theorem d71_14 : fet 71 14 = .ok (.aload_n 0, 1) := by decide +kernel
theorem d71_15 : fet 71 15 = .ok (.getfield 47, 3) := by decide +kernel
theorem d71_18 : fet 71 18 = .ok (.if_icmp .ge 83, 3) := by decide +kernel
theorem d71_21 : fet 71 21 = .ok (.aload_n 0, 1) := by decide +kernel
theorem d71_22 : fet 71 22 = .ok (.getfield 20, 3) := by decide +kernel
theorem d71_25 : fet 71 25 = .ok (.iload 5, 2) := by decide +kernel
theorem d71_27 : fet 71 27 = .ok (.iaload, 1) := by decide +kernel
theorem d71_28 : fet 71 28 = .ok (.iload_n 2, 1) := by decide +kernel
theorem d71_29 : fet 71 29 = .ok (.if_icmp .le 7, 3) := by decide +kernel
theorem d71_32 : fet 71 32 = .ok (.iconst 0, 1) := by decide +kernel
theorem d71_33 : fet 71 33 = .ok (.goto 16, 3) := by decide +kernel
theorem d71_36 : fet 71 36 = .ok (.iconst 0, 1) := by decide +kernel
theorem d71_37 : fet 71 37 = .ok (.aload_n 0, 1) := by decide +kernel
theorem d71_38 : fet 71 38 = .ok (.getfield 17, 3) := by decide +kernel
theorem d71_41 : fet 71 41 = .ok (.iload 5, 2) := by decide +kernel
theorem d71_43 : fet 71 43 = .ok (.iaload, 1) := by decide +kernel
theorem d71_44 : fet 71 44 = .ok (.iload_n 3, 1) := by decide +kernel
theorem d71_45 : fet 71 45 = .ok (.isub, 1) := by decide +kernel
theorem d71_46 : fet 71 46 = .ok (.invokestatic 92, 3) := by decide +kernel
theorem d71_49 : fet 71 49 = .ok (.istore 6, 2) := by decide +kernel
theorem d71_51 : fet 71 51 = .ok (.aload_n 0, 1) := by decide +kernel
theorem d71_52 : fet 71 52 = .ok (.getfield 11, 3) := by decide +kernel
theorem d71_55 : fet 71 55 = .ok (.iload 5, 2) := by decide +kernel
theorem d71_57 : fet 71 57 = .ok (.iaload, 1) := by decide +kernel
theorem d71_58 : fet 71 58 = .ok (.iload_n 1, 1) := by decide +kernel
theorem d71_59 : fet 71 59 = .ok (.if_icmp .ne 13, 3) := by decide +kernel
theorem d71_62 : fet 71 62 = .ok (.iload 4, 2) := by decide +kernel
theorem d71_64 : fet 71 64 = .ok (.iload 6, 2) := by decide +kernel
theorem d71_66 : fet 71 66 = .ok (.iadd, 1) := by decide +kernel
theorem d71_67 : fet 71 67 = .ok (.istore 4, 2) := by decide +kernel
theorem d71_69 : fet 71 69 = .ok (.goto 26, 3) := by decide +kernel
theorem d71_72 : fet 71 72 = .ok (.aload_n 0, 1) := by decide +kernel
theorem d71_73 : fet 71 73 = .ok (.getfield 11, 3) := by decide +kernel
theorem d71_76 : fet 71 76 = .ok (.iload 5, 2) := by decide +kernel
theorem d71_78 : fet 71 78 = .ok (.iaload, 1) := by decide +kernel
theorem d71_79 : fet 71 79 = .ok (.iload_n 1, 1) := by decide +kernel
theorem d71_80 : fet 71 80 = .ok (.invokestatic 98, 3) := by decide +kernel
theorem d71_83 : fet 71 83 = .ok (.ifCond .eq 12, 3) := by decide +kernel
theorem d71_86 : fet 71 86 = .ok (.iload 4, 2) := by decide +kernel
theorem d71_88 : fet 71 88 = .ok (.iload 6, 2) := by decide +kernel
theorem d71_90 : fet 71 90 = .ok (.iconst 2, 1) := by decide +kernel
theorem d71_91 : fet 71 91 = .ok (.idiv, 1) := by decide +kernel
theorem d71_92 : fet 71 92 = .ok (.iadd, 1) := by decide +kernel
theorem d71_93 : fet 71 93 = .ok (.istore 4, 2) := by decide +kernel
theorem d71_95 : fet 71 95 = .ok (.iinc 5 1, 3) := by decide +kernel
theorem d71_98 : fet 71 98 = .ok (.goto (-86), 3) := by decide +kernel
theorem d71_101 : fet 71 101 = .ok (.iload 4, 2) := by decide +kernel
theorem d71_103 : fet 71 103 = .ok (.ireturn, 1) := by decide +kernel
end
section
/-! words of the tables, by place (printed by wip/whole/p10.py) -/
theorem tbs {ws : List Cond} (ps : List Nat) (hp : ws.map some = ps.map (fun i => lw_tbl[i]?)) (hg : ws.all goodWord = true) : ∀ w ∈ ws, w ∈ TBL := by
  intro w hw
  have h1 : some w ∈ ps.map (fun i => lw_tbl[i]?) := by rw [← hp]; exact List.mem_map.mpr ⟨w, hw, rfl⟩
  obtain ⟨i, -, hi0⟩ := List.mem_map.mp h1
  exact tb i hi0 (List.all_eq_true.mp hg w hw)
theorem pl {h : Hp} {p : Nat} (hN : hn h = 65) (hp : Nat.blt p 65 = true) : p < hn h := by rw [hN]; exact Nat.lt_of_lt_of_le (Nat.le_of_ble_eq_true hp) (Nat.le_refl _)
theorem uw0 : ∀ w ∈ u_ws RX0 TX0 4, w ∈ TBL := tbs [224, 225, 226, 227] (by decide +kernel) (by decide +kernel)
theorem ck0 : ClsOK (RX0, TX0, 4) := ⟨⟨tyX0, tyX0_ok⟩, nmX0⟩
theorem uw1 : ∀ w ∈ u_ws RX1 TX1 4, w ∈ TBL := tbs [202, 203, 204, 205] (by decide +kernel) (by decide +kernel)
theorem ck1 : ClsOK (RX1, TX1, 4) := ⟨⟨tyX1, tyX1_ok⟩, nmX1⟩
theorem uw2 : ∀ w ∈ u_ws RX2 TX2 4, w ∈ TBL := tbs [235, 236, 237, 238] (by decide +kernel) (by decide +kernel)
theorem ck2 : ClsOK (RX2, TX2, 4) := ⟨⟨tyX2, tyX2_ok⟩, nmX2⟩
theorem uw3 : ∀ w ∈ u_ws RX3 TX3 4, w ∈ TBL := tbs [176, 178, 180, 182] (by decide +kernel) (by decide +kernel)
theorem ck3 : ClsOK (RX3, TX3, 4) := ⟨⟨tyX3, tyX3_ok⟩, nmX3⟩
theorem uw4 : ∀ w ∈ u_ws RX4 TX4 6, w ∈ TBL := tbs [128, 130, 132, 134, 136, 138] (by decide +kernel) (by decide +kernel)
theorem ck4 : ClsOK (RX4, TX4, 6) := ⟨⟨tyX4, tyX4_ok⟩, nmX4⟩
theorem uw5 : ∀ w ∈ u_ws RX5 TX5 3, w ∈ TBL := tbs [105, 107, 109] (by decide +kernel) (by decide +kernel)
theorem ck5 : ClsOK (RX5, TX5, 3) := ⟨⟨tyX5, tyX5_ok⟩, nmX5⟩
theorem uw6 : ∀ w ∈ u_ws RX6 TX6 4, w ∈ TBL := tbs [191, 192, 193, 194] (by decide +kernel) (by decide +kernel)
theorem ck6 : ClsOK (RX6, TX6, 4) := ⟨⟨tyX6, tyX6_ok⟩, nmX6⟩
theorem uw7 : ∀ w ∈ u_ws RX7 TX7 4, w ∈ TBL := tbs [213, 214, 215, 216] (by decide +kernel) (by decide +kernel)
theorem ck7 : ClsOK (RX7, TX7, 4) := ⟨⟨tyX7, tyX7_ok⟩, nmX7⟩
theorem uw8 : ∀ w ∈ u_ws RX8 TX8 8, w ∈ TBL := tbs [268, 270, 272, 274, 276, 278, 280, 282] (by decide +kernel) (by decide +kernel)
theorem ck8 : ClsOK (RX8, TX8, 8) := ⟨⟨tyX8, tyX8_ok⟩, nmX8⟩
theorem uw9 : ∀ w ∈ u_ws RX9 TX9 2, w ∈ TBL := tbs [151, 153] (by decide +kernel) (by decide +kernel)
theorem ck9 : ClsOK (RX9, TX9, 2) := ⟨⟨tyX9, tyX9_ok⟩, nmX9⟩
theorem uw10 : ∀ w ∈ u_ws RX10 TX10 14, w ∈ TBL := tbs [324, 326, 328, 330, 332, 334, 336, 338, 340, 342, 344, 346, 348, 350] (by decide +kernel) (by decide +kernel)
theorem ck10 : ClsOK (RX10, TX10, 14) := ⟨⟨tyX10, tyX10_ok⟩, nmX10⟩
theorem uw11 : ∀ w ∈ u_ws RX11 TX11 17, w ∈ TBL := tbs [370, 372, 374, 376, 378, 380, 382, 384, 386, 388, 390, 392, 394, 396, 398, 400, 402] (by decide +kernel) (by decide +kernel)
theorem ck11 : ClsOK (RX11, TX11, 17) := ⟨⟨tyX11, tyX11_ok⟩, nmX11⟩
theorem uw12 : ∀ w ∈ u_ws RX12 TX12 24, w ∈ TBL := tbs [1024, 1026, 1028, 1030, 1032, 1034, 1036, 1038, 1040, 1042, 1044, 1046, 1048, 1050, 1052, 1054, 1056, 1058, 1060, 1062, 1064, 1066, 1068, 1070] (by decide +kernel) (by decide +kernel)
theorem ck12 : ClsOK (RX12, TX12, 24) := ⟨⟨tyX12, tyX12_ok⟩, nmX12⟩
theorem sh0 : SH 0 = (0, 11) := rfl
theorem sh1 : SH 1 = (0, 5) := rfl
theorem sh2 : SH 2 = (1, 320) := rfl
theorem sh3 : SH 3 = (1, 8) := rfl
theorem sh4 : SH 4 = (1, 8) := rfl
theorem sh5 : SH 5 = (0, 4) := rfl
theorem sh6 : SH 6 = (1, 160) := rfl
theorem sh7 : SH 7 = (0, 9) := rfl
theorem sh8 : SH 8 = (1, 16) := rfl
theorem sh9 : SH 9 = (3, 6) := rfl
theorem sh10 : SH 10 = (0, 3) := rfl
theorem sh11 : SH 11 = (0, 6) := rfl
theorem sh12 : SH 12 = (0, 1) := rfl
theorem sh13 : SH 13 = (0, 7) := rfl
theorem sh14 : SH 14 = (0, 0) := rfl
theorem sh15 : SH 15 = (0, 2) := rfl
theorem sh16 : SH 16 = (0, 8) := rfl
theorem sh17 : SH 17 = (0, 10) := rfl
theorem sh18 : SH 18 = (1, 8) := rfl
theorem sh19 : SH 19 = (1, 8) := rfl
theorem sh20 : SH 20 = (1, 8) := rfl
theorem sh21 : SH 21 = (4, 6) := rfl
theorem sh22 : SH 22 = (1, 4) := rfl
theorem sh23 : SH 23 = (1, 4) := rfl
theorem sh24 : SH 24 = (1, 4) := rfl
theorem sh25 : SH 25 = (0, 8) := rfl
theorem sh26 : SH 26 = (0, 8) := rfl
theorem sh27 : SH 27 = (0, 8) := rfl
theorem sh28 : SH 28 = (0, 8) := rfl
theorem sh29 : SH 29 = (0, 8) := rfl
theorem sh30 : SH 30 = (0, 8) := rfl
theorem sh31 : SH 31 = (0, 10) := rfl
theorem sh32 : SH 32 = (1, 8) := rfl
theorem sh33 : SH 33 = (1, 8) := rfl
theorem sh34 : SH 34 = (1, 8) := rfl
theorem sh35 : SH 35 = (4, 6) := rfl
theorem sh36 : SH 36 = (1, 4) := rfl
theorem sh37 : SH 37 = (1, 4) := rfl
theorem sh38 : SH 38 = (1, 4) := rfl
theorem sh39 : SH 39 = (0, 8) := rfl
theorem sh40 : SH 40 = (0, 8) := rfl
theorem sh41 : SH 41 = (0, 8) := rfl
theorem sh42 : SH 42 = (0, 8) := rfl
theorem sh43 : SH 43 = (0, 8) := rfl
theorem sh44 : SH 44 = (0, 8) := rfl
theorem sh45 : SH 45 = (1, 2016) := rfl
theorem sh46 : SH 46 = (1, 168) := rfl
theorem sh47 : SH 47 = (2, 2) := rfl
theorem sh48 : SH 48 = (1, 84) := rfl
theorem sh49 : SH 49 = (1, 60) := rfl
theorem sh50 : SH 50 = (0, 12) := rfl
theorem sh51 : SH 51 = (1, 85) := rfl
theorem sh52 : SH 52 = (1, 170) := rfl
theorem sh53 : SH 53 = (2, 2) := rfl
theorem sh54 : SH 54 = (1, 1584) := rfl
theorem sh55 : SH 55 = (1, 8) := rfl
theorem sh56 : SH 56 = (1, 8) := rfl
theorem sh57 : SH 57 = (1, 320) := rfl
theorem sh58 : SH 58 = (1, 160) := rfl
theorem sh59 : SH 59 = (1, 85) := rfl
theorem sh60 : SH 60 = (1, 6) := rfl
theorem sh61 : SH 61 = (1, 66) := rfl
theorem sh62 : SH 62 = (2, 6) := rfl
theorem sh63 : SH 63 = (1, 4) := rfl
theorem sh64 : SH 64 = (1, 16) := rfl
end
section
theorem m0 : MI 0 := ⟨(tb 222 (by decide +kernel) rfl), (tb 221 (by decide +kernel) rfl), (tb 80 (by decide +kernel) rfl), ⟨by decide +kernel, by decide +kernel, by decide +kernel⟩⟩
theorem m1 : MI 1 := ⟨(tb 928 (by decide +kernel) rfl), (tb 927 (by decide +kernel) rfl), (tb 80 (by decide +kernel) rfl), ⟨by decide +kernel, by decide +kernel, by decide +kernel⟩⟩
theorem m2 : MI 2 := ⟨(tb 971 (by decide +kernel) rfl), (tb 970 (by decide +kernel) rfl), (tb 80 (by decide +kernel) rfl), ⟨by decide +kernel, by decide +kernel, by decide +kernel⟩⟩
theorem m3 : MI 3 := ⟨(tb 200 (by decide +kernel) rfl), (tb 199 (by decide +kernel) rfl), (tb 78 (by decide +kernel) rfl), ⟨by decide +kernel, by decide +kernel, by decide +kernel⟩⟩
theorem m4 : MI 4 := ⟨(tb 936 (by decide +kernel) rfl), (tb 935 (by decide +kernel) rfl), (tb 78 (by decide +kernel) rfl), ⟨by decide +kernel, by decide +kernel, by decide +kernel⟩⟩
theorem m5 : MI 5 := ⟨(tb 949 (by decide +kernel) rfl), (tb 948 (by decide +kernel) rfl), (tb 78 (by decide +kernel) rfl), ⟨by decide +kernel, by decide +kernel, by decide +kernel⟩⟩
theorem m6 : MI 6 := ⟨(tb 233 (by decide +kernel) rfl), (tb 232 (by decide +kernel) rfl), (tb 81 (by decide +kernel) rfl), ⟨by decide +kernel, by decide +kernel, by decide +kernel⟩⟩
theorem m7 : MI 7 := ⟨(tb 963 (by decide +kernel) rfl), (tb 962 (by decide +kernel) rfl), (tb 81 (by decide +kernel) rfl), ⟨by decide +kernel, by decide +kernel, by decide +kernel⟩⟩
theorem m8 : MI 8 := ⟨(tb 164 (by decide +kernel) rfl), (tb 163 (by decide +kernel) rfl), (tb 76 (by decide +kernel) rfl), ⟨by decide +kernel, by decide +kernel, by decide +kernel⟩⟩
theorem m9 : MI 9 := ⟨(tb 647 (by decide +kernel) rfl), (tb 639 (by decide +kernel) rfl), (tb 76 (by decide +kernel) rfl), ⟨by decide +kernel, by decide +kernel, by decide +kernel⟩⟩
theorem m10 : MI 10 := ⟨(tb 636 (by decide +kernel) rfl), (tb 626 (by decide +kernel) rfl), (tb 76 (by decide +kernel) rfl), ⟨by decide +kernel, by decide +kernel, by decide +kernel⟩⟩
theorem m11 : MI 11 := ⟨(tb 968 (by decide +kernel) rfl), (tb 923 (by decide +kernel) rfl), (tb 76 (by decide +kernel) rfl), ⟨by decide +kernel, by decide +kernel, by decide +kernel⟩⟩
theorem m12 : MI 12 := ⟨(tb 959 (by decide +kernel) rfl), (tb 958 (by decide +kernel) rfl), (tb 76 (by decide +kernel) rfl), ⟨by decide +kernel, by decide +kernel, by decide +kernel⟩⟩
theorem m13 : MI 13 := ⟨(tb 117 (by decide +kernel) rfl), (tb 116 (by decide +kernel) rfl), (tb 74 (by decide +kernel) rfl), ⟨by decide +kernel, by decide +kernel, by decide +kernel⟩⟩
theorem m14 : MI 14 := ⟨(tb 474 (by decide +kernel) rfl), (tb 472 (by decide +kernel) rfl), (tb 74 (by decide +kernel) rfl), ⟨by decide +kernel, by decide +kernel, by decide +kernel⟩⟩
theorem m15 : MI 15 := ⟨(tb 483 (by decide +kernel) rfl), (tb 481 (by decide +kernel) rfl), (tb 74 (by decide +kernel) rfl), ⟨by decide +kernel, by decide +kernel, by decide +kernel⟩⟩
theorem m16 : MI 16 := ⟨(tb 491 (by decide +kernel) rfl), (tb 489 (by decide +kernel) rfl), (tb 74 (by decide +kernel) rfl), ⟨by decide +kernel, by decide +kernel, by decide +kernel⟩⟩
theorem m17 : MI 17 := ⟨(tb 514 (by decide +kernel) rfl), (tb 512 (by decide +kernel) rfl), (tb 74 (by decide +kernel) rfl), ⟨by decide +kernel, by decide +kernel, by decide +kernel⟩⟩
theorem m18 : MI 18 := ⟨(tb 526 (by decide +kernel) rfl), (tb 524 (by decide +kernel) rfl), (tb 74 (by decide +kernel) rfl), ⟨by decide +kernel, by decide +kernel, by decide +kernel⟩⟩
theorem m19 : MI 19 := ⟨(tb 553 (by decide +kernel) rfl), (tb 551 (by decide +kernel) rfl), (tb 74 (by decide +kernel) rfl), ⟨by decide +kernel, by decide +kernel, by decide +kernel⟩⟩
theorem m20 : MI 20 := ⟨(tb 499 (by decide +kernel) rfl), (tb 497 (by decide +kernel) rfl), (tb 74 (by decide +kernel) rfl), ⟨by decide +kernel, by decide +kernel, by decide +kernel⟩⟩
theorem m21 : MI 21 := ⟨(tb 495 (by decide +kernel) rfl), (tb 493 (by decide +kernel) rfl), (tb 74 (by decide +kernel) rfl), ⟨by decide +kernel, by decide +kernel, by decide +kernel⟩⟩
theorem m22 : MI 22 := ⟨(tb 530 (by decide +kernel) rfl), (tb 528 (by decide +kernel) rfl), (tb 74 (by decide +kernel) rfl), ⟨by decide +kernel, by decide +kernel, by decide +kernel⟩⟩
theorem m23 : MI 23 := ⟨(tb 507 (by decide +kernel) rfl), (tb 505 (by decide +kernel) rfl), (tb 74 (by decide +kernel) rfl), ⟨by decide +kernel, by decide +kernel, by decide +kernel⟩⟩
theorem m24 : MI 24 := ⟨(tb 503 (by decide +kernel) rfl), (tb 501 (by decide +kernel) rfl), (tb 74 (by decide +kernel) rfl), ⟨by decide +kernel, by decide +kernel, by decide +kernel⟩⟩
theorem m25 : MSt 25 := ⟨(tb 510 (by decide +kernel) rfl), (tb 509 (by decide +kernel) rfl), (tb 74 (by decide +kernel) rfl), ⟨by decide +kernel, by decide +kernel, by decide +kernel⟩⟩
theorem m26 : MSt 26 := ⟨(tb 521 (by decide +kernel) rfl), (tb 520 (by decide +kernel) rfl), (tb 74 (by decide +kernel) rfl), ⟨by decide +kernel, by decide +kernel, by decide +kernel⟩⟩
theorem m27 : MI 27 := ⟨(tb 100 (by decide +kernel) rfl), (tb 99 (by decide +kernel) rfl), (tb 73 (by decide +kernel) rfl), ⟨by decide +kernel, by decide +kernel, by decide +kernel⟩⟩
theorem m28 : MI 28 := ⟨(tb 413 (by decide +kernel) rfl), (tb 411 (by decide +kernel) rfl), (tb 73 (by decide +kernel) rfl), ⟨by decide +kernel, by decide +kernel, by decide +kernel⟩⟩
theorem m29 : MI 29 := ⟨(tb 435 (by decide +kernel) rfl), (tb 433 (by decide +kernel) rfl), (tb 73 (by decide +kernel) rfl), ⟨by decide +kernel, by decide +kernel, by decide +kernel⟩⟩
theorem m30 : MI 30 := ⟨(tb 451 (by decide +kernel) rfl), (tb 449 (by decide +kernel) rfl), (tb 73 (by decide +kernel) rfl), ⟨by decide +kernel, by decide +kernel, by decide +kernel⟩⟩
theorem m31 : MI 31 := ⟨(tb 439 (by decide +kernel) rfl), (tb 437 (by decide +kernel) rfl), (tb 73 (by decide +kernel) rfl), ⟨by decide +kernel, by decide +kernel, by decide +kernel⟩⟩
theorem m32 : MI 32 := ⟨(tb 423 (by decide +kernel) rfl), (tb 421 (by decide +kernel) rfl), (tb 73 (by decide +kernel) rfl), ⟨by decide +kernel, by decide +kernel, by decide +kernel⟩⟩
theorem m33 : MI 33 := ⟨(tb 887 (by decide +kernel) rfl), (tb 885 (by decide +kernel) rfl), (tb 73 (by decide +kernel) rfl), ⟨by decide +kernel, by decide +kernel, by decide +kernel⟩⟩
theorem m34 : MI 34 := ⟨(tb 443 (by decide +kernel) rfl), (tb 441 (by decide +kernel) rfl), (tb 73 (by decide +kernel) rfl), ⟨by decide +kernel, by decide +kernel, by decide +kernel⟩⟩
theorem m35 : MI 35 := ⟨(tb 455 (by decide +kernel) rfl), (tb 453 (by decide +kernel) rfl), (tb 73 (by decide +kernel) rfl), ⟨by decide +kernel, by decide +kernel, by decide +kernel⟩⟩
theorem m36 : MI 36 := ⟨(tb 466 (by decide +kernel) rfl), (tb 464 (by decide +kernel) rfl), (tb 73 (by decide +kernel) rfl), ⟨by decide +kernel, by decide +kernel, by decide +kernel⟩⟩
theorem m37 : MI 37 := ⟨(tb 985 (by decide +kernel) rfl), (tb 983 (by decide +kernel) rfl), (tb 73 (by decide +kernel) rfl), ⟨by decide +kernel, by decide +kernel, by decide +kernel⟩⟩
theorem m38 : MI 38 := ⟨(tb 189 (by decide +kernel) rfl), (tb 188 (by decide +kernel) rfl), (tb 77 (by decide +kernel) rfl), ⟨by decide +kernel, by decide +kernel, by decide +kernel⟩⟩
theorem m39 : MI 39 := ⟨(tb 632 (by decide +kernel) rfl), (tb 631 (by decide +kernel) rfl), (tb 77 (by decide +kernel) rfl), ⟨by decide +kernel, by decide +kernel, by decide +kernel⟩⟩
theorem m40 : MI 40 := ⟨(tb 940 (by decide +kernel) rfl), (tb 939 (by decide +kernel) rfl), (tb 77 (by decide +kernel) rfl), ⟨by decide +kernel, by decide +kernel, by decide +kernel⟩⟩
theorem m41 : MI 41 := ⟨(tb 956 (by decide +kernel) rfl), (tb 944 (by decide +kernel) rfl), (tb 77 (by decide +kernel) rfl), ⟨by decide +kernel, by decide +kernel, by decide +kernel⟩⟩
theorem m42 : MI 42 := ⟨(tb 211 (by decide +kernel) rfl), (tb 210 (by decide +kernel) rfl), (tb 79 (by decide +kernel) rfl), ⟨by decide +kernel, by decide +kernel, by decide +kernel⟩⟩
theorem m43 : MI 43 := ⟨(tb 953 (by decide +kernel) rfl), (tb 952 (by decide +kernel) rfl), (tb 79 (by decide +kernel) rfl), ⟨by decide +kernel, by decide +kernel, by decide +kernel⟩⟩
theorem m44 : MI 44 := ⟨(tb 244 (by decide +kernel) rfl), (tb 243 (by decide +kernel) rfl), (tb 82 (by decide +kernel) rfl), ⟨by decide +kernel, by decide +kernel, by decide +kernel⟩⟩
theorem m45 : MI 45 := ⟨(tb 549 (by decide +kernel) rfl), (tb 547 (by decide +kernel) rfl), (tb 82 (by decide +kernel) rfl), ⟨by decide +kernel, by decide +kernel, by decide +kernel⟩⟩
theorem m46 : MI 46 := ⟨(tb 773 (by decide +kernel) rfl), (tb 771 (by decide +kernel) rfl), (tb 82 (by decide +kernel) rfl), ⟨by decide +kernel, by decide +kernel, by decide +kernel⟩⟩
theorem m47 : MI 47 := ⟨(tb 651 (by decide +kernel) rfl), (tb 649 (by decide +kernel) rfl), (tb 82 (by decide +kernel) rfl), ⟨by decide +kernel, by decide +kernel, by decide +kernel⟩⟩
theorem m48 : MI 48 := ⟨(tb 711 (by decide +kernel) rfl), (tb 709 (by decide +kernel) rfl), (tb 82 (by decide +kernel) rfl), ⟨by decide +kernel, by decide +kernel, by decide +kernel⟩⟩
theorem m49 : MI 49 := ⟨(tb 707 (by decide +kernel) rfl), (tb 705 (by decide +kernel) rfl), (tb 82 (by decide +kernel) rfl), ⟨by decide +kernel, by decide +kernel, by decide +kernel⟩⟩
theorem m50 : MI 50 := ⟨(tb 741 (by decide +kernel) rfl), (tb 739 (by decide +kernel) rfl), (tb 82 (by decide +kernel) rfl), ⟨by decide +kernel, by decide +kernel, by decide +kernel⟩⟩
theorem m51 : MI 51 := ⟨(tb 668 (by decide +kernel) rfl), (tb 666 (by decide +kernel) rfl), (tb 82 (by decide +kernel) rfl), ⟨by decide +kernel, by decide +kernel, by decide +kernel⟩⟩
theorem m52 : MI 52 := ⟨(tb 624 (by decide +kernel) rfl), (tb 622 (by decide +kernel) rfl), (tb 82 (by decide +kernel) rfl), ⟨by decide +kernel, by decide +kernel, by decide +kernel⟩⟩
theorem m53 : MI 53 := ⟨(tb 620 (by decide +kernel) rfl), (tb 618 (by decide +kernel) rfl), (tb 82 (by decide +kernel) rfl), ⟨by decide +kernel, by decide +kernel, by decide +kernel⟩⟩
theorem m54 : MI 54 := ⟨(tb 655 (by decide +kernel) rfl), (tb 653 (by decide +kernel) rfl), (tb 82 (by decide +kernel) rfl), ⟨by decide +kernel, by decide +kernel, by decide +kernel⟩⟩
theorem m55 : MI 55 := ⟨(tb 581 (by decide +kernel) rfl), (tb 579 (by decide +kernel) rfl), (tb 82 (by decide +kernel) rfl), ⟨by decide +kernel, by decide +kernel, by decide +kernel⟩⟩
theorem m56 : MI 56 := ⟨(tb 732 (by decide +kernel) rfl), (tb 730 (by decide +kernel) rfl), (tb 82 (by decide +kernel) rfl), ⟨by decide +kernel, by decide +kernel, by decide +kernel⟩⟩
theorem m57 : MI 57 := ⟨(tb 145 (by decide +kernel) rfl), (tb 144 (by decide +kernel) rfl), (tb 75 (by decide +kernel) rfl), ⟨by decide +kernel, by decide +kernel, by decide +kernel⟩⟩
theorem m58 : MI 58 := ⟨(tb 932 (by decide +kernel) rfl), (tb 930 (by decide +kernel) rfl), (tb 75 (by decide +kernel) rfl), ⟨by decide +kernel, by decide +kernel, by decide +kernel⟩⟩
theorem m59 : MI 59 := ⟨(tb 289 (by decide +kernel) rfl), (tb 288 (by decide +kernel) rfl), (tb 83 (by decide +kernel) rfl), ⟨by decide +kernel, by decide +kernel, by decide +kernel⟩⟩
theorem m60 : MI 60 := ⟨(tb 487 (by decide +kernel) rfl), (tb 485 (by decide +kernel) rfl), (tb 83 (by decide +kernel) rfl), ⟨by decide +kernel, by decide +kernel, by decide +kernel⟩⟩
theorem m61 : MI 61 := ⟨(tb 518 (by decide +kernel) rfl), (tb 516 (by decide +kernel) rfl), (tb 83 (by decide +kernel) rfl), ⟨by decide +kernel, by decide +kernel, by decide +kernel⟩⟩
theorem m62 : MI 62 := ⟨(tb 541 (by decide +kernel) rfl), (tb 539 (by decide +kernel) rfl), (tb 83 (by decide +kernel) rfl), ⟨by decide +kernel, by decide +kernel, by decide +kernel⟩⟩
theorem m63 : MI 63 := ⟨(tb 557 (by decide +kernel) rfl), (tb 555 (by decide +kernel) rfl), (tb 83 (by decide +kernel) rfl), ⟨by decide +kernel, by decide +kernel, by decide +kernel⟩⟩
theorem m64 : MI 64 := ⟨(tb 545 (by decide +kernel) rfl), (tb 543 (by decide +kernel) rfl), (tb 83 (by decide +kernel) rfl), ⟨by decide +kernel, by decide +kernel, by decide +kernel⟩⟩
theorem m65 : MI 65 := ⟨(tb 663 (by decide +kernel) rfl), (tb 661 (by decide +kernel) rfl), (tb 83 (by decide +kernel) rfl), ⟨by decide +kernel, by decide +kernel, by decide +kernel⟩⟩
theorem m66 : MI 66 := ⟨(tb 703 (by decide +kernel) rfl), (tb 701 (by decide +kernel) rfl), (tb 83 (by decide +kernel) rfl), ⟨by decide +kernel, by decide +kernel, by decide +kernel⟩⟩
theorem m67 : MI 67 := ⟨(tb 534 (by decide +kernel) rfl), (tb 532 (by decide +kernel) rfl), (tb 83 (by decide +kernel) rfl), ⟨by decide +kernel, by decide +kernel, by decide +kernel⟩⟩
theorem m68 : MI 68 := ⟨(tb 676 (by decide +kernel) rfl), (tb 674 (by decide +kernel) rfl), (tb 83 (by decide +kernel) rfl), ⟨by decide +kernel, by decide +kernel, by decide +kernel⟩⟩
theorem m69 : MI 69 := ⟨(tb 715 (by decide +kernel) rfl), (tb 713 (by decide +kernel) rfl), (tb 83 (by decide +kernel) rfl), ⟨by decide +kernel, by decide +kernel, by decide +kernel⟩⟩
theorem m70 : MI 70 := ⟨(tb 603 (by decide +kernel) rfl), (tb 601 (by decide +kernel) rfl), (tb 83 (by decide +kernel) rfl), ⟨by decide +kernel, by decide +kernel, by decide +kernel⟩⟩
theorem m71 : MI 71 := ⟨(tb 599 (by decide +kernel) rfl), (tb 597 (by decide +kernel) rfl), (tb 83 (by decide +kernel) rfl), ⟨by decide +kernel, by decide +kernel, by decide +kernel⟩⟩
theorem m72 : MSt 72 := ⟨(tb 609 (by decide +kernel) rfl), (tb 608 (by decide +kernel) rfl), (tb 83 (by decide +kernel) rfl), ⟨by decide +kernel, by decide +kernel, by decide +kernel⟩⟩
theorem m73 : MI 73 := ⟨(tb 616 (by decide +kernel) rfl), (tb 614 (by decide +kernel) rfl), (tb 83 (by decide +kernel) rfl), ⟨by decide +kernel, by decide +kernel, by decide +kernel⟩⟩
theorem m74 : MI 74 := ⟨(tb 595 (by decide +kernel) rfl), (tb 593 (by decide +kernel) rfl), (tb 83 (by decide +kernel) rfl), ⟨by decide +kernel, by decide +kernel, by decide +kernel⟩⟩
theorem m75 : MI 75 := ⟨(tb 591 (by decide +kernel) rfl), (tb 589 (by decide +kernel) rfl), (tb 83 (by decide +kernel) rfl), ⟨by decide +kernel, by decide +kernel, by decide +kernel⟩⟩
theorem m76 : MI 76 := ⟨(tb 691 (by decide +kernel) rfl), (tb 689 (by decide +kernel) rfl), (tb 83 (by decide +kernel) rfl), ⟨by decide +kernel, by decide +kernel, by decide +kernel⟩⟩
theorem m77 : MI 77 := ⟨(tb 695 (by decide +kernel) rfl), (tb 693 (by decide +kernel) rfl), (tb 83 (by decide +kernel) rfl), ⟨by decide +kernel, by decide +kernel, by decide +kernel⟩⟩
theorem m78 : MI 78 := ⟨(tb 895 (by decide +kernel) rfl), (tb 893 (by decide +kernel) rfl), (tb 83 (by decide +kernel) rfl), ⟨by decide +kernel, by decide +kernel, by decide +kernel⟩⟩
theorem m79 : MI 79 := ⟨(tb 719 (by decide +kernel) rfl), (tb 717 (by decide +kernel) rfl), (tb 83 (by decide +kernel) rfl), ⟨by decide +kernel, by decide +kernel, by decide +kernel⟩⟩
theorem m80 : MI 80 := ⟨(tb 866 (by decide +kernel) rfl), (tb 864 (by decide +kernel) rfl), (tb 83 (by decide +kernel) rfl), ⟨by decide +kernel, by decide +kernel, by decide +kernel⟩⟩
theorem m81 : MI 81 := ⟨(tb 870 (by decide +kernel) rfl), (tb 868 (by decide +kernel) rfl), (tb 83 (by decide +kernel) rfl), ⟨by decide +kernel, by decide +kernel, by decide +kernel⟩⟩
theorem m82 : MI 82 := ⟨(tb 874 (by decide +kernel) rfl), (tb 872 (by decide +kernel) rfl), (tb 83 (by decide +kernel) rfl), ⟨by decide +kernel, by decide +kernel, by decide +kernel⟩⟩
theorem m83 : MI 83 := ⟨(tb 576 (by decide +kernel) rfl), (tb 574 (by decide +kernel) rfl), (tb 83 (by decide +kernel) rfl), ⟨by decide +kernel, by decide +kernel, by decide +kernel⟩⟩
theorem m84 : MI 84 := ⟨(tb 728 (by decide +kernel) rfl), (tb 726 (by decide +kernel) rfl), (tb 83 (by decide +kernel) rfl), ⟨by decide +kernel, by decide +kernel, by decide +kernel⟩⟩
theorem m85 : MI 85 := ⟨(tb 92 (by decide +kernel) rfl), (tb 91 (by decide +kernel) rfl), (tb 72 (by decide +kernel) rfl), ⟨by decide +kernel, by decide +kernel, by decide +kernel⟩⟩
theorem m86 : MSt 86 := ⟨(tb 158 (by decide +kernel) rfl), (tb 157 (by decide +kernel) rfl), (tb 72 (by decide +kernel) rfl), ⟨by decide +kernel, by decide +kernel, by decide +kernel⟩⟩
theorem m87 : MI 87 := ⟨(tb 409 (by decide +kernel) rfl), (tb 407 (by decide +kernel) rfl), (tb 72 (by decide +kernel) rfl), ⟨by decide +kernel, by decide +kernel, by decide +kernel⟩⟩
theorem m88 : MI 88 := ⟨(tb 431 (by decide +kernel) rfl), (tb 429 (by decide +kernel) rfl), (tb 72 (by decide +kernel) rfl), ⟨by decide +kernel, by decide +kernel, by decide +kernel⟩⟩
theorem m89 : MI 89 := ⟨(tb 447 (by decide +kernel) rfl), (tb 445 (by decide +kernel) rfl), (tb 72 (by decide +kernel) rfl), ⟨by decide +kernel, by decide +kernel, by decide +kernel⟩⟩
theorem m90 : MI 90 := ⟨(tb 462 (by decide +kernel) rfl), (tb 460 (by decide +kernel) rfl), (tb 72 (by decide +kernel) rfl), ⟨by decide +kernel, by decide +kernel, by decide +kernel⟩⟩
theorem m91 : MI 91 := ⟨(tb 418 (by decide +kernel) rfl), (tb 417 (by decide +kernel) rfl), (tb 72 (by decide +kernel) rfl), ⟨by decide +kernel, by decide +kernel, by decide +kernel⟩⟩
theorem m92 : MI 92 := ⟨(tb 427 (by decide +kernel) rfl), (tb 426 (by decide +kernel) rfl), (tb 72 (by decide +kernel) rfl), ⟨by decide +kernel, by decide +kernel, by decide +kernel⟩⟩
theorem m93 : MI 93 := ⟨(tb 470 (by decide +kernel) rfl), (tb 468 (by decide +kernel) rfl), (tb 72 (by decide +kernel) rfl), ⟨by decide +kernel, by decide +kernel, by decide +kernel⟩⟩
theorem m94 : MI 94 := ⟨(tb 479 (by decide +kernel) rfl), (tb 477 (by decide +kernel) rfl), (tb 72 (by decide +kernel) rfl), ⟨by decide +kernel, by decide +kernel, by decide +kernel⟩⟩
theorem m95 : MI 95 := ⟨(tb 563 (by decide +kernel) rfl), (tb 561 (by decide +kernel) rfl), (tb 72 (by decide +kernel) rfl), ⟨by decide +kernel, by decide +kernel, by decide +kernel⟩⟩
theorem m96 : MI 96 := ⟨(tb 567 (by decide +kernel) rfl), (tb 565 (by decide +kernel) rfl), (tb 72 (by decide +kernel) rfl), ⟨by decide +kernel, by decide +kernel, by decide +kernel⟩⟩
theorem m97 : MI 97 := ⟨(tb 659 (by decide +kernel) rfl), (tb 657 (by decide +kernel) rfl), (tb 72 (by decide +kernel) rfl), ⟨by decide +kernel, by decide +kernel, by decide +kernel⟩⟩
theorem m98 : MI 98 := ⟨(tb 672 (by decide +kernel) rfl), (tb 670 (by decide +kernel) rfl), (tb 72 (by decide +kernel) rfl), ⟨by decide +kernel, by decide +kernel, by decide +kernel⟩⟩
theorem m99 : MI 99 := ⟨(tb 681 (by decide +kernel) rfl), (tb 679 (by decide +kernel) rfl), (tb 72 (by decide +kernel) rfl), ⟨by decide +kernel, by decide +kernel, by decide +kernel⟩⟩
theorem m100 : MI 100 := ⟨(tb 687 (by decide +kernel) rfl), (tb 685 (by decide +kernel) rfl), (tb 72 (by decide +kernel) rfl), ⟨by decide +kernel, by decide +kernel, by decide +kernel⟩⟩
theorem m101 : MI 101 := ⟨(tb 699 (by decide +kernel) rfl), (tb 697 (by decide +kernel) rfl), (tb 72 (by decide +kernel) rfl), ⟨by decide +kernel, by decide +kernel, by decide +kernel⟩⟩
theorem m102 : MI 102 := ⟨(tb 724 (by decide +kernel) rfl), (tb 722 (by decide +kernel) rfl), (tb 72 (by decide +kernel) rfl), ⟨by decide +kernel, by decide +kernel, by decide +kernel⟩⟩
theorem m103 : MI 103 := ⟨(tb 572 (by decide +kernel) rfl), (tb 571 (by decide +kernel) rfl), (tb 72 (by decide +kernel) rfl), ⟨by decide +kernel, by decide +kernel, by decide +kernel⟩⟩
theorem m104 : MI 104 := ⟨(tb 736 (by decide +kernel) rfl), (tb 734 (by decide +kernel) rfl), (tb 72 (by decide +kernel) rfl), ⟨by decide +kernel, by decide +kernel, by decide +kernel⟩⟩
theorem m105 : MI 105 := ⟨(tb 747 (by decide +kernel) rfl), (tb 745 (by decide +kernel) rfl), (tb 72 (by decide +kernel) rfl), ⟨by decide +kernel, by decide +kernel, by decide +kernel⟩⟩
theorem m106 : MI 106 := ⟨(tb 751 (by decide +kernel) rfl), (tb 749 (by decide +kernel) rfl), (tb 72 (by decide +kernel) rfl), ⟨by decide +kernel, by decide +kernel, by decide +kernel⟩⟩
theorem m107 : MI 107 := ⟨(tb 755 (by decide +kernel) rfl), (tb 753 (by decide +kernel) rfl), (tb 72 (by decide +kernel) rfl), ⟨by decide +kernel, by decide +kernel, by decide +kernel⟩⟩
theorem m108 : MSt 108 := ⟨(tb 584 (by decide +kernel) rfl), (tb 583 (by decide +kernel) rfl), (tb 72 (by decide +kernel) rfl), ⟨by decide +kernel, by decide +kernel, by decide +kernel⟩⟩
theorem m109 : MSt 109 := ⟨(tb 537 (by decide +kernel) rfl), (tb 536 (by decide +kernel) rfl), (tb 72 (by decide +kernel) rfl), ⟨by decide +kernel, by decide +kernel, by decide +kernel⟩⟩
theorem m110 : MI 110 := ⟨(tb 779 (by decide +kernel) rfl), (tb 777 (by decide +kernel) rfl), (tb 72 (by decide +kernel) rfl), ⟨by decide +kernel, by decide +kernel, by decide +kernel⟩⟩
theorem m111 : MI 111 := ⟨(tb 759 (by decide +kernel) rfl), (tb 757 (by decide +kernel) rfl), (tb 72 (by decide +kernel) rfl), ⟨by decide +kernel, by decide +kernel, by decide +kernel⟩⟩
theorem m112 : MSt 112 := ⟨(tb 762 (by decide +kernel) rfl), (tb 761 (by decide +kernel) rfl), (tb 72 (by decide +kernel) rfl), ⟨by decide +kernel, by decide +kernel, by decide +kernel⟩⟩
theorem m113 : MI 113 := ⟨(tb 769 (by decide +kernel) rfl), (tb 768 (by decide +kernel) rfl), (tb 72 (by decide +kernel) rfl), ⟨by decide +kernel, by decide +kernel, by decide +kernel⟩⟩
theorem m114 : MI 114 := ⟨(tb 784 (by decide +kernel) rfl), (tb 782 (by decide +kernel) rfl), (tb 72 (by decide +kernel) rfl), ⟨by decide +kernel, by decide +kernel, by decide +kernel⟩⟩
theorem m115 : MI 115 := ⟨(tb 792 (by decide +kernel) rfl), (tb 790 (by decide +kernel) rfl), (tb 72 (by decide +kernel) rfl), ⟨by decide +kernel, by decide +kernel, by decide +kernel⟩⟩
theorem m116 : MI 116 := ⟨(tb 796 (by decide +kernel) rfl), (tb 794 (by decide +kernel) rfl), (tb 72 (by decide +kernel) rfl), ⟨by decide +kernel, by decide +kernel, by decide +kernel⟩⟩
theorem m117 : MI 117 := ⟨(tb 788 (by decide +kernel) rfl), (tb 787 (by decide +kernel) rfl), (tb 72 (by decide +kernel) rfl), ⟨by decide +kernel, by decide +kernel, by decide +kernel⟩⟩
theorem m118 : MI 118 := ⟨(tb 800 (by decide +kernel) rfl), (tb 798 (by decide +kernel) rfl), (tb 72 (by decide +kernel) rfl), ⟨by decide +kernel, by decide +kernel, by decide +kernel⟩⟩
theorem m119 : MI 119 := ⟨(tb 804 (by decide +kernel) rfl), (tb 803 (by decide +kernel) rfl), (tb 72 (by decide +kernel) rfl), ⟨by decide +kernel, by decide +kernel, by decide +kernel⟩⟩
theorem m120 : MI 120 := ⟨(tb 808 (by decide +kernel) rfl), (tb 807 (by decide +kernel) rfl), (tb 72 (by decide +kernel) rfl), ⟨by decide +kernel, by decide +kernel, by decide +kernel⟩⟩
theorem m121 : MI 121 := ⟨(tb 822 (by decide +kernel) rfl), (tb 821 (by decide +kernel) rfl), (tb 72 (by decide +kernel) rfl), ⟨by decide +kernel, by decide +kernel, by decide +kernel⟩⟩
theorem m122 : MI 122 := ⟨(tb 812 (by decide +kernel) rfl), (tb 811 (by decide +kernel) rfl), (tb 72 (by decide +kernel) rfl), ⟨by decide +kernel, by decide +kernel, by decide +kernel⟩⟩
theorem m123 : MI 123 := ⟨(tb 827 (by decide +kernel) rfl), (tb 825 (by decide +kernel) rfl), (tb 72 (by decide +kernel) rfl), ⟨by decide +kernel, by decide +kernel, by decide +kernel⟩⟩
theorem m124 : MI 124 := ⟨(tb 831 (by decide +kernel) rfl), (tb 830 (by decide +kernel) rfl), (tb 72 (by decide +kernel) rfl), ⟨by decide +kernel, by decide +kernel, by decide +kernel⟩⟩
theorem m125 : MI 125 := ⟨(tb 836 (by decide +kernel) rfl), (tb 834 (by decide +kernel) rfl), (tb 72 (by decide +kernel) rfl), ⟨by decide +kernel, by decide +kernel, by decide +kernel⟩⟩
theorem m126 : MI 126 := ⟨(tb 840 (by decide +kernel) rfl), (tb 839 (by decide +kernel) rfl), (tb 72 (by decide +kernel) rfl), ⟨by decide +kernel, by decide +kernel, by decide +kernel⟩⟩
theorem m127 : MI 127 := ⟨(tb 846 (by decide +kernel) rfl), (tb 844 (by decide +kernel) rfl), (tb 72 (by decide +kernel) rfl), ⟨by decide +kernel, by decide +kernel, by decide +kernel⟩⟩
theorem m128 : MI 128 := ⟨(tb 850 (by decide +kernel) rfl), (tb 849 (by decide +kernel) rfl), (tb 72 (by decide +kernel) rfl), ⟨by decide +kernel, by decide +kernel, by decide +kernel⟩⟩
theorem m129 : MI 129 := ⟨(tb 854 (by decide +kernel) rfl), (tb 853 (by decide +kernel) rfl), (tb 72 (by decide +kernel) rfl), ⟨by decide +kernel, by decide +kernel, by decide +kernel⟩⟩
theorem m130 : MI 130 := ⟨(tb 858 (by decide +kernel) rfl), (tb 856 (by decide +kernel) rfl), (tb 72 (by decide +kernel) rfl), ⟨by decide +kernel, by decide +kernel, by decide +kernel⟩⟩
theorem m131 : MI 131 := ⟨(tb 879 (by decide +kernel) rfl), (tb 877 (by decide +kernel) rfl), (tb 72 (by decide +kernel) rfl), ⟨by decide +kernel, by decide +kernel, by decide +kernel⟩⟩
theorem m132 : MI 132 := ⟨(tb 883 (by decide +kernel) rfl), (tb 882 (by decide +kernel) rfl), (tb 72 (by decide +kernel) rfl), ⟨by decide +kernel, by decide +kernel, by decide +kernel⟩⟩
theorem m133 : MI 133 := ⟨(tb 862 (by decide +kernel) rfl), (tb 861 (by decide +kernel) rfl), (tb 72 (by decide +kernel) rfl), ⟨by decide +kernel, by decide +kernel, by decide +kernel⟩⟩
theorem m134 : MI 134 := ⟨(tb 891 (by decide +kernel) rfl), (tb 889 (by decide +kernel) rfl), (tb 72 (by decide +kernel) rfl), ⟨by decide +kernel, by decide +kernel, by decide +kernel⟩⟩
theorem m135 : MI 135 := ⟨(tb 899 (by decide +kernel) rfl), (tb 897 (by decide +kernel) rfl), (tb 72 (by decide +kernel) rfl), ⟨by decide +kernel, by decide +kernel, by decide +kernel⟩⟩
theorem m136 : MI 136 := ⟨(tb 906 (by decide +kernel) rfl), (tb 904 (by decide +kernel) rfl), (tb 72 (by decide +kernel) rfl), ⟨by decide +kernel, by decide +kernel, by decide +kernel⟩⟩
theorem m137 : MSt 137 := ⟨(tb 902 (by decide +kernel) rfl), (tb 901 (by decide +kernel) rfl), (tb 72 (by decide +kernel) rfl), ⟨by decide +kernel, by decide +kernel, by decide +kernel⟩⟩
theorem m138 : MI 138 := ⟨(tb 910 (by decide +kernel) rfl), (tb 908 (by decide +kernel) rfl), (tb 72 (by decide +kernel) rfl), ⟨by decide +kernel, by decide +kernel, by decide +kernel⟩⟩
theorem m139 : MI 139 := ⟨(tb 914 (by decide +kernel) rfl), (tb 912 (by decide +kernel) rfl), (tb 72 (by decide +kernel) rfl), ⟨by decide +kernel, by decide +kernel, by decide +kernel⟩⟩
theorem m140 : MSt 140 := ⟨(tb 917 (by decide +kernel) rfl), (tb 916 (by decide +kernel) rfl), (tb 72 (by decide +kernel) rfl), ⟨by decide +kernel, by decide +kernel, by decide +kernel⟩⟩
theorem m141 : MI 141 := ⟨(tb 921 (by decide +kernel) rfl), (tb 919 (by decide +kernel) rfl), (tb 72 (by decide +kernel) rfl), ⟨by decide +kernel, by decide +kernel, by decide +kernel⟩⟩
theorem m142 : MI 142 := ⟨(tb 977 (by decide +kernel) rfl), (tb 975 (by decide +kernel) rfl), (tb 72 (by decide +kernel) rfl), ⟨by decide +kernel, by decide +kernel, by decide +kernel⟩⟩
theorem m143 : MI 143 := ⟨(tb 981 (by decide +kernel) rfl), (tb 979 (by decide +kernel) rfl), (tb 72 (by decide +kernel) rfl), ⟨by decide +kernel, by decide +kernel, by decide +kernel⟩⟩
theorem m144 : MI 144 := ⟨(tb 992 (by decide +kernel) rfl), (tb 990 (by decide +kernel) rfl), (tb 72 (by decide +kernel) rfl), ⟨by decide +kernel, by decide +kernel, by decide +kernel⟩⟩
theorem m145 : MI 145 := ⟨(tb 997 (by decide +kernel) rfl), (tb 996 (by decide +kernel) rfl), (tb 84 (by decide +kernel) rfl), ⟨by decide +kernel, by decide +kernel, by decide +kernel⟩⟩
theorem m146 : MSt 146 := ⟨(tb 1082 (by decide +kernel) rfl), (tb 1081 (by decide +kernel) rfl), (tb 84 (by decide +kernel) rfl), ⟨by decide +kernel, by decide +kernel, by decide +kernel⟩⟩
theorem m147 : MSt 147 := ⟨(tb 1373 (by decide +kernel) rfl), (tb 1372 (by decide +kernel) rfl), (tb 84 (by decide +kernel) rfl), ⟨by decide +kernel, by decide +kernel, by decide +kernel⟩⟩
theorem m148 : MI 148 := ⟨(tb 1087 (by decide +kernel) rfl), (tb 1086 (by decide +kernel) rfl), (tb 84 (by decide +kernel) rfl), ⟨by decide +kernel, by decide +kernel, by decide +kernel⟩⟩
theorem m149 : MI 149 := ⟨(tb 1092 (by decide +kernel) rfl), (tb 1091 (by decide +kernel) rfl), (tb 84 (by decide +kernel) rfl), ⟨by decide +kernel, by decide +kernel, by decide +kernel⟩⟩
theorem m150 : MSt 150 := ⟨(tb 1079 (by decide +kernel) rfl), (tb 1078 (by decide +kernel) rfl), (tb 84 (by decide +kernel) rfl), ⟨by decide +kernel, by decide +kernel, by decide +kernel⟩⟩
theorem m151 : MI 151 := ⟨(tb 1076 (by decide +kernel) rfl), (tb 1074 (by decide +kernel) rfl), (tb 84 (by decide +kernel) rfl), ⟨by decide +kernel, by decide +kernel, by decide +kernel⟩⟩
theorem m152 : MI 152 := ⟨(tb 1096 (by decide +kernel) rfl), (tb 1094 (by decide +kernel) rfl), (tb 84 (by decide +kernel) rfl), ⟨by decide +kernel, by decide +kernel, by decide +kernel⟩⟩
theorem m153 : MI 153 := ⟨(tb 1104 (by decide +kernel) rfl), (tb 1103 (by decide +kernel) rfl), (tb 84 (by decide +kernel) rfl), ⟨by decide +kernel, by decide +kernel, by decide +kernel⟩⟩
theorem m154 : MI 154 := ⟨(tb 1100 (by decide +kernel) rfl), (tb 1098 (by decide +kernel) rfl), (tb 84 (by decide +kernel) rfl), ⟨by decide +kernel, by decide +kernel, by decide +kernel⟩⟩
theorem m155 : MI 155 := ⟨(tb 1108 (by decide +kernel) rfl), (tb 1106 (by decide +kernel) rfl), (tb 84 (by decide +kernel) rfl), ⟨by decide +kernel, by decide +kernel, by decide +kernel⟩⟩
theorem m156 : MI 156 := ⟨(tb 1112 (by decide +kernel) rfl), (tb 1110 (by decide +kernel) rfl), (tb 84 (by decide +kernel) rfl), ⟨by decide +kernel, by decide +kernel, by decide +kernel⟩⟩
theorem m157 : MI 157 := ⟨(tb 1125 (by decide +kernel) rfl), (tb 1124 (by decide +kernel) rfl), (tb 84 (by decide +kernel) rfl), ⟨by decide +kernel, by decide +kernel, by decide +kernel⟩⟩
theorem m158 : MI 158 := ⟨(tb 1121 (by decide +kernel) rfl), (tb 1120 (by decide +kernel) rfl), (tb 84 (by decide +kernel) rfl), ⟨by decide +kernel, by decide +kernel, by decide +kernel⟩⟩
theorem m159 : MI 159 := ⟨(tb 1133 (by decide +kernel) rfl), (tb 1132 (by decide +kernel) rfl), (tb 84 (by decide +kernel) rfl), ⟨by decide +kernel, by decide +kernel, by decide +kernel⟩⟩
theorem m160 : MI 160 := ⟨(tb 1137 (by decide +kernel) rfl), (tb 1136 (by decide +kernel) rfl), (tb 84 (by decide +kernel) rfl), ⟨by decide +kernel, by decide +kernel, by decide +kernel⟩⟩
theorem m161 : MI 161 := ⟨(tb 1149 (by decide +kernel) rfl), (tb 1148 (by decide +kernel) rfl), (tb 84 (by decide +kernel) rfl), ⟨by decide +kernel, by decide +kernel, by decide +kernel⟩⟩
theorem m162 : MI 162 := ⟨(tb 1145 (by decide +kernel) rfl), (tb 1144 (by decide +kernel) rfl), (tb 84 (by decide +kernel) rfl), ⟨by decide +kernel, by decide +kernel, by decide +kernel⟩⟩
theorem m163 : MI 163 := ⟨(tb 1141 (by decide +kernel) rfl), (tb 1140 (by decide +kernel) rfl), (tb 84 (by decide +kernel) rfl), ⟨by decide +kernel, by decide +kernel, by decide +kernel⟩⟩
theorem m164 : MI 164 := ⟨(tb 1161 (by decide +kernel) rfl), (tb 1160 (by decide +kernel) rfl), (tb 84 (by decide +kernel) rfl), ⟨by decide +kernel, by decide +kernel, by decide +kernel⟩⟩
theorem m165 : MI 165 := ⟨(tb 1157 (by decide +kernel) rfl), (tb 1156 (by decide +kernel) rfl), (tb 84 (by decide +kernel) rfl), ⟨by decide +kernel, by decide +kernel, by decide +kernel⟩⟩
theorem m166 : MI 166 := ⟨(tb 1129 (by decide +kernel) rfl), (tb 1128 (by decide +kernel) rfl), (tb 84 (by decide +kernel) rfl), ⟨by decide +kernel, by decide +kernel, by decide +kernel⟩⟩
theorem m167 : MI 167 := ⟨(tb 1153 (by decide +kernel) rfl), (tb 1152 (by decide +kernel) rfl), (tb 84 (by decide +kernel) rfl), ⟨by decide +kernel, by decide +kernel, by decide +kernel⟩⟩
theorem m168 : MI 168 := ⟨(tb 1169 (by decide +kernel) rfl), (tb 1168 (by decide +kernel) rfl), (tb 84 (by decide +kernel) rfl), ⟨by decide +kernel, by decide +kernel, by decide +kernel⟩⟩
theorem m169 : MI 169 := ⟨(tb 1165 (by decide +kernel) rfl), (tb 1164 (by decide +kernel) rfl), (tb 84 (by decide +kernel) rfl), ⟨by decide +kernel, by decide +kernel, by decide +kernel⟩⟩
theorem m170 : MI 170 := ⟨(tb 1173 (by decide +kernel) rfl), (tb 1172 (by decide +kernel) rfl), (tb 84 (by decide +kernel) rfl), ⟨by decide +kernel, by decide +kernel, by decide +kernel⟩⟩
theorem m171 : MI 171 := ⟨(tb 1117 (by decide +kernel) rfl), (tb 1115 (by decide +kernel) rfl), (tb 84 (by decide +kernel) rfl), ⟨by decide +kernel, by decide +kernel, by decide +kernel⟩⟩
theorem m172 : MI 172 := ⟨(tb 1178 (by decide +kernel) rfl), (tb 1176 (by decide +kernel) rfl), (tb 84 (by decide +kernel) rfl), ⟨by decide +kernel, by decide +kernel, by decide +kernel⟩⟩
theorem m173 : MI 173 := ⟨(tb 1186 (by decide +kernel) rfl), (tb 1185 (by decide +kernel) rfl), (tb 84 (by decide +kernel) rfl), ⟨by decide +kernel, by decide +kernel, by decide +kernel⟩⟩
theorem m174 : MI 174 := ⟨(tb 1243 (by decide +kernel) rfl), (tb 1242 (by decide +kernel) rfl), (tb 84 (by decide +kernel) rfl), ⟨by decide +kernel, by decide +kernel, by decide +kernel⟩⟩
theorem m175 : MI 175 := ⟨(tb 1199 (by decide +kernel) rfl), (tb 1198 (by decide +kernel) rfl), (tb 84 (by decide +kernel) rfl), ⟨by decide +kernel, by decide +kernel, by decide +kernel⟩⟩
theorem m176 : MI 176 := ⟨(tb 1220 (by decide +kernel) rfl), (tb 1219 (by decide +kernel) rfl), (tb 84 (by decide +kernel) rfl), ⟨by decide +kernel, by decide +kernel, by decide +kernel⟩⟩
theorem m177 : MSt 177 := ⟨(tb 1212 (by decide +kernel) rfl), (tb 1211 (by decide +kernel) rfl), (tb 84 (by decide +kernel) rfl), ⟨by decide +kernel, by decide +kernel, by decide +kernel⟩⟩
theorem m178 : MI 178 := ⟨(tb 1216 (by decide +kernel) rfl), (tb 1215 (by decide +kernel) rfl), (tb 84 (by decide +kernel) rfl), ⟨by decide +kernel, by decide +kernel, by decide +kernel⟩⟩
theorem m179 : MI 179 := ⟨(tb 1319 (by decide +kernel) rfl), (tb 1318 (by decide +kernel) rfl), (tb 84 (by decide +kernel) rfl), ⟨by decide +kernel, by decide +kernel, by decide +kernel⟩⟩
theorem m180 : MSt 180 := ⟨(tb 1209 (by decide +kernel) rfl), (tb 1208 (by decide +kernel) rfl), (tb 84 (by decide +kernel) rfl), ⟨by decide +kernel, by decide +kernel, by decide +kernel⟩⟩
theorem m181 : MSt 181 := ⟨(tb 1206 (by decide +kernel) rfl), (tb 1205 (by decide +kernel) rfl), (tb 84 (by decide +kernel) rfl), ⟨by decide +kernel, by decide +kernel, by decide +kernel⟩⟩
theorem m182 : MI 182 := ⟨(tb 1203 (by decide +kernel) rfl), (tb 1202 (by decide +kernel) rfl), (tb 84 (by decide +kernel) rfl), ⟨by decide +kernel, by decide +kernel, by decide +kernel⟩⟩
theorem m183 : MI 183 := ⟨(tb 1231 (by decide +kernel) rfl), (tb 1230 (by decide +kernel) rfl), (tb 84 (by decide +kernel) rfl), ⟨by decide +kernel, by decide +kernel, by decide +kernel⟩⟩
theorem m184 : MI 184 := ⟨(tb 1279 (by decide +kernel) rfl), (tb 1278 (by decide +kernel) rfl), (tb 84 (by decide +kernel) rfl), ⟨by decide +kernel, by decide +kernel, by decide +kernel⟩⟩
theorem m185 : MI 185 := ⟨(tb 1235 (by decide +kernel) rfl), (tb 1234 (by decide +kernel) rfl), (tb 84 (by decide +kernel) rfl), ⟨by decide +kernel, by decide +kernel, by decide +kernel⟩⟩
theorem m186 : MSt 186 := ⟨(tb 1227 (by decide +kernel) rfl), (tb 1226 (by decide +kernel) rfl), (tb 84 (by decide +kernel) rfl), ⟨by decide +kernel, by decide +kernel, by decide +kernel⟩⟩
theorem m187 : MI 187 := ⟨(tb 1224 (by decide +kernel) rfl), (tb 1223 (by decide +kernel) rfl), (tb 84 (by decide +kernel) rfl), ⟨by decide +kernel, by decide +kernel, by decide +kernel⟩⟩
theorem m188 : MI 188 := ⟨(tb 1195 (by decide +kernel) rfl), (tb 1194 (by decide +kernel) rfl), (tb 84 (by decide +kernel) rfl), ⟨by decide +kernel, by decide +kernel, by decide +kernel⟩⟩
theorem m189 : MI 189 := ⟨(tb 1191 (by decide +kernel) rfl), (tb 1190 (by decide +kernel) rfl), (tb 84 (by decide +kernel) rfl), ⟨by decide +kernel, by decide +kernel, by decide +kernel⟩⟩
theorem m190 : MI 190 := ⟨(tb 1182 (by decide +kernel) rfl), (tb 1180 (by decide +kernel) rfl), (tb 84 (by decide +kernel) rfl), ⟨by decide +kernel, by decide +kernel, by decide +kernel⟩⟩
theorem m191 : MI 191 := ⟨(tb 1239 (by decide +kernel) rfl), (tb 1237 (by decide +kernel) rfl), (tb 84 (by decide +kernel) rfl), ⟨by decide +kernel, by decide +kernel, by decide +kernel⟩⟩
theorem m192 : MI 192 := ⟨(tb 1251 (by decide +kernel) rfl), (tb 1250 (by decide +kernel) rfl), (tb 84 (by decide +kernel) rfl), ⟨by decide +kernel, by decide +kernel, by decide +kernel⟩⟩
theorem m193 : MI 193 := ⟨(tb 1247 (by decide +kernel) rfl), (tb 1245 (by decide +kernel) rfl), (tb 84 (by decide +kernel) rfl), ⟨by decide +kernel, by decide +kernel, by decide +kernel⟩⟩
theorem m194 : MI 194 := ⟨(tb 1259 (by decide +kernel) rfl), (tb 1258 (by decide +kernel) rfl), (tb 84 (by decide +kernel) rfl), ⟨by decide +kernel, by decide +kernel, by decide +kernel⟩⟩
theorem m195 : MI 195 := ⟨(tb 1255 (by decide +kernel) rfl), (tb 1253 (by decide +kernel) rfl), (tb 84 (by decide +kernel) rfl), ⟨by decide +kernel, by decide +kernel, by decide +kernel⟩⟩
theorem m196 : MI 196 := ⟨(tb 1263 (by decide +kernel) rfl), (tb 1261 (by decide +kernel) rfl), (tb 84 (by decide +kernel) rfl), ⟨by decide +kernel, by decide +kernel, by decide +kernel⟩⟩
theorem m197 : MI 197 := ⟨(tb 1275 (by decide +kernel) rfl), (tb 1274 (by decide +kernel) rfl), (tb 84 (by decide +kernel) rfl), ⟨by decide +kernel, by decide +kernel, by decide +kernel⟩⟩
theorem m198 : MI 198 := ⟨(tb 1271 (by decide +kernel) rfl), (tb 1270 (by decide +kernel) rfl), (tb 84 (by decide +kernel) rfl), ⟨by decide +kernel, by decide +kernel, by decide +kernel⟩⟩
theorem m199 : MI 199 := ⟨(tb 1283 (by decide +kernel) rfl), (tb 1282 (by decide +kernel) rfl), (tb 84 (by decide +kernel) rfl), ⟨by decide +kernel, by decide +kernel, by decide +kernel⟩⟩
theorem m200 : MI 200 := ⟨(tb 1267 (by decide +kernel) rfl), (tb 1265 (by decide +kernel) rfl), (tb 84 (by decide +kernel) rfl), ⟨by decide +kernel, by decide +kernel, by decide +kernel⟩⟩
theorem m201 : MI 201 := ⟨(tb 1287 (by decide +kernel) rfl), (tb 1285 (by decide +kernel) rfl), (tb 84 (by decide +kernel) rfl), ⟨by decide +kernel, by decide +kernel, by decide +kernel⟩⟩
theorem m202 : MI 202 := ⟨(tb 1291 (by decide +kernel) rfl), (tb 1289 (by decide +kernel) rfl), (tb 84 (by decide +kernel) rfl), ⟨by decide +kernel, by decide +kernel, by decide +kernel⟩⟩
theorem m203 : MI 203 := ⟨(tb 1295 (by decide +kernel) rfl), (tb 1293 (by decide +kernel) rfl), (tb 84 (by decide +kernel) rfl), ⟨by decide +kernel, by decide +kernel, by decide +kernel⟩⟩
theorem m204 : MI 204 := ⟨(tb 1299 (by decide +kernel) rfl), (tb 1297 (by decide +kernel) rfl), (tb 84 (by decide +kernel) rfl), ⟨by decide +kernel, by decide +kernel, by decide +kernel⟩⟩
theorem m205 : MI 205 := ⟨(tb 1303 (by decide +kernel) rfl), (tb 1301 (by decide +kernel) rfl), (tb 84 (by decide +kernel) rfl), ⟨by decide +kernel, by decide +kernel, by decide +kernel⟩⟩
theorem m206 : MI 206 := ⟨(tb 1311 (by decide +kernel) rfl), (tb 1310 (by decide +kernel) rfl), (tb 84 (by decide +kernel) rfl), ⟨by decide +kernel, by decide +kernel, by decide +kernel⟩⟩
theorem m207 : MI 207 := ⟨(tb 1323 (by decide +kernel) rfl), (tb 1322 (by decide +kernel) rfl), (tb 84 (by decide +kernel) rfl), ⟨by decide +kernel, by decide +kernel, by decide +kernel⟩⟩
theorem m208 : MI 208 := ⟨(tb 1315 (by decide +kernel) rfl), (tb 1314 (by decide +kernel) rfl), (tb 84 (by decide +kernel) rfl), ⟨by decide +kernel, by decide +kernel, by decide +kernel⟩⟩
theorem m209 : MI 209 := ⟨(tb 1307 (by decide +kernel) rfl), (tb 1305 (by decide +kernel) rfl), (tb 84 (by decide +kernel) rfl), ⟨by decide +kernel, by decide +kernel, by decide +kernel⟩⟩
theorem m210 : MI 210 := ⟨(tb 1327 (by decide +kernel) rfl), (tb 1325 (by decide +kernel) rfl), (tb 84 (by decide +kernel) rfl), ⟨by decide +kernel, by decide +kernel, by decide +kernel⟩⟩
theorem m211 : MI 211 := ⟨(tb 1335 (by decide +kernel) rfl), (tb 1334 (by decide +kernel) rfl), (tb 84 (by decide +kernel) rfl), ⟨by decide +kernel, by decide +kernel, by decide +kernel⟩⟩
theorem m212 : MI 212 := ⟨(tb 1331 (by decide +kernel) rfl), (tb 1329 (by decide +kernel) rfl), (tb 84 (by decide +kernel) rfl), ⟨by decide +kernel, by decide +kernel, by decide +kernel⟩⟩
theorem m213 : MI 213 := ⟨(tb 1339 (by decide +kernel) rfl), (tb 1337 (by decide +kernel) rfl), (tb 84 (by decide +kernel) rfl), ⟨by decide +kernel, by decide +kernel, by decide +kernel⟩⟩
theorem m214 : MI 214 := ⟨(tb 1343 (by decide +kernel) rfl), (tb 1341 (by decide +kernel) rfl), (tb 84 (by decide +kernel) rfl), ⟨by decide +kernel, by decide +kernel, by decide +kernel⟩⟩
theorem m215 : MSt 215 := ⟨(tb 1350 (by decide +kernel) rfl), (tb 1349 (by decide +kernel) rfl), (tb 84 (by decide +kernel) rfl), ⟨by decide +kernel, by decide +kernel, by decide +kernel⟩⟩
theorem m216 : MI 216 := ⟨(tb 1354 (by decide +kernel) rfl), (tb 1353 (by decide +kernel) rfl), (tb 84 (by decide +kernel) rfl), ⟨by decide +kernel, by decide +kernel, by decide +kernel⟩⟩
theorem m217 : MI 217 := ⟨(tb 1347 (by decide +kernel) rfl), (tb 1345 (by decide +kernel) rfl), (tb 84 (by decide +kernel) rfl), ⟨by decide +kernel, by decide +kernel, by decide +kernel⟩⟩
theorem m218 : MI 218 := ⟨(tb 1358 (by decide +kernel) rfl), (tb 1356 (by decide +kernel) rfl), (tb 84 (by decide +kernel) rfl), ⟨by decide +kernel, by decide +kernel, by decide +kernel⟩⟩
theorem m219 : MI 219 := ⟨(tb 1362 (by decide +kernel) rfl), (tb 1360 (by decide +kernel) rfl), (tb 84 (by decide +kernel) rfl), ⟨by decide +kernel, by decide +kernel, by decide +kernel⟩⟩
theorem m220 : MI 220 := ⟨(tb 1377 (by decide +kernel) rfl), (tb 1376 (by decide +kernel) rfl), (tb 84 (by decide +kernel) rfl), ⟨by decide +kernel, by decide +kernel, by decide +kernel⟩⟩
theorem m221 : MI 221 := ⟨(tb 1370 (by decide +kernel) rfl), (tb 1369 (by decide +kernel) rfl), (tb 84 (by decide +kernel) rfl), ⟨by decide +kernel, by decide +kernel, by decide +kernel⟩⟩
theorem m222 : MI 222 := ⟨(tb 1366 (by decide +kernel) rfl), (tb 1364 (by decide +kernel) rfl), (tb 84 (by decide +kernel) rfl), ⟨by decide +kernel, by decide +kernel, by decide +kernel⟩⟩
theorem m223 : MI 223 := ⟨(tb 1389 (by decide +kernel) rfl), (tb 1388 (by decide +kernel) rfl), (tb 84 (by decide +kernel) rfl), ⟨by decide +kernel, by decide +kernel, by decide +kernel⟩⟩
theorem m224 : MI 224 := ⟨(tb 1385 (by decide +kernel) rfl), (tb 1384 (by decide +kernel) rfl), (tb 84 (by decide +kernel) rfl), ⟨by decide +kernel, by decide +kernel, by decide +kernel⟩⟩
theorem m225 : MI 225 := ⟨(tb 1381 (by decide +kernel) rfl), (tb 1379 (by decide +kernel) rfl), (tb 84 (by decide +kernel) rfl), ⟨by decide +kernel, by decide +kernel, by decide +kernel⟩⟩
theorem m226 : MI 226 := ⟨(tb 1397 (by decide +kernel) rfl), (tb 1396 (by decide +kernel) rfl), (tb 84 (by decide +kernel) rfl), ⟨by decide +kernel, by decide +kernel, by decide +kernel⟩⟩
theorem m227 : MI 227 := ⟨(tb 1393 (by decide +kernel) rfl), (tb 1391 (by decide +kernel) rfl), (tb 84 (by decide +kernel) rfl), ⟨by decide +kernel, by decide +kernel, by decide +kernel⟩⟩
theorem m228 : MI 228 := ⟨(tb 1405 (by decide +kernel) rfl), (tb 1404 (by decide +kernel) rfl), (tb 84 (by decide +kernel) rfl), ⟨by decide +kernel, by decide +kernel, by decide +kernel⟩⟩
theorem m229 : MI 229 := ⟨(tb 1401 (by decide +kernel) rfl), (tb 1399 (by decide +kernel) rfl), (tb 84 (by decide +kernel) rfl), ⟨by decide +kernel, by decide +kernel, by decide +kernel⟩⟩
theorem m230 : MI 230 := ⟨(tb 1409 (by decide +kernel) rfl), (tb 1407 (by decide +kernel) rfl), (tb 84 (by decide +kernel) rfl), ⟨by decide +kernel, by decide +kernel, by decide +kernel⟩⟩
theorem m231 : MI 231 := ⟨(tb 1413 (by decide +kernel) rfl), (tb 1411 (by decide +kernel) rfl), (tb 84 (by decide +kernel) rfl), ⟨by decide +kernel, by decide +kernel, by decide +kernel⟩⟩
theorem m232 : MI 232 := ⟨(tb 1417 (by decide +kernel) rfl), (tb 1415 (by decide +kernel) rfl), (tb 84 (by decide +kernel) rfl), ⟨by decide +kernel, by decide +kernel, by decide +kernel⟩⟩
theorem m233 : MI 233 := ⟨(tb 1421 (by decide +kernel) rfl), (tb 1419 (by decide +kernel) rfl), (tb 84 (by decide +kernel) rfl), ⟨by decide +kernel, by decide +kernel, by decide +kernel⟩⟩
theorem m234 : MI 234 := ⟨(tb 1437 (by decide +kernel) rfl), (tb 1436 (by decide +kernel) rfl), (tb 84 (by decide +kernel) rfl), ⟨by decide +kernel, by decide +kernel, by decide +kernel⟩⟩
theorem m235 : MI 235 := ⟨(tb 1445 (by decide +kernel) rfl), (tb 1444 (by decide +kernel) rfl), (tb 84 (by decide +kernel) rfl), ⟨by decide +kernel, by decide +kernel, by decide +kernel⟩⟩
theorem m236 : MI 236 := ⟨(tb 1461 (by decide +kernel) rfl), (tb 1460 (by decide +kernel) rfl), (tb 84 (by decide +kernel) rfl), ⟨by decide +kernel, by decide +kernel, by decide +kernel⟩⟩
theorem m237 : MI 237 := ⟨(tb 1457 (by decide +kernel) rfl), (tb 1456 (by decide +kernel) rfl), (tb 84 (by decide +kernel) rfl), ⟨by decide +kernel, by decide +kernel, by decide +kernel⟩⟩
theorem m238 : MI 238 := ⟨(tb 1453 (by decide +kernel) rfl), (tb 1452 (by decide +kernel) rfl), (tb 84 (by decide +kernel) rfl), ⟨by decide +kernel, by decide +kernel, by decide +kernel⟩⟩
theorem m239 : MI 239 := ⟨(tb 1449 (by decide +kernel) rfl), (tb 1448 (by decide +kernel) rfl), (tb 84 (by decide +kernel) rfl), ⟨by decide +kernel, by decide +kernel, by decide +kernel⟩⟩
theorem m240 : MI 240 := ⟨(tb 1441 (by decide +kernel) rfl), (tb 1440 (by decide +kernel) rfl), (tb 84 (by decide +kernel) rfl), ⟨by decide +kernel, by decide +kernel, by decide +kernel⟩⟩
theorem m241 : MI 241 := ⟨(tb 1433 (by decide +kernel) rfl), (tb 1432 (by decide +kernel) rfl), (tb 84 (by decide +kernel) rfl), ⟨by decide +kernel, by decide +kernel, by decide +kernel⟩⟩
theorem m242 : MI 242 := ⟨(tb 1429 (by decide +kernel) rfl), (tb 1428 (by decide +kernel) rfl), (tb 84 (by decide +kernel) rfl), ⟨by decide +kernel, by decide +kernel, by decide +kernel⟩⟩
theorem m243 : MI 243 := ⟨(tb 1465 (by decide +kernel) rfl), (tb 1464 (by decide +kernel) rfl), (tb 84 (by decide +kernel) rfl), ⟨by decide +kernel, by decide +kernel, by decide +kernel⟩⟩
theorem m244 : MI 244 := ⟨(tb 1425 (by decide +kernel) rfl), (tb 1423 (by decide +kernel) rfl), (tb 84 (by decide +kernel) rfl), ⟨by decide +kernel, by decide +kernel, by decide +kernel⟩⟩
theorem m245 : MI 245 := ⟨(tb 1469 (by decide +kernel) rfl), (tb 1467 (by decide +kernel) rfl), (tb 84 (by decide +kernel) rfl), ⟨by decide +kernel, by decide +kernel, by decide +kernel⟩⟩
theorem m246 : MI 246 := ⟨(tb 1473 (by decide +kernel) rfl), (tb 1471 (by decide +kernel) rfl), (tb 84 (by decide +kernel) rfl), ⟨by decide +kernel, by decide +kernel, by decide +kernel⟩⟩
theorem m247 : MI 247 := ⟨(tb 1477 (by decide +kernel) rfl), (tb 1475 (by decide +kernel) rfl), (tb 84 (by decide +kernel) rfl), ⟨by decide +kernel, by decide +kernel, by decide +kernel⟩⟩
theorem m248 : MSt 248 := ⟨(tb 815 (by decide +kernel) rfl), (tb 814 (by decide +kernel) rfl), (tb 87 (by decide +kernel) rfl), ⟨by decide +kernel, by decide +kernel, by decide +kernel⟩⟩
end
section
theorem sf3_13_0 : SiteF RX3 13 0 1 true := ⟨rfl, (RX0, TX0, 4), rfl, by decide, uw0, (tb 170 (by decide +kernel) rfl)⟩
theorem sp3_13_0 : SiteP RX3 13 0 1 true .int true := ⟨rfl, (RX0, TX0, 4), rfl, by decide, uw0, (tb 170 (by decide +kernel) rfl), ck0, by decide +kernel, .inr ⟨rfl, rfl, rfl⟩⟩
theorem sf3_13_1 : SiteF RX3 13 1 1 true := ⟨rfl, (RX1, TX1, 4), rfl, by decide, uw1, (tb 170 (by decide +kernel) rfl)⟩
theorem sp3_13_1 : SiteP RX3 13 1 1 true .int true := ⟨rfl, (RX1, TX1, 4), rfl, by decide, uw1, (tb 170 (by decide +kernel) rfl), ck1, by decide +kernel, .inr ⟨rfl, rfl, rfl⟩⟩
theorem sf3_13_2 : SiteF RX3 13 2 1 true := ⟨rfl, (RX2, TX2, 4), rfl, by decide, uw2, (tb 170 (by decide +kernel) rfl)⟩
theorem sp3_13_2 : SiteP RX3 13 2 1 true .int true := ⟨rfl, (RX2, TX2, 4), rfl, by decide, uw2, (tb 170 (by decide +kernel) rfl), ck2, by decide +kernel, .inr ⟨rfl, rfl, rfl⟩⟩
theorem sf3_13_3 : SiteF RX3 13 3 1 true := ⟨rfl, (RX3, TX3, 4), rfl, by decide, uw3, (tb 170 (by decide +kernel) rfl)⟩
theorem sp3_13_3 : SiteP RX3 13 3 1 true .int true := ⟨rfl, (RX3, TX3, 4), rfl, by decide, uw3, (tb 170 (by decide +kernel) rfl), ck3, by decide +kernel, .inr ⟨rfl, rfl, rfl⟩⟩
theorem sf3_13_6 : SiteF RX3 13 6 1 true := ⟨rfl, (RX6, TX6, 4), rfl, by decide, uw6, (tb 170 (by decide +kernel) rfl)⟩
theorem sp3_13_6 : SiteP RX3 13 6 1 true .int true := ⟨rfl, (RX6, TX6, 4), rfl, by decide, uw6, (tb 170 (by decide +kernel) rfl), ck6, by decide +kernel, .inr ⟨rfl, rfl, rfl⟩⟩
theorem sf3_13_7 : SiteF RX3 13 7 1 true := ⟨rfl, (RX7, TX7, 4), rfl, by decide, uw7, (tb 170 (by decide +kernel) rfl)⟩
theorem sp3_13_7 : SiteP RX3 13 7 1 true .int true := ⟨rfl, (RX7, TX7, 4), rfl, by decide, uw7, (tb 170 (by decide +kernel) rfl), ck7, by decide +kernel, .inr ⟨rfl, rfl, rfl⟩⟩
theorem sp3_16_0 : SiteP RX3 16 0 2 true .int true := ⟨rfl, (RX0, TX0, 4), rfl, by decide, uw0, (tb 171 (by decide +kernel) rfl), ck0, by decide +kernel, .inr ⟨rfl, rfl, rfl⟩⟩
theorem sp3_16_1 : SiteP RX3 16 1 2 true .int true := ⟨rfl, (RX1, TX1, 4), rfl, by decide, uw1, (tb 171 (by decide +kernel) rfl), ck1, by decide +kernel, .inr ⟨rfl, rfl, rfl⟩⟩
theorem sp3_16_2 : SiteP RX3 16 2 2 true .int true := ⟨rfl, (RX2, TX2, 4), rfl, by decide, uw2, (tb 171 (by decide +kernel) rfl), ck2, by decide +kernel, .inr ⟨rfl, rfl, rfl⟩⟩
theorem sp3_16_3 : SiteP RX3 16 3 2 true .int true := ⟨rfl, (RX3, TX3, 4), rfl, by decide, uw3, (tb 171 (by decide +kernel) rfl), ck3, by decide +kernel, .inr ⟨rfl, rfl, rfl⟩⟩
theorem sp3_16_6 : SiteP RX3 16 6 2 true .int true := ⟨rfl, (RX6, TX6, 4), rfl, by decide, uw6, (tb 171 (by decide +kernel) rfl), ck6, by decide +kernel, .inr ⟨rfl, rfl, rfl⟩⟩
theorem sp3_16_7 : SiteP RX3 16 7 2 true .int true := ⟨rfl, (RX7, TX7, 4), rfl, by decide, uw7, (tb 171 (by decide +kernel) rfl), ck7, by decide +kernel, .inr ⟨rfl, rfl, rfl⟩⟩
theorem sp3_19_0 : SiteP RX3 19 0 3 true .int true := ⟨rfl, (RX0, TX0, 4), rfl, by decide, uw0, (tb 174 (by decide +kernel) rfl), ck0, by decide +kernel, .inr ⟨rfl, rfl, rfl⟩⟩
theorem sp3_19_1 : SiteP RX3 19 1 3 true .int true := ⟨rfl, (RX1, TX1, 4), rfl, by decide, uw1, (tb 174 (by decide +kernel) rfl), ck1, by decide +kernel, .inr ⟨rfl, rfl, rfl⟩⟩
theorem sp3_19_2 : SiteP RX3 19 2 3 true .int true := ⟨rfl, (RX2, TX2, 4), rfl, by decide, uw2, (tb 174 (by decide +kernel) rfl), ck2, by decide +kernel, .inr ⟨rfl, rfl, rfl⟩⟩
theorem sp3_19_3 : SiteP RX3 19 3 3 true .int true := ⟨rfl, (RX3, TX3, 4), rfl, by decide, uw3, (tb 174 (by decide +kernel) rfl), ck3, by decide +kernel, .inr ⟨rfl, rfl, rfl⟩⟩
theorem sp3_19_6 : SiteP RX3 19 6 3 true .int true := ⟨rfl, (RX6, TX6, 4), rfl, by decide, uw6, (tb 174 (by decide +kernel) rfl), ck6, by decide +kernel, .inr ⟨rfl, rfl, rfl⟩⟩
theorem sp3_19_7 : SiteP RX3 19 7 3 true .int true := ⟨rfl, (RX7, TX7, 4), rfl, by decide, uw7, (tb 174 (by decide +kernel) rfl), ck7, by decide +kernel, .inr ⟨rfl, rfl, rfl⟩⟩
theorem sf3_28_8 : SiteF RX3 28 8 3 true := ⟨rfl, (RX8, TX8, 8), rfl, by decide, uw8, (tb 255 (by decide +kernel) rfl)⟩
theorem sf3_33_8 : SiteF RX3 33 8 0 true := ⟨rfl, (RX8, TX8, 8), rfl, by decide, uw8, (tb 247 (by decide +kernel) rfl)⟩
theorem sp3_7_0 : SiteP RX3 7 0 0 true .int true := ⟨rfl, (RX0, TX0, 4), rfl, by decide, uw0, (tb 166 (by decide +kernel) rfl), ck0, by decide +kernel, .inr ⟨rfl, rfl, rfl⟩⟩
theorem sp3_7_1 : SiteP RX3 7 1 0 true .int true := ⟨rfl, (RX1, TX1, 4), rfl, by decide, uw1, (tb 166 (by decide +kernel) rfl), ck1, by decide +kernel, .inr ⟨rfl, rfl, rfl⟩⟩
theorem sp3_7_2 : SiteP RX3 7 2 0 true .int true := ⟨rfl, (RX2, TX2, 4), rfl, by decide, uw2, (tb 166 (by decide +kernel) rfl), ck2, by decide +kernel, .inr ⟨rfl, rfl, rfl⟩⟩
theorem sp3_7_3 : SiteP RX3 7 3 0 true .int true := ⟨rfl, (RX3, TX3, 4), rfl, by decide, uw3, (tb 166 (by decide +kernel) rfl), ck3, by decide +kernel, .inr ⟨rfl, rfl, rfl⟩⟩
theorem sp3_7_6 : SiteP RX3 7 6 0 true .int true := ⟨rfl, (RX6, TX6, 4), rfl, by decide, uw6, (tb 166 (by decide +kernel) rfl), ck6, by decide +kernel, .inr ⟨rfl, rfl, rfl⟩⟩
theorem sp3_7_7 : SiteP RX3 7 7 0 true .int true := ⟨rfl, (RX7, TX7, 4), rfl, by decide, uw7, (tb 166 (by decide +kernel) rfl), ck7, by decide +kernel, .inr ⟨rfl, rfl, rfl⟩⟩
theorem sp4_101_4 : SiteP RX4 101 4 5 true .int false := ⟨rfl, (RX4, TX4, 6), rfl, by decide, uw4, (tb 127 (by decide +kernel) rfl), ck4, by decide +kernel, .inl ⟨rfl, rfl⟩⟩
theorem sp4_104_4 : SiteP RX4 104 4 4 true .int false := ⟨rfl, (RX4, TX4, 6), rfl, by decide, uw4, (tb 125 (by decide +kernel) rfl), ck4, by decide +kernel, .inl ⟨rfl, rfl⟩⟩
theorem sf4_11_4 : SiteF RX4 11 4 0 false := ⟨rfl, (RX4, TX4, 6), rfl, by decide, uw4, (tb 119 (by decide +kernel) rfl)⟩
theorem sp4_11_4 : SiteP RX4 11 4 0 false (.array .int) true := ⟨rfl, (RX4, TX4, 6), rfl, by decide, uw4, (tb 119 (by decide +kernel) rfl), ck4, by decide +kernel, .inr ⟨rfl, rfl, rfl⟩⟩
theorem sf4_15_4 : SiteF RX4 15 4 1 true := ⟨rfl, (RX4, TX4, 6), rfl, by decide, uw4, (tb 120 (by decide +kernel) rfl)⟩
theorem sp4_15_4 : SiteP RX4 15 4 1 true .int false := ⟨rfl, (RX4, TX4, 6), rfl, by decide, uw4, (tb 120 (by decide +kernel) rfl), ck4, by decide +kernel, .inl ⟨rfl, rfl⟩⟩
theorem sf4_19_4 : SiteF RX4 19 4 2 true := ⟨rfl, (RX4, TX4, 6), rfl, by decide, uw4, (tb 122 (by decide +kernel) rfl)⟩
theorem sp4_19_4 : SiteP RX4 19 4 2 true .int false := ⟨rfl, (RX4, TX4, 6), rfl, by decide, uw4, (tb 122 (by decide +kernel) rfl), ck4, by decide +kernel, .inl ⟨rfl, rfl⟩⟩
theorem sf4_22_4 : SiteF RX4 22 4 3 true := ⟨rfl, (RX4, TX4, 6), rfl, by decide, uw4, (tb 123 (by decide +kernel) rfl)⟩
theorem sp4_22_4 : SiteP RX4 22 4 3 true .boolean false := ⟨rfl, (RX4, TX4, 6), rfl, by decide, uw4, (tb 123 (by decide +kernel) rfl), ck4, by decide +kernel, .inl ⟨rfl, rfl⟩⟩
theorem sp4_65_10 : SiteP RX4 65 10 1 true .int false := ⟨rfl, (RX10, TX10, 14), rfl, by decide, uw10, (tb 295 (by decide +kernel) rfl), ck10, by decide +kernel, .inl ⟨rfl, rfl⟩⟩
theorem sp4_68_10 : SiteP RX4 68 10 2 true .int false := ⟨rfl, (RX10, TX10, 14), rfl, by decide, uw10, (tb 297 (by decide +kernel) rfl), ck10, by decide +kernel, .inl ⟨rfl, rfl⟩⟩
theorem sf4_71_10 : SiteF RX4 71 10 4 true := ⟨rfl, (RX10, TX10, 14), rfl, by decide, uw10, (tb 302 (by decide +kernel) rfl)⟩
theorem sf4_78_10 : SiteF RX4 78 10 8 true := ⟨rfl, (RX10, TX10, 14), rfl, by decide, uw10, (tb 311 (by decide +kernel) rfl)⟩
theorem sf4_91_10 : SiteF RX4 91 10 10 true := ⟨rfl, (RX10, TX10, 14), rfl, by decide, uw10, (tb 316 (by decide +kernel) rfl)⟩
theorem sf5_13_5 : SiteF RX5 13 5 1 false := ⟨rfl, (RX5, TX5, 3), rfl, by decide, uw5, (tb 103 (by decide +kernel) rfl)⟩
theorem sp5_13_5 : SiteP RX5 13 5 1 false (.array .int) true := ⟨rfl, (RX5, TX5, 3), rfl, by decide, uw5, (tb 103 (by decide +kernel) rfl), ck5, by decide +kernel, .inr ⟨rfl, rfl, rfl⟩⟩
theorem sf5_16_5 : SiteF RX5 16 5 2 false := ⟨rfl, (RX5, TX5, 3), rfl, by decide, uw5, (tb 104 (by decide +kernel) rfl)⟩
theorem sp5_16_5 : SiteP RX5 16 5 2 false (.array .int) true := ⟨rfl, (RX5, TX5, 3), rfl, by decide, uw5, (tb 104 (by decide +kernel) rfl), ck5, by decide +kernel, .inr ⟨rfl, rfl, rfl⟩⟩
theorem sf5_9_5 : SiteF RX5 9 5 0 false := ⟨rfl, (RX5, TX5, 3), rfl, by decide, uw5, (tb 102 (by decide +kernel) rfl)⟩
theorem sp5_9_5 : SiteP RX5 9 5 0 false (.array .int) true := ⟨rfl, (RX5, TX5, 3), rfl, by decide, uw5, (tb 102 (by decide +kernel) rfl), ck5, by decide +kernel, .inr ⟨rfl, rfl, rfl⟩⟩
theorem sf6_23_8 : SiteF RX6 23 8 4 true := ⟨rfl, (RX8, TX8, 8), rfl, by decide, uw8, (tb 258 (by decide +kernel) rfl)⟩
theorem sf8_15_8 : SiteF RX8 15 8 1 false := ⟨rfl, (RX8, TX8, 8), rfl, by decide, uw8, (tb 248 (by decide +kernel) rfl)⟩
theorem sp8_15_8 : SiteP RX8 15 8 1 false (.object "CoalGrate$Kind") false := ⟨rfl, (RX8, TX8, 8), rfl, by decide, uw8, (tb 248 (by decide +kernel) rfl), ck8, by decide +kernel, .inl ⟨rfl, rfl⟩⟩
theorem sf8_19_8 : SiteF RX8 19 8 2 true := ⟨rfl, (RX8, TX8, 8), rfl, by decide, uw8, (tb 251 (by decide +kernel) rfl)⟩
theorem sp8_19_8 : SiteP RX8 19 8 2 true .int false := ⟨rfl, (RX8, TX8, 8), rfl, by decide, uw8, (tb 251 (by decide +kernel) rfl), ck8, by decide +kernel, .inl ⟨rfl, rfl⟩⟩
theorem sf8_22_8 : SiteF RX8 22 8 3 true := ⟨rfl, (RX8, TX8, 8), rfl, by decide, uw8, (tb 254 (by decide +kernel) rfl)⟩
theorem sp8_22_8 : SiteP RX8 22 8 3 true .int false := ⟨rfl, (RX8, TX8, 8), rfl, by decide, uw8, (tb 254 (by decide +kernel) rfl), ck8, by decide +kernel, .inl ⟨rfl, rfl⟩⟩
theorem sf8_25_8 : SiteF RX8 25 8 4 true := ⟨rfl, (RX8, TX8, 8), rfl, by decide, uw8, (tb 257 (by decide +kernel) rfl)⟩
theorem sp8_25_8 : SiteP RX8 25 8 4 true .int false := ⟨rfl, (RX8, TX8, 8), rfl, by decide, uw8, (tb 257 (by decide +kernel) rfl), ck8, by decide +kernel, .inl ⟨rfl, rfl⟩⟩
theorem sf8_28_8 : SiteF RX8 28 8 5 true := ⟨rfl, (RX8, TX8, 8), rfl, by decide, uw8, (tb 261 (by decide +kernel) rfl)⟩
theorem sp8_28_8 : SiteP RX8 28 8 5 true .int false := ⟨rfl, (RX8, TX8, 8), rfl, by decide, uw8, (tb 261 (by decide +kernel) rfl), ck8, by decide +kernel, .inl ⟨rfl, rfl⟩⟩
theorem sf8_31_8 : SiteF RX8 31 8 6 true := ⟨rfl, (RX8, TX8, 8), rfl, by decide, uw8, (tb 263 (by decide +kernel) rfl)⟩
theorem sp8_31_8 : SiteP RX8 31 8 6 true .int false := ⟨rfl, (RX8, TX8, 8), rfl, by decide, uw8, (tb 263 (by decide +kernel) rfl), ck8, by decide +kernel, .inl ⟨rfl, rfl⟩⟩
theorem sf8_34_8 : SiteF RX8 34 8 7 true := ⟨rfl, (RX8, TX8, 8), rfl, by decide, uw8, (tb 265 (by decide +kernel) rfl)⟩
theorem sp8_34_8 : SiteP RX8 34 8 7 true .boolean false := ⟨rfl, (RX8, TX8, 8), rfl, by decide, uw8, (tb 265 (by decide +kernel) rfl), ck8, by decide +kernel, .inl ⟨rfl, rfl⟩⟩
theorem sf8_38_0 : SiteF RX8 38 0 2 true := ⟨rfl, (RX0, TX0, 4), rfl, by decide, uw0, (tb 172 (by decide +kernel) rfl)⟩
theorem sf8_38_1 : SiteF RX8 38 1 2 true := ⟨rfl, (RX1, TX1, 4), rfl, by decide, uw1, (tb 172 (by decide +kernel) rfl)⟩
theorem sf8_38_2 : SiteF RX8 38 2 2 true := ⟨rfl, (RX2, TX2, 4), rfl, by decide, uw2, (tb 172 (by decide +kernel) rfl)⟩
theorem sf8_38_3 : SiteF RX8 38 3 2 true := ⟨rfl, (RX3, TX3, 4), rfl, by decide, uw3, (tb 172 (by decide +kernel) rfl)⟩
theorem sf8_38_6 : SiteF RX8 38 6 2 true := ⟨rfl, (RX6, TX6, 4), rfl, by decide, uw6, (tb 172 (by decide +kernel) rfl)⟩
theorem sf8_38_7 : SiteF RX8 38 7 2 true := ⟨rfl, (RX7, TX7, 4), rfl, by decide, uw7, (tb 172 (by decide +kernel) rfl)⟩
theorem sf8_63_0 : SiteF RX8 63 0 3 true := ⟨rfl, (RX0, TX0, 4), rfl, by decide, uw0, (tb 175 (by decide +kernel) rfl)⟩
theorem sf8_63_1 : SiteF RX8 63 1 3 true := ⟨rfl, (RX1, TX1, 4), rfl, by decide, uw1, (tb 175 (by decide +kernel) rfl)⟩
theorem sf8_63_2 : SiteF RX8 63 2 3 true := ⟨rfl, (RX2, TX2, 4), rfl, by decide, uw2, (tb 175 (by decide +kernel) rfl)⟩
theorem sf8_63_3 : SiteF RX8 63 3 3 true := ⟨rfl, (RX3, TX3, 4), rfl, by decide, uw3, (tb 175 (by decide +kernel) rfl)⟩
theorem sf8_63_6 : SiteF RX8 63 6 3 true := ⟨rfl, (RX6, TX6, 4), rfl, by decide, uw6, (tb 175 (by decide +kernel) rfl)⟩
theorem sf8_63_7 : SiteF RX8 63 7 3 true := ⟨rfl, (RX7, TX7, 4), rfl, by decide, uw7, (tb 175 (by decide +kernel) rfl)⟩
theorem sf8_66_0 : SiteF RX8 66 0 0 true := ⟨rfl, (RX0, TX0, 4), rfl, by decide, uw0, (tb 168 (by decide +kernel) rfl)⟩
theorem sf8_66_1 : SiteF RX8 66 1 0 true := ⟨rfl, (RX1, TX1, 4), rfl, by decide, uw1, (tb 168 (by decide +kernel) rfl)⟩
theorem sf8_66_2 : SiteF RX8 66 2 0 true := ⟨rfl, (RX2, TX2, 4), rfl, by decide, uw2, (tb 168 (by decide +kernel) rfl)⟩
theorem sf8_66_3 : SiteF RX8 66 3 0 true := ⟨rfl, (RX3, TX3, 4), rfl, by decide, uw3, (tb 168 (by decide +kernel) rfl)⟩
theorem sf8_66_6 : SiteF RX8 66 6 0 true := ⟨rfl, (RX6, TX6, 4), rfl, by decide, uw6, (tb 168 (by decide +kernel) rfl)⟩
theorem sf8_66_7 : SiteF RX8 66 7 0 true := ⟨rfl, (RX7, TX7, 4), rfl, by decide, uw7, (tb 168 (by decide +kernel) rfl)⟩
theorem sp8_9_8 : SiteP RX8 9 8 0 true .int true := ⟨rfl, (RX8, TX8, 8), rfl, by decide, uw8, (tb 246 (by decide +kernel) rfl), ck8, by decide +kernel, .inr ⟨rfl, rfl, rfl⟩⟩
theorem sf9_13_9 : SiteF RX9 13 9 1 true := ⟨rfl, (RX9, TX9, 2), rfl, by decide, uw9, (tb 149 (by decide +kernel) rfl)⟩
theorem sp9_13_9 : SiteP RX9 13 9 1 true .int false := ⟨rfl, (RX9, TX9, 2), rfl, by decide, uw9, (tb 149 (by decide +kernel) rfl), ck9, by decide +kernel, .inl ⟨rfl, rfl⟩⟩
theorem sf9_7_9 : SiteF RX9 7 9 0 false := ⟨rfl, (RX9, TX9, 2), rfl, by decide, uw9, (tb 147 (by decide +kernel) rfl)⟩
theorem sp9_7_9 : SiteP RX9 7 9 0 false (.array .int) true := ⟨rfl, (RX9, TX9, 2), rfl, by decide, uw9, (tb 147 (by decide +kernel) rfl), ck9, by decide +kernel, .inr ⟨rfl, rfl, rfl⟩⟩
theorem sf10_105_10 : SiteF RX10 105 10 2 true := ⟨rfl, (RX10, TX10, 14), rfl, by decide, uw10, (tb 298 (by decide +kernel) rfl)⟩
theorem sp10_105_10 : SiteP RX10 105 10 2 true .int false := ⟨rfl, (RX10, TX10, 14), rfl, by decide, uw10, (tb 298 (by decide +kernel) rfl), ck10, by decide +kernel, .inl ⟨rfl, rfl⟩⟩
theorem sf10_11_10 : SiteF RX10 11 10 5 false := ⟨rfl, (RX10, TX10, 14), rfl, by decide, uw10, (tb 304 (by decide +kernel) rfl)⟩
theorem sp10_11_10 : SiteP RX10 11 10 5 false (.array .int) true := ⟨rfl, (RX10, TX10, 14), rfl, by decide, uw10, (tb 304 (by decide +kernel) rfl), ck10, by decide +kernel, .inr ⟨rfl, rfl, rfl⟩⟩
theorem sf10_138_8 : SiteF RX10 138 8 7 true := ⟨rfl, (RX8, TX8, 8), rfl, by decide, uw8, (tb 267 (by decide +kernel) rfl)⟩
theorem sf10_142_8 : SiteF RX10 142 8 4 true := ⟨rfl, (RX8, TX8, 8), rfl, by decide, uw8, (tb 259 (by decide +kernel) rfl)⟩
theorem sf10_17_10 : SiteF RX10 17 10 6 false := ⟨rfl, (RX10, TX10, 14), rfl, by decide, uw10, (tb 306 (by decide +kernel) rfl)⟩
theorem sp10_17_10 : SiteP RX10 17 10 6 false (.array .int) true := ⟨rfl, (RX10, TX10, 14), rfl, by decide, uw10, (tb 306 (by decide +kernel) rfl), ck10, by decide +kernel, .inr ⟨rfl, rfl, rfl⟩⟩
theorem sf10_20_10 : SiteF RX10 20 10 7 false := ⟨rfl, (RX10, TX10, 14), rfl, by decide, uw10, (tb 308 (by decide +kernel) rfl)⟩
theorem sp10_20_10 : SiteP RX10 20 10 7 false (.array .int) true := ⟨rfl, (RX10, TX10, 14), rfl, by decide, uw10, (tb 308 (by decide +kernel) rfl), ck10, by decide +kernel, .inr ⟨rfl, rfl, rfl⟩⟩
theorem sf10_23_10 : SiteF RX10 23 10 9 false := ⟨rfl, (RX10, TX10, 14), rfl, by decide, uw10, (tb 313 (by decide +kernel) rfl)⟩
theorem sp10_23_10 : SiteP RX10 23 10 9 false (.array (.object "CoalGrate$Thing")) true := ⟨rfl, (RX10, TX10, 14), rfl, by decide, uw10, (tb 313 (by decide +kernel) rfl), ck10, by decide +kernel, .inr ⟨rfl, rfl, rfl⟩⟩
theorem sf10_27_10 : SiteF RX10 27 10 11 false := ⟨rfl, (RX10, TX10, 14), rfl, by decide, uw10, (tb 318 (by decide +kernel) rfl)⟩
theorem sp10_27_10 : SiteP RX10 27 10 11 false (.array .int) true := ⟨rfl, (RX10, TX10, 14), rfl, by decide, uw10, (tb 318 (by decide +kernel) rfl), ck10, by decide +kernel, .inr ⟨rfl, rfl, rfl⟩⟩
theorem sf10_30_10 : SiteF RX10 30 10 12 false := ⟨rfl, (RX10, TX10, 14), rfl, by decide, uw10, (tb 320 (by decide +kernel) rfl)⟩
theorem sp10_30_10 : SiteP RX10 30 10 12 false (.array .int) true := ⟨rfl, (RX10, TX10, 14), rfl, by decide, uw10, (tb 320 (by decide +kernel) rfl), ck10, by decide +kernel, .inr ⟨rfl, rfl, rfl⟩⟩
theorem sf10_33_10 : SiteF RX10 33 10 13 false := ⟨rfl, (RX10, TX10, 14), rfl, by decide, uw10, (tb 322 (by decide +kernel) rfl)⟩
theorem sp10_33_10 : SiteP RX10 33 10 13 false (.array .int) true := ⟨rfl, (RX10, TX10, 14), rfl, by decide, uw10, (tb 322 (by decide +kernel) rfl), ck10, by decide +kernel, .inr ⟨rfl, rfl, rfl⟩⟩
theorem sf10_36_10 : SiteF RX10 36 10 0 false := ⟨rfl, (RX10, TX10, 14), rfl, by decide, uw10, (tb 294 (by decide +kernel) rfl)⟩
theorem sp10_36_10 : SiteP RX10 36 10 0 false (.array (.object "CoalGrate$Kind")) true := ⟨rfl, (RX10, TX10, 14), rfl, by decide, uw10, (tb 294 (by decide +kernel) rfl), ck10, by decide +kernel, .inr ⟨rfl, rfl, rfl⟩⟩
theorem sf10_43_10 : SiteF RX10 43 10 3 true := ⟨rfl, (RX10, TX10, 14), rfl, by decide, uw10, (tb 299 (by decide +kernel) rfl)⟩
theorem sp10_43_10 : SiteP RX10 43 10 3 true .int false := ⟨rfl, (RX10, TX10, 14), rfl, by decide, uw10, (tb 299 (by decide +kernel) rfl), ck10, by decide +kernel, .inl ⟨rfl, rfl⟩⟩
theorem sf10_47_10 : SiteF RX10 47 10 4 true := ⟨rfl, (RX10, TX10, 14), rfl, by decide, uw10, (tb 301 (by decide +kernel) rfl)⟩
theorem sp10_47_10 : SiteP RX10 47 10 4 true .int false := ⟨rfl, (RX10, TX10, 14), rfl, by decide, uw10, (tb 301 (by decide +kernel) rfl), ck10, by decide +kernel, .inl ⟨rfl, rfl⟩⟩
theorem sf10_50_10 : SiteF RX10 50 10 8 true := ⟨rfl, (RX10, TX10, 14), rfl, by decide, uw10, (tb 310 (by decide +kernel) rfl)⟩
theorem sp10_50_10 : SiteP RX10 50 10 8 true .int false := ⟨rfl, (RX10, TX10, 14), rfl, by decide, uw10, (tb 310 (by decide +kernel) rfl), ck10, by decide +kernel, .inl ⟨rfl, rfl⟩⟩
theorem sf10_53_10 : SiteF RX10 53 10 10 true := ⟨rfl, (RX10, TX10, 14), rfl, by decide, uw10, (tb 315 (by decide +kernel) rfl)⟩
theorem sp10_53_10 : SiteP RX10 53 10 10 true .int false := ⟨rfl, (RX10, TX10, 14), rfl, by decide, uw10, (tb 315 (by decide +kernel) rfl), ck10, by decide +kernel, .inl ⟨rfl, rfl⟩⟩
theorem sf10_65_8 : SiteF RX10 65 8 2 true := ⟨rfl, (RX8, TX8, 8), rfl, by decide, uw8, (tb 252 (by decide +kernel) rfl)⟩
theorem sf10_76_8 : SiteF RX10 76 8 1 false := ⟨rfl, (RX8, TX8, 8), rfl, by decide, uw8, (tb 249 (by decide +kernel) rfl)⟩
theorem sf10_80_0 : SiteF RX10 80 0 0 true := ⟨rfl, (RX0, TX0, 4), rfl, by decide, uw0, (tb 167 (by decide +kernel) rfl)⟩
theorem sf10_80_1 : SiteF RX10 80 1 0 true := ⟨rfl, (RX1, TX1, 4), rfl, by decide, uw1, (tb 167 (by decide +kernel) rfl)⟩
theorem sf10_80_2 : SiteF RX10 80 2 0 true := ⟨rfl, (RX2, TX2, 4), rfl, by decide, uw2, (tb 167 (by decide +kernel) rfl)⟩
theorem sf10_80_3 : SiteF RX10 80 3 0 true := ⟨rfl, (RX3, TX3, 4), rfl, by decide, uw3, (tb 167 (by decide +kernel) rfl)⟩
theorem sf10_80_6 : SiteF RX10 80 6 0 true := ⟨rfl, (RX6, TX6, 4), rfl, by decide, uw6, (tb 167 (by decide +kernel) rfl)⟩
theorem sf10_80_7 : SiteF RX10 80 7 0 true := ⟨rfl, (RX7, TX7, 4), rfl, by decide, uw7, (tb 167 (by decide +kernel) rfl)⟩
theorem sf10_85_10 : SiteF RX10 85 10 1 true := ⟨rfl, (RX10, TX10, 14), rfl, by decide, uw10, (tb 296 (by decide +kernel) rfl)⟩
theorem sp10_85_10 : SiteP RX10 85 10 1 true .int false := ⟨rfl, (RX10, TX10, 14), rfl, by decide, uw10, (tb 296 (by decide +kernel) rfl), ck10, by decide +kernel, .inl ⟨rfl, rfl⟩⟩
theorem sf11_10_11 : SiteF RX11 10 11 0 false := ⟨rfl, (RX11, TX11, 17), rfl, by decide, uw11, (tb 353 (by decide +kernel) rfl)⟩
theorem sp11_10_11 : SiteP RX11 10 11 0 false (.object "CoalGrate$Rows") true := ⟨rfl, (RX11, TX11, 17), rfl, by decide, uw11, (tb 353 (by decide +kernel) rfl), ck11, by decide +kernel, .inr ⟨rfl, rfl, rfl⟩⟩
theorem sf11_134_11 : SiteF RX11 134 11 16 true := ⟨rfl, (RX11, TX11, 17), rfl, by decide, uw11, (tb 369 (by decide +kernel) rfl)⟩
theorem sp11_134_11 : SiteP RX11 134 11 16 true .int false := ⟨rfl, (RX11, TX11, 17), rfl, by decide, uw11, (tb 369 (by decide +kernel) rfl), ck11, by decide +kernel, .inl ⟨rfl, rfl⟩⟩
theorem sf11_142_4 : SiteF RX11 142 4 1 true := ⟨rfl, (RX4, TX4, 6), rfl, by decide, uw4, (tb 121 (by decide +kernel) rfl)⟩
theorem sp11_142_4 : SiteP RX11 142 4 1 true .int false := ⟨rfl, (RX4, TX4, 6), rfl, by decide, uw4, (tb 121 (by decide +kernel) rfl), ck4, by decide +kernel, .inl ⟨rfl, rfl⟩⟩
theorem sf11_151_4 : SiteF RX11 151 4 4 true := ⟨rfl, (RX4, TX4, 6), rfl, by decide, uw4, (tb 124 (by decide +kernel) rfl)⟩
theorem sf11_154_11 : SiteF RX11 154 11 7 true := ⟨rfl, (RX11, TX11, 17), rfl, by decide, uw11, (tb 360 (by decide +kernel) rfl)⟩
theorem sp11_154_11 : SiteP RX11 154 11 7 true .boolean false := ⟨rfl, (RX11, TX11, 17), rfl, by decide, uw11, (tb 360 (by decide +kernel) rfl), ck11, by decide +kernel, .inl ⟨rfl, rfl⟩⟩
theorem sf11_158_11 : SiteF RX11 158 11 10 true := ⟨rfl, (RX11, TX11, 17), rfl, by decide, uw11, (tb 363 (by decide +kernel) rfl)⟩
theorem sp11_158_11 : SiteP RX11 158 11 10 true .int false := ⟨rfl, (RX11, TX11, 17), rfl, by decide, uw11, (tb 363 (by decide +kernel) rfl), ck11, by decide +kernel, .inl ⟨rfl, rfl⟩⟩
theorem sf11_161_10 : SiteF RX11 161 10 8 true := ⟨rfl, (RX10, TX10, 14), rfl, by decide, uw10, (tb 312 (by decide +kernel) rfl)⟩
theorem sf11_164_4 : SiteF RX11 164 4 5 true := ⟨rfl, (RX4, TX4, 6), rfl, by decide, uw4, (tb 126 (by decide +kernel) rfl)⟩
theorem sf11_168_10 : SiteF RX11 168 10 3 true := ⟨rfl, (RX10, TX10, 14), rfl, by decide, uw10, (tb 300 (by decide +kernel) rfl)⟩
theorem sf11_188_8 : SiteF RX11 188 8 6 true := ⟨rfl, (RX8, TX8, 8), rfl, by decide, uw8, (tb 264 (by decide +kernel) rfl)⟩
theorem sf11_19_11 : SiteF RX11 19 11 1 false := ⟨rfl, (RX11, TX11, 17), rfl, by decide, uw11, (tb 354 (by decide +kernel) rfl)⟩
theorem sp11_19_11 : SiteP RX11 19 11 1 false (.object "CoalGrate$Reader") true := ⟨rfl, (RX11, TX11, 17), rfl, by decide, uw11, (tb 354 (by decide +kernel) rfl), ck11, by decide +kernel, .inr ⟨rfl, rfl, rfl⟩⟩
theorem sf11_195_8 : SiteF RX11 195 8 2 true := ⟨rfl, (RX8, TX8, 8), rfl, by decide, uw8, (tb 253 (by decide +kernel) rfl)⟩
theorem sp11_195_8 : SiteP RX11 195 8 2 true .int false := ⟨rfl, (RX8, TX8, 8), rfl, by decide, uw8, (tb 253 (by decide +kernel) rfl), ck8, by decide +kernel, .inl ⟨rfl, rfl⟩⟩
theorem sf11_201_10 : SiteF RX11 201 10 4 true := ⟨rfl, (RX10, TX10, 14), rfl, by decide, uw10, (tb 303 (by decide +kernel) rfl)⟩
theorem sf11_221_10 : SiteF RX11 221 10 13 false := ⟨rfl, (RX10, TX10, 14), rfl, by decide, uw10, (tb 323 (by decide +kernel) rfl)⟩
theorem sf11_227_11 : SiteF RX11 227 11 9 true := ⟨rfl, (RX11, TX11, 17), rfl, by decide, uw11, (tb 362 (by decide +kernel) rfl)⟩
theorem sp11_227_11 : SiteP RX11 227 11 9 true .int false := ⟨rfl, (RX11, TX11, 17), rfl, by decide, uw11, (tb 362 (by decide +kernel) rfl), ck11, by decide +kernel, .inl ⟨rfl, rfl⟩⟩
theorem sf11_244_8 : SiteF RX11 244 8 3 true := ⟨rfl, (RX8, TX8, 8), rfl, by decide, uw8, (tb 256 (by decide +kernel) rfl)⟩
theorem sp11_244_8 : SiteP RX11 244 8 3 true .int false := ⟨rfl, (RX8, TX8, 8), rfl, by decide, uw8, (tb 256 (by decide +kernel) rfl), ck8, by decide +kernel, .inl ⟨rfl, rfl⟩⟩
theorem sf11_250_8 : SiteF RX11 250 8 7 true := ⟨rfl, (RX8, TX8, 8), rfl, by decide, uw8, (tb 266 (by decide +kernel) rfl)⟩
theorem sp11_250_8 : SiteP RX11 250 8 7 true .boolean false := ⟨rfl, (RX8, TX8, 8), rfl, by decide, uw8, (tb 266 (by decide +kernel) rfl), ck8, by decide +kernel, .inl ⟨rfl, rfl⟩⟩
theorem sf11_26_11 : SiteF RX11 26 11 2 false := ⟨rfl, (RX11, TX11, 17), rfl, by decide, uw11, (tb 355 (by decide +kernel) rfl)⟩
theorem sp11_26_11 : SiteP RX11 26 11 2 false (.object "CoalGrate$Trace") true := ⟨rfl, (RX11, TX11, 17), rfl, by decide, uw11, (tb 355 (by decide +kernel) rfl), ck11, by decide +kernel, .inr ⟨rfl, rfl, rfl⟩⟩
theorem sf11_260_10 : SiteF RX11 260 10 11 false := ⟨rfl, (RX10, TX10, 14), rfl, by decide, uw10, (tb 319 (by decide +kernel) rfl)⟩
theorem sf11_263_10 : SiteF RX11 263 10 12 false := ⟨rfl, (RX10, TX10, 14), rfl, by decide, uw10, (tb 321 (by decide +kernel) rfl)⟩
theorem sf11_266_10 : SiteF RX11 266 10 5 false := ⟨rfl, (RX10, TX10, 14), rfl, by decide, uw10, (tb 305 (by decide +kernel) rfl)⟩
theorem sf11_269_10 : SiteF RX11 269 10 6 false := ⟨rfl, (RX10, TX10, 14), rfl, by decide, uw10, (tb 307 (by decide +kernel) rfl)⟩
theorem sf11_272_10 : SiteF RX11 272 10 7 false := ⟨rfl, (RX10, TX10, 14), rfl, by decide, uw10, (tb 309 (by decide +kernel) rfl)⟩
theorem sf11_285_8 : SiteF RX11 285 8 4 true := ⟨rfl, (RX8, TX8, 8), rfl, by decide, uw8, (tb 260 (by decide +kernel) rfl)⟩
theorem sp11_285_8 : SiteP RX11 285 8 4 true .int false := ⟨rfl, (RX8, TX8, 8), rfl, by decide, uw8, (tb 260 (by decide +kernel) rfl), ck8, by decide +kernel, .inl ⟨rfl, rfl⟩⟩
theorem sf11_288_8 : SiteF RX11 288 8 5 true := ⟨rfl, (RX8, TX8, 8), rfl, by decide, uw8, (tb 262 (by decide +kernel) rfl)⟩
theorem sp11_288_8 : SiteP RX11 288 8 5 true .int false := ⟨rfl, (RX8, TX8, 8), rfl, by decide, uw8, (tb 262 (by decide +kernel) rfl), ck8, by decide +kernel, .inl ⟨rfl, rfl⟩⟩
theorem sf11_318_11 : SiteF RX11 318 11 15 true := ⟨rfl, (RX11, TX11, 17), rfl, by decide, uw11, (tb 368 (by decide +kernel) rfl)⟩
theorem sp11_318_11 : SiteP RX11 318 11 15 true .int false := ⟨rfl, (RX11, TX11, 17), rfl, by decide, uw11, (tb 368 (by decide +kernel) rfl), ck11, by decide +kernel, .inl ⟨rfl, rfl⟩⟩
theorem sf11_333_8 : SiteF RX11 333 8 1 false := ⟨rfl, (RX8, TX8, 8), rfl, by decide, uw8, (tb 250 (by decide +kernel) rfl)⟩
theorem sf11_337_0 : SiteF RX11 337 0 2 true := ⟨rfl, (RX0, TX0, 4), rfl, by decide, uw0, (tb 173 (by decide +kernel) rfl)⟩
theorem sf11_337_1 : SiteF RX11 337 1 2 true := ⟨rfl, (RX1, TX1, 4), rfl, by decide, uw1, (tb 173 (by decide +kernel) rfl)⟩
theorem sf11_337_2 : SiteF RX11 337 2 2 true := ⟨rfl, (RX2, TX2, 4), rfl, by decide, uw2, (tb 173 (by decide +kernel) rfl)⟩
theorem sf11_337_3 : SiteF RX11 337 3 2 true := ⟨rfl, (RX3, TX3, 4), rfl, by decide, uw3, (tb 173 (by decide +kernel) rfl)⟩
theorem sf11_337_6 : SiteF RX11 337 6 2 true := ⟨rfl, (RX6, TX6, 4), rfl, by decide, uw6, (tb 173 (by decide +kernel) rfl)⟩
theorem sf11_337_7 : SiteF RX11 337 7 2 true := ⟨rfl, (RX7, TX7, 4), rfl, by decide, uw7, (tb 173 (by decide +kernel) rfl)⟩
theorem sf11_34_11 : SiteF RX11 34 11 3 false := ⟨rfl, (RX11, TX11, 17), rfl, by decide, uw11, (tb 356 (by decide +kernel) rfl)⟩
theorem sp11_34_11 : SiteP RX11 34 11 3 false (.array (.object "CoalGrate$Kind")) true := ⟨rfl, (RX11, TX11, 17), rfl, by decide, uw11, (tb 356 (by decide +kernel) rfl), ck11, by decide +kernel, .inr ⟨rfl, rfl, rfl⟩⟩
theorem sf11_367_10 : SiteF RX11 367 10 10 true := ⟨rfl, (RX10, TX10, 14), rfl, by decide, uw10, (tb 317 (by decide +kernel) rfl)⟩
theorem sf11_373_10 : SiteF RX11 373 10 9 false := ⟨rfl, (RX10, TX10, 14), rfl, by decide, uw10, (tb 314 (by decide +kernel) rfl)⟩
theorem sf11_402_0 : SiteF RX11 402 0 0 true := ⟨rfl, (RX0, TX0, 4), rfl, by decide, uw0, (tb 169 (by decide +kernel) rfl)⟩
theorem sf11_402_1 : SiteF RX11 402 1 0 true := ⟨rfl, (RX1, TX1, 4), rfl, by decide, uw1, (tb 169 (by decide +kernel) rfl)⟩
theorem sf11_402_2 : SiteF RX11 402 2 0 true := ⟨rfl, (RX2, TX2, 4), rfl, by decide, uw2, (tb 169 (by decide +kernel) rfl)⟩
theorem sf11_402_3 : SiteF RX11 402 3 0 true := ⟨rfl, (RX3, TX3, 4), rfl, by decide, uw3, (tb 169 (by decide +kernel) rfl)⟩
theorem sf11_402_6 : SiteF RX11 402 6 0 true := ⟨rfl, (RX6, TX6, 4), rfl, by decide, uw6, (tb 169 (by decide +kernel) rfl)⟩
theorem sf11_402_7 : SiteF RX11 402 7 0 true := ⟨rfl, (RX7, TX7, 4), rfl, by decide, uw7, (tb 169 (by decide +kernel) rfl)⟩
theorem sf11_409_9 : SiteF RX11 409 9 1 true := ⟨rfl, (RX9, TX9, 2), rfl, by decide, uw9, (tb 150 (by decide +kernel) rfl)⟩
theorem sp11_409_9 : SiteP RX11 409 9 1 true .int false := ⟨rfl, (RX9, TX9, 2), rfl, by decide, uw9, (tb 150 (by decide +kernel) rfl), ck9, by decide +kernel, .inl ⟨rfl, rfl⟩⟩
theorem sf11_417_9 : SiteF RX11 417 9 0 false := ⟨rfl, (RX9, TX9, 2), rfl, by decide, uw9, (tb 148 (by decide +kernel) rfl)⟩
theorem sf11_43_11 : SiteF RX11 43 11 4 false := ⟨rfl, (RX11, TX11, 17), rfl, by decide, uw11, (tb 357 (by decide +kernel) rfl)⟩
theorem sp11_43_11 : SiteP RX11 43 11 4 false (.object "CoalGrate$Thing") true := ⟨rfl, (RX11, TX11, 17), rfl, by decide, uw11, (tb 357 (by decide +kernel) rfl), ck11, by decide +kernel, .inr ⟨rfl, rfl, rfl⟩⟩
theorem sf11_52_11 : SiteF RX11 52 11 5 false := ⟨rfl, (RX11, TX11, 17), rfl, by decide, uw11, (tb 358 (by decide +kernel) rfl)⟩
theorem sp11_52_11 : SiteP RX11 52 11 5 false (.object "CoalGrate$Yard") false := ⟨rfl, (RX11, TX11, 17), rfl, by decide, uw11, (tb 358 (by decide +kernel) rfl), ck11, by decide +kernel, .inl ⟨rfl, rfl⟩⟩
theorem sf11_56_11 : SiteF RX11 56 11 6 false := ⟨rfl, (RX11, TX11, 17), rfl, by decide, uw11, (tb 359 (by decide +kernel) rfl)⟩
theorem sp11_56_11 : SiteP RX11 56 11 6 false (.object "CoalGrate$Yard") false := ⟨rfl, (RX11, TX11, 17), rfl, by decide, uw11, (tb 359 (by decide +kernel) rfl), ck11, by decide +kernel, .inl ⟨rfl, rfl⟩⟩
theorem sf11_59_11 : SiteF RX11 59 11 8 false := ⟨rfl, (RX11, TX11, 17), rfl, by decide, uw11, (tb 361 (by decide +kernel) rfl)⟩
theorem sp11_59_11 : SiteP RX11 59 11 8 false (.array .int) true := ⟨rfl, (RX11, TX11, 17), rfl, by decide, uw11, (tb 361 (by decide +kernel) rfl), ck11, by decide +kernel, .inr ⟨rfl, rfl, rfl⟩⟩
theorem sf11_63_11 : SiteF RX11 63 11 11 false := ⟨rfl, (RX11, TX11, 17), rfl, by decide, uw11, (tb 364 (by decide +kernel) rfl)⟩
theorem sp11_63_11 : SiteP RX11 63 11 11 false (.array .int) true := ⟨rfl, (RX11, TX11, 17), rfl, by decide, uw11, (tb 364 (by decide +kernel) rfl), ck11, by decide +kernel, .inr ⟨rfl, rfl, rfl⟩⟩
theorem sf11_66_11 : SiteF RX11 66 11 12 false := ⟨rfl, (RX11, TX11, 17), rfl, by decide, uw11, (tb 365 (by decide +kernel) rfl)⟩
theorem sp11_66_11 : SiteP RX11 66 11 12 false (.array .boolean) true := ⟨rfl, (RX11, TX11, 17), rfl, by decide, uw11, (tb 365 (by decide +kernel) rfl), ck11, by decide +kernel, .inr ⟨rfl, rfl, rfl⟩⟩
theorem sf11_70_11 : SiteF RX11 70 11 13 false := ⟨rfl, (RX11, TX11, 17), rfl, by decide, uw11, (tb 366 (by decide +kernel) rfl)⟩
theorem sp11_70_11 : SiteP RX11 70 11 13 false (.array .int) true := ⟨rfl, (RX11, TX11, 17), rfl, by decide, uw11, (tb 366 (by decide +kernel) rfl), ck11, by decide +kernel, .inr ⟨rfl, rfl, rfl⟩⟩
theorem sf11_73_11 : SiteF RX11 73 11 14 false := ⟨rfl, (RX11, TX11, 17), rfl, by decide, uw11, (tb 367 (by decide +kernel) rfl)⟩
theorem sp11_73_11 : SiteP RX11 73 11 14 false (.array .int) true := ⟨rfl, (RX11, TX11, 17), rfl, by decide, uw11, (tb 367 (by decide +kernel) rfl), ck11, by decide +kernel, .inr ⟨rfl, rfl, rfl⟩⟩
theorem sf12_13_12 : SiteF RX12 13 12 1 false := ⟨rfl, (RX12, TX12, 24), rfl, by decide, uw12, (tb 1001 (by decide +kernel) rfl)⟩
theorem sp12_13_12 : SiteP RX12 13 12 1 false (.array .int) true := ⟨rfl, (RX12, TX12, 24), rfl, by decide, uw12, (tb 1001 (by decide +kernel) rfl), ck12, by decide +kernel, .inr ⟨rfl, rfl, rfl⟩⟩
theorem sf12_143_12 : SiteF RX12 143 12 16 true := ⟨rfl, (RX12, TX12, 24), rfl, by decide, uw12, (tb 1016 (by decide +kernel) rfl)⟩
theorem sp12_143_12 : SiteP RX12 143 12 16 true .int false := ⟨rfl, (RX12, TX12, 24), rfl, by decide, uw12, (tb 1016 (by decide +kernel) rfl), ck12, by decide +kernel, .inl ⟨rfl, rfl⟩⟩
theorem sf12_147_12 : SiteF RX12 147 12 4 true := ⟨rfl, (RX12, TX12, 24), rfl, by decide, uw12, (tb 1004 (by decide +kernel) rfl)⟩
theorem sp12_147_12 : SiteP RX12 147 12 4 true .int false := ⟨rfl, (RX12, TX12, 24), rfl, by decide, uw12, (tb 1004 (by decide +kernel) rfl), ck12, by decide +kernel, .inl ⟨rfl, rfl⟩⟩
theorem sf12_16_12 : SiteF RX12 16 12 2 false := ⟨rfl, (RX12, TX12, 24), rfl, by decide, uw12, (tb 1002 (by decide +kernel) rfl)⟩
theorem sp12_16_12 : SiteP RX12 16 12 2 false (.array .boolean) true := ⟨rfl, (RX12, TX12, 24), rfl, by decide, uw12, (tb 1002 (by decide +kernel) rfl), ck12, by decide +kernel, .inr ⟨rfl, rfl, rfl⟩⟩
theorem sf12_20_12 : SiteF RX12 20 12 3 false := ⟨rfl, (RX12, TX12, 24), rfl, by decide, uw12, (tb 1003 (by decide +kernel) rfl)⟩
theorem sp12_20_12 : SiteP RX12 20 12 3 false (.array .int) true := ⟨rfl, (RX12, TX12, 24), rfl, by decide, uw12, (tb 1003 (by decide +kernel) rfl), ck12, by decide +kernel, .inr ⟨rfl, rfl, rfl⟩⟩
theorem sf12_23_12 : SiteF RX12 23 12 5 false := ⟨rfl, (RX12, TX12, 24), rfl, by decide, uw12, (tb 1005 (by decide +kernel) rfl)⟩
theorem sp12_23_12 : SiteP RX12 23 12 5 false (.array .int) true := ⟨rfl, (RX12, TX12, 24), rfl, by decide, uw12, (tb 1005 (by decide +kernel) rfl), ck12, by decide +kernel, .inr ⟨rfl, rfl, rfl⟩⟩
theorem sf12_26_12 : SiteF RX12 26 12 6 false := ⟨rfl, (RX12, TX12, 24), rfl, by decide, uw12, (tb 1006 (by decide +kernel) rfl)⟩
theorem sp12_26_12 : SiteP RX12 26 12 6 false (.array .int) true := ⟨rfl, (RX12, TX12, 24), rfl, by decide, uw12, (tb 1006 (by decide +kernel) rfl), ck12, by decide +kernel, .inr ⟨rfl, rfl, rfl⟩⟩
theorem sf12_261_12 : SiteF RX12 261 12 23 true := ⟨rfl, (RX12, TX12, 24), rfl, by decide, uw12, (tb 1023 (by decide +kernel) rfl)⟩
theorem sp12_261_12 : SiteP RX12 261 12 23 true .int false := ⟨rfl, (RX12, TX12, 24), rfl, by decide, uw12, (tb 1023 (by decide +kernel) rfl), ck12, by decide +kernel, .inl ⟨rfl, rfl⟩⟩
theorem sf12_29_12 : SiteF RX12 29 12 7 false := ⟨rfl, (RX12, TX12, 24), rfl, by decide, uw12, (tb 1007 (by decide +kernel) rfl)⟩
theorem sp12_29_12 : SiteP RX12 29 12 7 false (.array .int) true := ⟨rfl, (RX12, TX12, 24), rfl, by decide, uw12, (tb 1007 (by decide +kernel) rfl), ck12, by decide +kernel, .inr ⟨rfl, rfl, rfl⟩⟩
theorem sf12_32_12 : SiteF RX12 32 12 9 false := ⟨rfl, (RX12, TX12, 24), rfl, by decide, uw12, (tb 1009 (by decide +kernel) rfl)⟩
theorem sp12_32_12 : SiteP RX12 32 12 9 false (.array .int) true := ⟨rfl, (RX12, TX12, 24), rfl, by decide, uw12, (tb 1009 (by decide +kernel) rfl), ck12, by decide +kernel, .inr ⟨rfl, rfl, rfl⟩⟩
theorem sf12_35_12 : SiteF RX12 35 12 17 false := ⟨rfl, (RX12, TX12, 24), rfl, by decide, uw12, (tb 1017 (by decide +kernel) rfl)⟩
theorem sp12_35_12 : SiteP RX12 35 12 17 false (.array .int) true := ⟨rfl, (RX12, TX12, 24), rfl, by decide, uw12, (tb 1017 (by decide +kernel) rfl), ck12, by decide +kernel, .inr ⟨rfl, rfl, rfl⟩⟩
theorem sf12_38_12 : SiteF RX12 38 12 18 false := ⟨rfl, (RX12, TX12, 24), rfl, by decide, uw12, (tb 1018 (by decide +kernel) rfl)⟩
theorem sp12_38_12 : SiteP RX12 38 12 18 false (.array .int) true := ⟨rfl, (RX12, TX12, 24), rfl, by decide, uw12, (tb 1018 (by decide +kernel) rfl), ck12, by decide +kernel, .inr ⟨rfl, rfl, rfl⟩⟩
theorem sf12_41_12 : SiteF RX12 41 12 19 false := ⟨rfl, (RX12, TX12, 24), rfl, by decide, uw12, (tb 1019 (by decide +kernel) rfl)⟩
theorem sp12_41_12 : SiteP RX12 41 12 19 false (.array .int) true := ⟨rfl, (RX12, TX12, 24), rfl, by decide, uw12, (tb 1019 (by decide +kernel) rfl), ck12, by decide +kernel, .inr ⟨rfl, rfl, rfl⟩⟩
theorem sf12_44_12 : SiteF RX12 44 12 20 false := ⟨rfl, (RX12, TX12, 24), rfl, by decide, uw12, (tb 1020 (by decide +kernel) rfl)⟩
theorem sp12_44_12 : SiteP RX12 44 12 20 false (.array .boolean) true := ⟨rfl, (RX12, TX12, 24), rfl, by decide, uw12, (tb 1020 (by decide +kernel) rfl), ck12, by decide +kernel, .inr ⟨rfl, rfl, rfl⟩⟩
theorem sf12_47_12 : SiteF RX12 47 12 21 false := ⟨rfl, (RX12, TX12, 24), rfl, by decide, uw12, (tb 1021 (by decide +kernel) rfl)⟩
theorem sp12_47_12 : SiteP RX12 47 12 21 false (.array .int) true := ⟨rfl, (RX12, TX12, 24), rfl, by decide, uw12, (tb 1021 (by decide +kernel) rfl), ck12, by decide +kernel, .inr ⟨rfl, rfl, rfl⟩⟩
theorem sf12_50_12 : SiteF RX12 50 12 22 false := ⟨rfl, (RX12, TX12, 24), rfl, by decide, uw12, (tb 1022 (by decide +kernel) rfl)⟩
theorem sp12_50_12 : SiteP RX12 50 12 22 false (.array .int) true := ⟨rfl, (RX12, TX12, 24), rfl, by decide, uw12, (tb 1022 (by decide +kernel) rfl), ck12, by decide +kernel, .inr ⟨rfl, rfl, rfl⟩⟩
theorem sf12_54_12 : SiteF RX12 54 12 8 true := ⟨rfl, (RX12, TX12, 24), rfl, by decide, uw12, (tb 1008 (by decide +kernel) rfl)⟩
theorem sp12_54_12 : SiteP RX12 54 12 8 true .int false := ⟨rfl, (RX12, TX12, 24), rfl, by decide, uw12, (tb 1008 (by decide +kernel) rfl), ck12, by decide +kernel, .inl ⟨rfl, rfl⟩⟩
theorem sf12_7_12 : SiteF RX12 7 12 0 false := ⟨rfl, (RX12, TX12, 24), rfl, by decide, uw12, (tb 1000 (by decide +kernel) rfl)⟩
theorem sp12_7_12 : SiteP RX12 7 12 0 false (.array .int) true := ⟨rfl, (RX12, TX12, 24), rfl, by decide, uw12, (tb 1000 (by decide +kernel) rfl), ck12, by decide +kernel, .inr ⟨rfl, rfl, rfl⟩⟩
theorem sf12_78_12 : SiteF RX12 78 12 10 true := ⟨rfl, (RX12, TX12, 24), rfl, by decide, uw12, (tb 1010 (by decide +kernel) rfl)⟩
theorem sp12_78_12 : SiteP RX12 78 12 10 true .int false := ⟨rfl, (RX12, TX12, 24), rfl, by decide, uw12, (tb 1010 (by decide +kernel) rfl), ck12, by decide +kernel, .inl ⟨rfl, rfl⟩⟩
theorem sf12_82_12 : SiteF RX12 82 12 11 true := ⟨rfl, (RX12, TX12, 24), rfl, by decide, uw12, (tb 1011 (by decide +kernel) rfl)⟩
theorem sp12_82_12 : SiteP RX12 82 12 11 true .int false := ⟨rfl, (RX12, TX12, 24), rfl, by decide, uw12, (tb 1011 (by decide +kernel) rfl), ck12, by decide +kernel, .inl ⟨rfl, rfl⟩⟩
theorem sf12_85_12 : SiteF RX12 85 12 12 true := ⟨rfl, (RX12, TX12, 24), rfl, by decide, uw12, (tb 1012 (by decide +kernel) rfl)⟩
theorem sp12_85_12 : SiteP RX12 85 12 12 true .int false := ⟨rfl, (RX12, TX12, 24), rfl, by decide, uw12, (tb 1012 (by decide +kernel) rfl), ck12, by decide +kernel, .inl ⟨rfl, rfl⟩⟩
theorem sf12_91_12 : SiteF RX12 91 12 13 true := ⟨rfl, (RX12, TX12, 24), rfl, by decide, uw12, (tb 1013 (by decide +kernel) rfl)⟩
theorem sp12_91_12 : SiteP RX12 91 12 13 true .int false := ⟨rfl, (RX12, TX12, 24), rfl, by decide, uw12, (tb 1013 (by decide +kernel) rfl), ck12, by decide +kernel, .inl ⟨rfl, rfl⟩⟩
theorem sf12_94_12 : SiteF RX12 94 12 14 true := ⟨rfl, (RX12, TX12, 24), rfl, by decide, uw12, (tb 1014 (by decide +kernel) rfl)⟩
theorem sp12_94_12 : SiteP RX12 94 12 14 true .int false := ⟨rfl, (RX12, TX12, 24), rfl, by decide, uw12, (tb 1014 (by decide +kernel) rfl), ck12, by decide +kernel, .inl ⟨rfl, rfl⟩⟩
theorem sf12_97_12 : SiteF RX12 97 12 15 true := ⟨rfl, (RX12, TX12, 24), rfl, by decide, uw12, (tb 1015 (by decide +kernel) rfl)⟩
theorem sp12_97_12 : SiteP RX12 97 12 15 true .int false := ⟨rfl, (RX12, TX12, 24), rfl, by decide, uw12, (tb 1015 (by decide +kernel) rfl), ck12, by decide +kernel, .inl ⟨rfl, rfl⟩⟩
theorem kc4_46 : Cond.constant RX4 46 (-1000000) ∈ TBL := (tb 522 (by decide +kernel) rfl)
theorem kc10_64 : Cond.constant RX10 64 (-1000000) ∈ TBL := (tb 558 (by decide +kernel) rfl)
theorem kc11_100 : Cond.constant RX11 100 (-1000001) ∈ TBL := (tb 414 (by decide +kernel) rfl)
theorem kc11_138 : Cond.constant RX11 138 (-1000010) ∈ TBL := (tb 419 (by decide +kernel) rfl)
theorem kc11_145 : Cond.constant RX11 145 (-1000003) ∈ TBL := (tb 475 (by decide +kernel) rfl)
theorem kc11_150 : Cond.constant RX11 150 (-1000100) ∈ TBL := (tb 559 (by decide +kernel) rfl)
theorem kc11_167 : Cond.constant RX11 167 (-1000002) ∈ TBL := (tb 568 (by decide +kernel) rfl)
theorem kc11_243 : Cond.constant RX11 243 (-1000000) ∈ TBL := (tb 737 (by decide +kernel) rfl)
theorem kc12_146 : Cond.constant RX12 146 (-1000100) ∈ TBL := (tb 1174 (by decide +kernel) rfl)
theorem kc12_187 : Cond.constant RX12 187 (-1000002) ∈ TBL := (tb 1187 (by decide +kernel) rfl)
theorem kc12_53 : Cond.constant RX12 53 (-1000000) ∈ TBL := (tb 999 (by decide +kernel) rfl)
theorem kc12_58 : Cond.constant RX12 58 (-1000010) ∈ TBL := (tb 1088 (by decide +kernel) rfl)
theorem kc12_67 : Cond.constant RX12 67 (-1000001) ∈ TBL := (tb 1083 (by decide +kernel) rfl)
theorem kc12_81 : Cond.constant RX12 81 (-1000003) ∈ TBL := (tb 1113 (by decide +kernel) rfl)
theorem kcJ_265 : Cond.constant RJ6 265 (1431655765) ∈ TBL := (tb 816 (by decide +kernel) rfl)
theorem kcJ_266 : Cond.constant RJ6 266 (858993459) ∈ TBL := (tb 817 (by decide +kernel) rfl)
theorem kcJ_267 : Cond.constant RJ6 267 (252645135) ∈ TBL := (tb 818 (by decide +kernel) rfl)
end
section
theorem st0_1 (ci : Nat) : Site RX0 (.invokespecial 1) (some ci) 8 := siteI rfl rfl m8 (tb 223 (by decide +kernel) rfl)
theorem st0_13 (ci : Nat) : Site RX0 (.invokespecial 13) (some ci) 11 := siteSU (by decide +kernel) m11 (tb 933 (by decide +kernel) rfl) (tb 925 (by decide +kernel) rfl) (tb 228 (by decide +kernel) rfl)
theorem st0_17 (ci : Nat) : Site RX0 (.invokespecial 17) (some ci) 12 := siteSU (by decide +kernel) m12 (tb 972 (by decide +kernel) rfl) (tb 1479 (by decide +kernel) rfl) (tb 228 (by decide +kernel) rfl)
theorem st0_20_0 : Site RX0 (.invokevirtual 20) (some 0) 1 := siteV (RX0, TX0, 4) rfl rfl m1 (tb 973 (by decide +kernel) rfl) (tb 1482 (by decide +kernel) rfl)
theorem st0_20_2 : Site RX0 (.invokevirtual 20) (some 2) 7 := siteO (owner := "CoalGrate$Cheese") (M0 := 1) ⟨"CoalGrate$Cheese", "sizeOf", "(LCoalGrate$Thing;LCoalGrate$Trace;)I"⟩ (RX2, TX2, 4) rfl rfl rfl m7 m1 (tb 973 (by decide +kernel) rfl) (tb 1480 (by decide +kernel) rfl) (tb 1483 (by decide +kernel) rfl)
theorem st0_7_9 : Site RX0 (.invokevirtual 7) (some 9) 58 := siteV (RX9, TX9, 2) rfl rfl m58 (tb 929 (by decide +kernel) rfl) (tb 931 (by decide +kernel) rfl)
theorem st1_1 (ci : Nat) : Site RX1 (.invokespecial 1) (some ci) 38 := siteI rfl rfl m38 (tb 201 (by decide +kernel) rfl)
theorem st1_13 (ci : Nat) : Site RX1 (.invokespecial 13) (some ci) 40 := siteSU (by decide +kernel) m40 (tb 938 (by decide +kernel) rfl) (tb 1478 (by decide +kernel) rfl) (tb 206 (by decide +kernel) rfl)
theorem st1_17 (ci : Nat) : Site RX1 (.invokespecial 17) (some ci) 41 := siteSU (by decide +kernel) m41 (tb 950 (by decide +kernel) rfl) (tb 946 (by decide +kernel) rfl) (tb 206 (by decide +kernel) rfl)
theorem st1_7_9 : Site RX1 (.invokevirtual 7) (some 9) 58 := siteV (RX9, TX9, 2) rfl rfl m58 (tb 937 (by decide +kernel) rfl) (tb 931 (by decide +kernel) rfl)
theorem st2_1 (ci : Nat) : Site RX2 (.invokespecial 1) (some ci) 0 := siteI rfl rfl m0 (tb 234 (by decide +kernel) rfl)
theorem st2_13 (ci : Nat) : Site RX2 (.invokespecial 13) (some ci) 1 := siteSU (by decide +kernel) m1 (tb 965 (by decide +kernel) rfl) (tb 1480 (by decide +kernel) rfl) (tb 239 (by decide +kernel) rfl)
theorem st2_7_9 : Site RX2 (.invokevirtual 7) (some 9) 58 := siteV (RX9, TX9, 2) rfl rfl m58 (tb 964 (by decide +kernel) rfl) (tb 931 (by decide +kernel) rfl)
theorem st3_1 : Cond.methodLink RX3 1 objectInit ∈ TBL := (tb 165 (by decide +kernel) rfl)
theorem st3_22_9 : Site RX3 (.invokevirtual 22) (some 9) 58 := siteV (RX9, TX9, 2) rfl rfl m58 (tb 960 (by decide +kernel) rfl) (tb 931 (by decide +kernel) rfl)
theorem st4_26_10 : Site RX4 (.invokevirtual 26) (some 10) 60 := siteV (RX10, TX10, 14) rfl rfl m60 (tb 484 (by decide +kernel) rfl) (tb 486 (by decide +kernel) rfl)
theorem st4_3 : Cond.methodLink RX4 3 objectInit ∈ TBL := (tb 118 (by decide +kernel) rfl)
theorem st4_31_4 : Site RX4 (.invokevirtual 31) (some 4) 16 := siteV (RX4, TX4, 6) rfl rfl m16 (tb 488 (by decide +kernel) rfl) (tb 490 (by decide +kernel) rfl)
theorem st4_35_4 : Site RX4 (.invokevirtual 35) (some 4) 20 := siteV (RX4, TX4, 6) rfl rfl m20 (tb 496 (by decide +kernel) rfl) (tb 498 (by decide +kernel) rfl)
theorem st4_39_4 : Site RX4 (.invokevirtual 39) (some 4) 17 := siteV (RX4, TX4, 6) rfl rfl m17 (tb 511 (by decide +kernel) rfl) (tb 513 (by decide +kernel) rfl)
theorem st4_42 : Site RX4 (.invokestatic 42) none 26 := siteS rfl m26 (tb 519 (by decide +kernel) rfl)
theorem st4_47_4 : Site RX4 (.invokevirtual 47) (some 4) 18 := siteV (RX4, TX4, 6) rfl rfl m18 (tb 523 (by decide +kernel) rfl) (tb 525 (by decide +kernel) rfl)
theorem st4_50_4 : Site RX4 (.invokevirtual 50) (some 4) 19 := siteV (RX4, TX4, 6) rfl rfl m19 (tb 550 (by decide +kernel) rfl) (tb 552 (by decide +kernel) rfl)
theorem st4_53_4 : Site RX4 (.invokevirtual 53) (some 4) 24 := siteV (RX4, TX4, 6) rfl rfl m24 (tb 500 (by decide +kernel) rfl) (tb 502 (by decide +kernel) rfl)
theorem st4_57_4 : Site RX4 (.invokevirtual 57) (some 4) 21 := siteV (RX4, TX4, 6) rfl rfl m21 (tb 492 (by decide +kernel) rfl) (tb 494 (by decide +kernel) rfl)
theorem st4_61_4 : Site RX4 (.invokevirtual 61) (some 4) 23 := siteV (RX4, TX4, 6) rfl rfl m23 (tb 504 (by decide +kernel) rfl) (tb 506 (by decide +kernel) rfl)
theorem st4_74_10 : Site RX4 (.invokevirtual 74) (some 10) 61 := siteV (RX10, TX10, 14) rfl rfl m61 (tb 515 (by decide +kernel) rfl) (tb 517 (by decide +kernel) rfl)
theorem st4_81_4 : Site RX4 (.invokevirtual 81) (some 4) 22 := siteV (RX4, TX4, 6) rfl rfl m22 (tb 527 (by decide +kernel) rfl) (tb 529 (by decide +kernel) rfl)
theorem st4_84_10 : Site RX4 (.invokevirtual 84) (some 10) 67 := siteV (RX10, TX10, 14) rfl rfl m67 (tb 531 (by decide +kernel) rfl) (tb 533 (by decide +kernel) rfl)
theorem st4_88_10 : Site RX4 (.invokevirtual 88) (some 10) 62 := siteV (RX10, TX10, 14) rfl rfl m62 (tb 538 (by decide +kernel) rfl) (tb 540 (by decide +kernel) rfl)
theorem st4_94_10 : Site RX4 (.invokevirtual 94) (some 10) 63 := siteV (RX10, TX10, 14) rfl rfl m63 (tb 554 (by decide +kernel) rfl) (tb 556 (by decide +kernel) rfl)
theorem st4_97 : Site RX4 (.invokestatic 97) none 25 := siteS rfl m25 (tb 508 (by decide +kernel) rfl)
theorem st5_1 : Cond.methodLink RX5 1 objectInit ∈ TBL := (tb 101 (by decide +kernel) rfl)
theorem st5_19 : Cond.methodLink RX5 19 arraycopyName ∈ TBL := (tb 456 (by decide +kernel) rfl)
theorem st5_25_5 : Site RX5 (.invokevirtual 25) (some 5) 29 := siteV (RX5, TX5, 3) rfl rfl m29 (tb 986 (by decide +kernel) rfl) (tb 434 (by decide +kernel) rfl)
theorem st5_29 : Site RX5 (.invokestatic 29) none 108 := siteSN (host := "CoalGrate") m108 (by decide +kernel)
theorem st6_1 (ci : Nat) : Site RX6 (.invokespecial 1) (some ci) 8 := siteI rfl rfl m8 (tb 190 (by decide +kernel) rfl)
theorem st6_13 (ci : Nat) : Site RX6 (.invokespecial 13) (some ci) 11 := siteSU (by decide +kernel) m11 (tb 942 (by decide +kernel) rfl) (tb 925 (by decide +kernel) rfl) (tb 195 (by decide +kernel) rfl)
theorem st6_17_6 : Site RX6 (.invokevirtual 17) (some 6) 41 := siteV (RX6, TX6, 4) rfl rfl m41 (tb 943 (by decide +kernel) rfl) (tb 945 (by decide +kernel) rfl)
theorem st6_17_1 : Site RX6 (.invokevirtual 17) (some 1) 5 := siteO (owner := "CoalGrate$Sausage") (M0 := 41) ⟨"CoalGrate$Sausage", "markOf", "(LCoalGrate$Thing;LCoalGrate$Trace;)I"⟩ (RX1, TX1, 4) rfl rfl rfl m5 m41 (tb 943 (by decide +kernel) rfl) (tb 946 (by decide +kernel) rfl) (tb 947 (by decide +kernel) rfl)
theorem st6_17_7 : Site RX6 (.invokevirtual 17) (some 7) 43 := siteO (owner := "CoalGrate$Sausage") (M0 := 41) ⟨"CoalGrate$Sausage", "markOf", "(LCoalGrate$Thing;LCoalGrate$Trace;)I"⟩ (RX7, TX7, 4) rfl rfl rfl m43 m41 (tb 943 (by decide +kernel) rfl) (tb 946 (by decide +kernel) rfl) (tb 951 (by decide +kernel) rfl)
theorem st6_22 (ci : Nat) : Site RX6 (.invokespecial 22) (some ci) 12 := siteSU (by decide +kernel) m12 (tb 957 (by decide +kernel) rfl) (tb 1479 (by decide +kernel) rfl) (tb 195 (by decide +kernel) rfl)
theorem st6_7_9 : Site RX6 (.invokevirtual 7) (some 9) 58 := siteV (RX9, TX9, 2) rfl rfl m58 (tb 941 (by decide +kernel) rfl) (tb 931 (by decide +kernel) rfl)
theorem st7_1 (ci : Nat) : Site RX7 (.invokespecial 1) (some ci) 38 := siteI rfl rfl m38 (tb 212 (by decide +kernel) rfl)
theorem st7_13 (ci : Nat) : Site RX7 (.invokespecial 13) (some ci) 41 := siteSU (by decide +kernel) m41 (tb 955 (by decide +kernel) rfl) (tb 946 (by decide +kernel) rfl) (tb 217 (by decide +kernel) rfl)
theorem st7_7_9 : Site RX7 (.invokevirtual 7) (some 9) 58 := siteV (RX9, TX9, 2) rfl rfl m58 (tb 954 (by decide +kernel) rfl) (tb 931 (by decide +kernel) rfl)
theorem st8_3 : Cond.methodLink RX8 3 objectInit ∈ TBL := (tb 245 (by decide +kernel) rfl)
theorem st8_43_8 : Site RX8 (.invokevirtual 43) (some 8) 48 := siteV (RX8, TX8, 8) rfl rfl m48 (tb 708 (by decide +kernel) rfl) (tb 710 (by decide +kernel) rfl)
theorem st8_47_3 : Site RX8 (.invokevirtual 47) (some 3) 10 := siteV (RX3, TX3, 4) rfl rfl m10 (tb 625 (by decide +kernel) rfl) (tb 627 (by decide +kernel) rfl)
theorem st8_47_0 : Site RX8 (.invokevirtual 47) (some 0) 10 := siteU (owner := "CoalGrate$Kind") ⟨"CoalGrate$Kind", "drips", "()Z"⟩ (RX0, TX0, 4) rfl rfl m10 (tb 625 (by decide +kernel) rfl) (tb 628 (by decide +kernel) rfl) (tb 629 (by decide +kernel) rfl)
theorem st8_47_1 : Site RX8 (.invokevirtual 47) (some 1) 39 := siteO (owner := "CoalGrate$Kind") (M0 := 10) ⟨"CoalGrate$Kind", "drips", "()Z"⟩ (RX1, TX1, 4) rfl rfl rfl m39 m10 (tb 625 (by decide +kernel) rfl) (tb 628 (by decide +kernel) rfl) (tb 630 (by decide +kernel) rfl)
theorem st8_47_2 : Site RX8 (.invokevirtual 47) (some 2) 10 := siteU (owner := "CoalGrate$Kind") ⟨"CoalGrate$Kind", "drips", "()Z"⟩ (RX2, TX2, 4) rfl rfl m10 (tb 625 (by decide +kernel) rfl) (tb 628 (by decide +kernel) rfl) (tb 633 (by decide +kernel) rfl)
theorem st8_47_6 : Site RX8 (.invokevirtual 47) (some 6) 39 := siteO (owner := "CoalGrate$Kind") (M0 := 10) ⟨"CoalGrate$Kind", "drips", "()Z"⟩ (RX6, TX6, 4) rfl rfl rfl m39 m10 (tb 625 (by decide +kernel) rfl) (tb 628 (by decide +kernel) rfl) (tb 634 (by decide +kernel) rfl)
theorem st8_47_7 : Site RX8 (.invokevirtual 47) (some 7) 39 := siteO (owner := "CoalGrate$Kind") (M0 := 10) ⟨"CoalGrate$Kind", "drips", "()Z"⟩ (RX7, TX7, 4) rfl rfl rfl m39 m10 (tb 625 (by decide +kernel) rfl) (tb 628 (by decide +kernel) rfl) (tb 635 (by decide +kernel) rfl)
theorem st8_50_8 : Site RX8 (.invokevirtual 50) (some 8) 52 := siteV (RX8, TX8, 8) rfl rfl m52 (tb 621 (by decide +kernel) rfl) (tb 623 (by decide +kernel) rfl)
theorem st8_54 : Cond.methodLink RX8 54 Lib.Math.max.name ∈ TBL := (tb 637 (by decide +kernel) rfl)
theorem st8_59_3 : Site RX8 (.invokevirtual 59) (some 3) 9 := siteV (RX3, TX3, 4) rfl rfl m9 (tb 638 (by decide +kernel) rfl) (tb 640 (by decide +kernel) rfl)
theorem st8_59_0 : Site RX8 (.invokevirtual 59) (some 0) 9 := siteU (owner := "CoalGrate$Kind") ⟨"CoalGrate$Kind", "share", "(I)I"⟩ (RX0, TX0, 4) rfl rfl m9 (tb 638 (by decide +kernel) rfl) (tb 641 (by decide +kernel) rfl) (tb 642 (by decide +kernel) rfl)
theorem st8_59_1 : Site RX8 (.invokevirtual 59) (some 1) 9 := siteU (owner := "CoalGrate$Kind") ⟨"CoalGrate$Kind", "share", "(I)I"⟩ (RX1, TX1, 4) rfl rfl m9 (tb 638 (by decide +kernel) rfl) (tb 641 (by decide +kernel) rfl) (tb 643 (by decide +kernel) rfl)
theorem st8_59_2 : Site RX8 (.invokevirtual 59) (some 2) 9 := siteU (owner := "CoalGrate$Kind") ⟨"CoalGrate$Kind", "share", "(I)I"⟩ (RX2, TX2, 4) rfl rfl m9 (tb 638 (by decide +kernel) rfl) (tb 641 (by decide +kernel) rfl) (tb 644 (by decide +kernel) rfl)
theorem st8_59_6 : Site RX8 (.invokevirtual 59) (some 6) 9 := siteU (owner := "CoalGrate$Kind") ⟨"CoalGrate$Kind", "share", "(I)I"⟩ (RX6, TX6, 4) rfl rfl m9 (tb 638 (by decide +kernel) rfl) (tb 641 (by decide +kernel) rfl) (tb 645 (by decide +kernel) rfl)
theorem st8_59_7 : Site RX8 (.invokevirtual 59) (some 7) 9 := siteU (owner := "CoalGrate$Kind") ⟨"CoalGrate$Kind", "share", "(I)I"⟩ (RX7, TX7, 4) rfl rfl m9 (tb 638 (by decide +kernel) rfl) (tb 641 (by decide +kernel) rfl) (tb 646 (by decide +kernel) rfl)
theorem st8_67 : Site RX8 (.invokestatic 67) none 108 := siteSN (host := "CoalGrate") m108 (by decide +kernel)
theorem st9_1 : Cond.methodLink RX9 1 objectInit ∈ TBL := (tb 146 (by decide +kernel) rfl)
theorem st10_102 : Cond.methodLink RX10 102 Lib.Math.abs.name ∈ TBL := (tb 610 (by decide +kernel) rfl)
theorem st10_108_10 : Site RX10 (.invokevirtual 108) (some 10) 71 := siteV (RX10, TX10, 14) rfl rfl m71 (tb 596 (by decide +kernel) rfl) (tb 598 (by decide +kernel) rfl)
theorem st10_111_10 : Site RX10 (.invokevirtual 111) (some 10) 73 := siteV (RX10, TX10, 14) rfl rfl m73 (tb 613 (by decide +kernel) rfl) (tb 615 (by decide +kernel) rfl)
theorem st10_114_8 : Site RX10 (.invokevirtual 114) (some 8) 53 := siteV (RX8, TX8, 8) rfl rfl m53 (tb 617 (by decide +kernel) rfl) (tb 619 (by decide +kernel) rfl)
theorem st10_118_8 : Site RX10 (.invokevirtual 118) (some 8) 47 := siteV (RX8, TX8, 8) rfl rfl m47 (tb 648 (by decide +kernel) rfl) (tb 650 (by decide +kernel) rfl)
theorem st10_122_8 : Site RX10 (.invokevirtual 122) (some 8) 54 := siteV (RX8, TX8, 8) rfl rfl m54 (tb 652 (by decide +kernel) rfl) (tb 654 (by decide +kernel) rfl)
theorem st10_126_10 : Site RX10 (.invokevirtual 126) (some 10) 74 := siteV (RX10, TX10, 14) rfl rfl m74 (tb 592 (by decide +kernel) rfl) (tb 594 (by decide +kernel) rfl)
theorem st10_130_10 : Site RX10 (.invokevirtual 130) (some 10) 77 := siteV (RX10, TX10, 14) rfl rfl m77 (tb 692 (by decide +kernel) rfl) (tb 694 (by decide +kernel) rfl)
theorem st10_134 : Site RX10 (.invokestatic 134) none 108 := siteSN (host := "CoalGrate") m108 (by decide +kernel)
theorem st10_145_8 : Site RX10 (.invokevirtual 145) (some 8) 49 := siteV (RX8, TX8, 8) rfl rfl m49 (tb 875 (by decide +kernel) rfl) (tb 706 (by decide +kernel) rfl)
theorem st10_148 : Cond.methodLink RX10 148 arraycopyName ∈ TBL := (tb 577 (by decide +kernel) rfl)
theorem st10_154_8 : Site RX10 (.invokevirtual 154) (some 8) 55 := siteV (RX8, TX8, 8) rfl rfl m55 (tb 578 (by decide +kernel) rfl) (tb 580 (by decide +kernel) rfl)
theorem st10_158_8 : Site RX10 (.invokevirtual 158) (some 8) 56 := siteV (RX8, TX8, 8) rfl rfl m56 (tb 729 (by decide +kernel) rfl) (tb 731 (by decide +kernel) rfl)
theorem st10_40 (ci : Nat) : Site RX10 (.invokespecial 40) (some ci) 44 := siteI rfl rfl m44 (tb 293 (by decide +kernel) rfl)
theorem st10_5 : Cond.methodLink RX10 5 objectInit ∈ TBL := (tb 290 (by decide +kernel) rfl)
theorem st10_56_10 : Site RX10 (.invokevirtual 56) (some 10) 64 := siteV (RX10, TX10, 14) rfl rfl m64 (tb 542 (by decide +kernel) rfl) (tb 544 (by decide +kernel) rfl)
theorem st10_60_8 : Site RX10 (.invokevirtual 60) (some 8) 45 := siteV (RX8, TX8, 8) rfl rfl m45 (tb 546 (by decide +kernel) rfl) (tb 548 (by decide +kernel) rfl)
theorem st10_68 : Site RX10 (.invokestatic 68) none 109 := siteSN (host := "CoalGrate") m109 (by decide +kernel)
theorem st10_72_10 : Site RX10 (.invokevirtual 72) (some 10) 67 := siteV (RX10, TX10, 14) rfl rfl m67 (tb 677 (by decide +kernel) rfl) (tb 533 (by decide +kernel) rfl)
theorem st10_88_10 : Site RX10 (.invokevirtual 88) (some 10) 70 := siteV (RX10, TX10, 14) rfl rfl m70 (tb 600 (by decide +kernel) rfl) (tb 602 (by decide +kernel) rfl)
theorem st10_92 : Cond.methodLink RX10 92 Lib.Math.max.name ∈ TBL := (tb 604 (by decide +kernel) rfl)
theorem st10_98 : Site RX10 (.invokestatic 98) none 72 := siteS rfl m72 (tb 607 (by decide +kernel) rfl)
theorem st11_1 : Cond.methodLink RX11 1 objectInit ∈ TBL := (tb 93 (by decide +kernel) rfl)
theorem st11_101_11 : Site RX11 (.invokevirtual 101) (some 11) 91 := siteV (RX11, TX11, 17) rfl rfl m91 (tb 415 (by decide +kernel) rfl) (tb 0 (by decide +kernel) rfl)
theorem st11_105_5 : Site RX11 (.invokevirtual 105) (some 5) 32 := siteV (RX5, TX5, 3) rfl rfl m32 (tb 420 (by decide +kernel) rfl) (tb 422 (by decide +kernel) rfl)
theorem st11_109_11 : Site RX11 (.invokevirtual 109) (some 11) 92 := siteV (RX11, TX11, 17) rfl rfl m92 (tb 424 (by decide +kernel) rfl) (tb 1 (by decide +kernel) rfl)
theorem st11_112_5 : Site RX11 (.invokevirtual 112) (some 5) 29 := siteV (RX5, TX5, 3) rfl rfl m29 (tb 432 (by decide +kernel) rfl) (tb 434 (by decide +kernel) rfl)
theorem st11_115_5 : Site RX11 (.invokevirtual 115) (some 5) 31 := siteV (RX5, TX5, 3) rfl rfl m31 (tb 436 (by decide +kernel) rfl) (tb 438 (by decide +kernel) rfl)
theorem st11_119_5 : Site RX11 (.invokevirtual 119) (some 5) 34 := siteV (RX5, TX5, 3) rfl rfl m34 (tb 440 (by decide +kernel) rfl) (tb 442 (by decide +kernel) rfl)
theorem st11_123_5 : Site RX11 (.invokevirtual 123) (some 5) 30 := siteV (RX5, TX5, 3) rfl rfl m30 (tb 448 (by decide +kernel) rfl) (tb 450 (by decide +kernel) rfl)
theorem st11_127_5 : Site RX11 (.invokevirtual 127) (some 5) 35 := siteV (RX5, TX5, 3) rfl rfl m35 (tb 452 (by decide +kernel) rfl) (tb 454 (by decide +kernel) rfl)
theorem st11_131_5 : Site RX11 (.invokevirtual 131) (some 5) 36 := siteV (RX5, TX5, 3) rfl rfl m36 (tb 463 (by decide +kernel) rfl) (tb 465 (by decide +kernel) rfl)
theorem st11_139_4 : Site RX11 (.invokevirtual 139) (some 4) 14 := siteV (RX4, TX4, 6) rfl rfl m14 (tb 471 (by decide +kernel) rfl) (tb 473 (by decide +kernel) rfl)
theorem st11_146_4 : Site RX11 (.invokevirtual 146) (some 4) 15 := siteV (RX4, TX4, 6) rfl rfl m15 (tb 480 (by decide +kernel) rfl) (tb 482 (by decide +kernel) rfl)
theorem st11_171_11 : Site RX11 (.invokevirtual 171) (some 11) 103 := siteV (RX11, TX11, 17) rfl rfl m103 (tb 569 (by decide +kernel) rfl) (tb 2 (by decide +kernel) rfl)
theorem st11_174_10 : Site RX11 (.invokevirtual 174) (some 10) 75 := siteV (RX10, TX10, 14) rfl rfl m75 (tb 588 (by decide +kernel) rfl) (tb 590 (by decide +kernel) rfl)
theorem st11_177_10 : Site RX11 (.invokevirtual 177) (some 10) 65 := siteV (RX10, TX10, 14) rfl rfl m65 (tb 660 (by decide +kernel) rfl) (tb 662 (by decide +kernel) rfl)
theorem st11_18 (ci : Nat) : Site RX11 (.invokespecial 18) (some ci) 13 := siteIN (host := "CoalGrate") rfl rfl m13 (by decide +kernel)
theorem st11_181_8 : Site RX11 (.invokevirtual 181) (some 8) 47 := siteV (RX8, TX8, 8) rfl rfl m47 (tb 664 (by decide +kernel) rfl) (tb 650 (by decide +kernel) rfl)
theorem st11_185_8 : Site RX11 (.invokevirtual 185) (some 8) 51 := siteV (RX8, TX8, 8) rfl rfl m51 (tb 665 (by decide +kernel) rfl) (tb 667 (by decide +kernel) rfl)
theorem st11_191_10 : Site RX11 (.invokevirtual 191) (some 10) 68 := siteV (RX10, TX10, 14) rfl rfl m68 (tb 673 (by decide +kernel) rfl) (tb 675 (by decide +kernel) rfl)
theorem st11_198 : Site RX11 (.invokestatic 198) none 109 := siteS rfl m109 (tb 682 (by decide +kernel) rfl)
theorem st11_204_10 : Site RX11 (.invokevirtual 204) (some 10) 61 := siteV (RX10, TX10, 14) rfl rfl m61 (tb 683 (by decide +kernel) rfl) (tb 517 (by decide +kernel) rfl)
theorem st11_207_10 : Site RX11 (.invokevirtual 207) (some 10) 76 := siteV (RX10, TX10, 14) rfl rfl m76 (tb 688 (by decide +kernel) rfl) (tb 690 (by decide +kernel) rfl)
theorem st11_211_10 : Site RX11 (.invokevirtual 211) (some 10) 66 := siteV (RX10, TX10, 14) rfl rfl m66 (tb 700 (by decide +kernel) rfl) (tb 702 (by decide +kernel) rfl)
theorem st11_214_8 : Site RX11 (.invokevirtual 214) (some 8) 49 := siteV (RX8, TX8, 8) rfl rfl m49 (tb 704 (by decide +kernel) rfl) (tb 706 (by decide +kernel) rfl)
theorem st11_217_10 : Site RX11 (.invokevirtual 217) (some 10) 69 := siteV (RX10, TX10, 14) rfl rfl m69 (tb 712 (by decide +kernel) rfl) (tb 714 (by decide +kernel) rfl)
theorem st11_224_10 : Site RX11 (.invokevirtual 224) (some 10) 79 := siteV (RX10, TX10, 14) rfl rfl m79 (tb 716 (by decide +kernel) rfl) (tb 718 (by decide +kernel) rfl)
theorem st11_230_10 : Site RX11 (.invokevirtual 230) (some 10) 84 := siteV (RX10, TX10, 14) rfl rfl m84 (tb 725 (by decide +kernel) rfl) (tb 727 (by decide +kernel) rfl)
theorem st11_234_10 : Site RX11 (.invokevirtual 234) (some 10) 83 := siteV (RX10, TX10, 14) rfl rfl m83 (tb 573 (by decide +kernel) rfl) (tb 575 (by decide +kernel) rfl)
theorem st11_237 : Cond.methodLink RX11 237 Lib.Math.min.name ∈ TBL := (tb 585 (by decide +kernel) rfl)
theorem st11_247_8 : Site RX11 (.invokevirtual 247) (some 8) 50 := siteV (RX8, TX8, 8) rfl rfl m50 (tb 738 (by decide +kernel) rfl) (tb 740 (by decide +kernel) rfl)
theorem st11_25 (ci : Nat) : Site RX11 (.invokespecial 25) (some ci) 57 := siteIN (host := "CoalGrate") rfl rfl m57 (by decide +kernel)
theorem st11_253 : Site RX11 (.invokestatic 253) none 108 := siteS rfl m108 (tb 742 (by decide +kernel) rfl)
theorem st11_257_8 : Site RX11 (.invokevirtual 257) (some 8) 48 := siteV (RX8, TX8, 8) rfl rfl m48 (tb 743 (by decide +kernel) rfl) (tb 710 (by decide +kernel) rfl)
theorem st11_275_11 : Site RX11 (.invokevirtual 275) (some 11) 111 := siteV (RX11, TX11, 17) rfl rfl m111 (tb 756 (by decide +kernel) rfl) (tb 758 (by decide +kernel) rfl)
theorem st11_278 : Site RX11 (.invokestatic 278) none 112 := siteS rfl m112 (tb 760 (by decide +kernel) rfl)
theorem st11_281_11 : Site RX11 (.invokevirtual 281) (some 11) 113 := siteV (RX11, TX11, 17) rfl rfl m113 (tb 766 (by decide +kernel) rfl) (tb 3 (by decide +kernel) rfl)
theorem st11_291_10 : Site RX11 (.invokevirtual 291) (some 10) 71 := siteV (RX10, TX10, 14) rfl rfl m71 (tb 763 (by decide +kernel) rfl) (tb 598 (by decide +kernel) rfl)
theorem st11_294_10 : Site RX11 (.invokevirtual 294) (some 10) 67 := siteV (RX10, TX10, 14) rfl rfl m67 (tb 764 (by decide +kernel) rfl) (tb 533 (by decide +kernel) rfl)
theorem st11_297_10 : Site RX11 (.invokevirtual 297) (some 10) 73 := siteV (RX10, TX10, 14) rfl rfl m73 (tb 765 (by decide +kernel) rfl) (tb 615 (by decide +kernel) rfl)
theorem st11_30 : Site RX11 (.invokestatic 30) none 86 := siteS rfl m86 (tb 156 (by decide +kernel) rfl)
theorem st11_300_8 : Site RX11 (.invokevirtual 300) (some 8) 52 := siteV (RX8, TX8, 8) rfl rfl m52 (tb 775 (by decide +kernel) rfl) (tb 623 (by decide +kernel) rfl)
theorem st11_303_8 : Site RX11 (.invokevirtual 303) (some 8) 46 := siteV (RX8, TX8, 8) rfl rfl m46 (tb 770 (by decide +kernel) rfl) (tb 772 (by decide +kernel) rfl)
theorem st11_307_10 : Site RX11 (.invokevirtual 307) (some 10) 74 := siteV (RX10, TX10, 14) rfl rfl m74 (tb 774 (by decide +kernel) rfl) (tb 594 (by decide +kernel) rfl)
theorem st11_310_11 : Site RX11 (.invokevirtual 310) (some 11) 117 := siteV (RX11, TX11, 17) rfl rfl m117 (tb 785 (by decide +kernel) rfl) (tb 4 (by decide +kernel) rfl)
theorem st11_314_11 : Site RX11 (.invokevirtual 314) (some 11) 119 := siteV (RX11, TX11, 17) rfl rfl m119 (tb 801 (by decide +kernel) rfl) (tb 5 (by decide +kernel) rfl)
theorem st11_321_11 : Site RX11 (.invokevirtual 321) (some 11) 120 := siteV (RX11, TX11, 17) rfl rfl m120 (tb 805 (by decide +kernel) rfl) (tb 6 (by decide +kernel) rfl)
theorem st11_325 : Site RX11 (.invokestatic 325) none 248 := siteS2 m248 (tb 813 (by decide +kernel) rfl)
theorem st11_330_11 : Site RX11 (.invokevirtual 330) (some 11) 122 := siteV (RX11, TX11, 17) rfl rfl m122 (tb 809 (by decide +kernel) rfl) (tb 7 (by decide +kernel) rfl)
theorem st11_340_11 : Site RX11 (.invokevirtual 340) (some 11) 121 := siteV (RX11, TX11, 17) rfl rfl m121 (tb 819 (by decide +kernel) rfl) (tb 8 (by decide +kernel) rfl)
theorem st11_343_8 : Site RX11 (.invokevirtual 343) (some 8) 53 := siteV (RX8, TX8, 8) rfl rfl m53 (tb 823 (by decide +kernel) rfl) (tb 619 (by decide +kernel) rfl)
theorem st11_346_11 : Site RX11 (.invokevirtual 346) (some 11) 124 := siteV (RX11, TX11, 17) rfl rfl m124 (tb 828 (by decide +kernel) rfl) (tb 9 (by decide +kernel) rfl)
theorem st11_350_8 : Site RX11 (.invokevirtual 350) (some 8) 54 := siteV (RX8, TX8, 8) rfl rfl m54 (tb 832 (by decide +kernel) rfl) (tb 654 (by decide +kernel) rfl)
theorem st11_354_11 : Site RX11 (.invokevirtual 354) (some 11) 126 := siteV (RX11, TX11, 17) rfl rfl m126 (tb 837 (by decide +kernel) rfl) (tb 10 (by decide +kernel) rfl)
theorem st11_358_10 : Site RX11 (.invokevirtual 358) (some 10) 70 := siteV (RX10, TX10, 14) rfl rfl m70 (tb 841 (by decide +kernel) rfl) (tb 602 (by decide +kernel) rfl)
theorem st11_361 : Cond.methodLink RX11 361 Lib.Math.max.name ∈ TBL := (tb 842 (by decide +kernel) rfl)
theorem st11_364_11 : Site RX11 (.invokevirtual 364) (some 11) 128 := siteV (RX11, TX11, 17) rfl rfl m128 (tb 847 (by decide +kernel) rfl) (tb 11 (by decide +kernel) rfl)
theorem st11_370_11 : Site RX11 (.invokevirtual 370) (some 11) 129 := siteV (RX11, TX11, 17) rfl rfl m129 (tb 851 (by decide +kernel) rfl) (tb 12 (by decide +kernel) rfl)
theorem st11_377_11 : Site RX11 (.invokevirtual 377) (some 11) 133 := siteV (RX11, TX11, 17) rfl rfl m133 (tb 859 (by decide +kernel) rfl) (tb 13 (by decide +kernel) rfl)
theorem st11_380_10 : Site RX11 (.invokevirtual 380) (some 10) 80 := siteV (RX10, TX10, 14) rfl rfl m80 (tb 863 (by decide +kernel) rfl) (tb 865 (by decide +kernel) rfl)
theorem st11_384_10 : Site RX11 (.invokevirtual 384) (some 10) 81 := siteV (RX10, TX10, 14) rfl rfl m81 (tb 867 (by decide +kernel) rfl) (tb 869 (by decide +kernel) rfl)
theorem st11_387_10 : Site RX11 (.invokevirtual 387) (some 10) 82 := siteV (RX10, TX10, 14) rfl rfl m82 (tb 871 (by decide +kernel) rfl) (tb 873 (by decide +kernel) rfl)
theorem st11_390_11 : Site RX11 (.invokevirtual 390) (some 11) 132 := siteV (RX11, TX11, 17) rfl rfl m132 (tb 880 (by decide +kernel) rfl) (tb 14 (by decide +kernel) rfl)
theorem st11_393_5 : Site RX11 (.invokevirtual 393) (some 5) 33 := siteV (RX5, TX5, 3) rfl rfl m33 (tb 884 (by decide +kernel) rfl) (tb 886 (by decide +kernel) rfl)
theorem st11_396_10 : Site RX11 (.invokevirtual 396) (some 10) 78 := siteV (RX10, TX10, 14) rfl rfl m78 (tb 892 (by decide +kernel) rfl) (tb 894 (by decide +kernel) rfl)
theorem st11_399 : Site RX11 (.invokestatic 399) none 137 := siteS rfl m137 (tb 900 (by decide +kernel) rfl)
theorem st11_40 (ci : Nat) : Site RX11 (.invokespecial 40) (some ci) 44 := siteI rfl rfl m44 (tb 242 (by decide +kernel) rfl)
theorem st11_405 : Site RX11 (.invokestatic 405) none 140 := siteS rfl m140 (tb 915 (by decide +kernel) rfl)
theorem st11_410_3 : Site RX11 (.invokevirtual 410) (some 3) 11 := siteV (RX3, TX3, 4) rfl rfl m11 (tb 922 (by decide +kernel) rfl) (tb 924 (by decide +kernel) rfl)
theorem st11_410_0 : Site RX11 (.invokevirtual 410) (some 0) 1 := siteO (owner := "CoalGrate$Kind") (M0 := 11) ⟨"CoalGrate$Kind", "sizeOf", "(LCoalGrate$Thing;LCoalGrate$Trace;)I"⟩ (RX0, TX0, 4) rfl rfl rfl m1 m11 (tb 922 (by decide +kernel) rfl) (tb 925 (by decide +kernel) rfl) (tb 926 (by decide +kernel) rfl)
theorem st11_410_1 : Site RX11 (.invokevirtual 410) (some 1) 4 := siteO (owner := "CoalGrate$Kind") (M0 := 11) ⟨"CoalGrate$Kind", "sizeOf", "(LCoalGrate$Thing;LCoalGrate$Trace;)I"⟩ (RX1, TX1, 4) rfl rfl rfl m4 m11 (tb 922 (by decide +kernel) rfl) (tb 925 (by decide +kernel) rfl) (tb 934 (by decide +kernel) rfl)
theorem st11_410_2 : Site RX11 (.invokevirtual 410) (some 2) 7 := siteO (owner := "CoalGrate$Kind") (M0 := 11) ⟨"CoalGrate$Kind", "sizeOf", "(LCoalGrate$Thing;LCoalGrate$Trace;)I"⟩ (RX2, TX2, 4) rfl rfl rfl m7 m11 (tb 922 (by decide +kernel) rfl) (tb 925 (by decide +kernel) rfl) (tb 961 (by decide +kernel) rfl)
theorem st11_410_6 : Site RX11 (.invokevirtual 410) (some 6) 40 := siteO (owner := "CoalGrate$Kind") (M0 := 11) ⟨"CoalGrate$Kind", "sizeOf", "(LCoalGrate$Thing;LCoalGrate$Trace;)I"⟩ (RX6, TX6, 4) rfl rfl rfl m40 m11 (tb 922 (by decide +kernel) rfl) (tb 925 (by decide +kernel) rfl) (tb 966 (by decide +kernel) rfl)
theorem st11_410_7 : Site RX11 (.invokevirtual 410) (some 7) 40 := siteO (owner := "CoalGrate$Kind") (M0 := 11) ⟨"CoalGrate$Kind", "sizeOf", "(LCoalGrate$Thing;LCoalGrate$Trace;)I"⟩ (RX7, TX7, 4) rfl rfl rfl m40 m11 (tb 922 (by decide +kernel) rfl) (tb 925 (by decide +kernel) rfl) (tb 967 (by decide +kernel) rfl)
theorem st11_414_0 : Site RX11 (.invokevirtual 414) (some 0) 2 := siteO (owner := "CoalGrate$Kind") (M0 := 12) ⟨"CoalGrate$Kind", "markOf", "(LCoalGrate$Thing;LCoalGrate$Trace;)I"⟩ (RX0, TX0, 4) rfl rfl rfl m2 m12 (tb 969 (by decide +kernel) rfl) (tb 1479 (by decide +kernel) rfl) (tb 1481 (by decide +kernel) rfl)
theorem st11_414_1 : Site RX11 (.invokevirtual 414) (some 1) 5 := siteO (owner := "CoalGrate$Kind") (M0 := 12) ⟨"CoalGrate$Kind", "markOf", "(LCoalGrate$Thing;LCoalGrate$Trace;)I"⟩ (RX1, TX1, 4) rfl rfl rfl m5 m12 (tb 969 (by decide +kernel) rfl) (tb 1479 (by decide +kernel) rfl) (tb 1484 (by decide +kernel) rfl)
theorem st11_414_2 : Site RX11 (.invokevirtual 414) (some 2) 2 := siteO (owner := "CoalGrate$Kind") (M0 := 12) ⟨"CoalGrate$Kind", "markOf", "(LCoalGrate$Thing;LCoalGrate$Trace;)I"⟩ (RX2, TX2, 4) rfl rfl rfl m2 m12 (tb 969 (by decide +kernel) rfl) (tb 1479 (by decide +kernel) rfl) (tb 1485 (by decide +kernel) rfl)
theorem st11_414_3 : Site RX11 (.invokevirtual 414) (some 3) 12 := siteV (RX3, TX3, 4) rfl rfl m12 (tb 969 (by decide +kernel) rfl) (tb 1486 (by decide +kernel) rfl)
theorem st11_414_6 : Site RX11 (.invokevirtual 414) (some 6) 41 := siteO (owner := "CoalGrate$Kind") (M0 := 12) ⟨"CoalGrate$Kind", "markOf", "(LCoalGrate$Thing;LCoalGrate$Trace;)I"⟩ (RX6, TX6, 4) rfl rfl rfl m41 m12 (tb 969 (by decide +kernel) rfl) (tb 1479 (by decide +kernel) rfl) (tb 1487 (by decide +kernel) rfl)
theorem st11_414_7 : Site RX11 (.invokevirtual 414) (some 7) 43 := siteO (owner := "CoalGrate$Kind") (M0 := 12) ⟨"CoalGrate$Kind", "markOf", "(LCoalGrate$Thing;LCoalGrate$Trace;)I"⟩ (RX7, TX7, 4) rfl rfl rfl m43 m12 (tb 969 (by decide +kernel) rfl) (tb 1479 (by decide +kernel) rfl) (tb 1488 (by decide +kernel) rfl)
theorem st11_420_5 : Site RX11 (.invokevirtual 420) (some 5) 37 := siteV (RX5, TX5, 3) rfl rfl m37 (tb 982 (by decide +kernel) rfl) (tb 984 (by decide +kernel) rfl)
theorem st11_423_10 : Site RX11 (.invokevirtual 423) (some 10) 77 := siteV (RX10, TX10, 14) rfl rfl m77 (tb 988 (by decide +kernel) rfl) (tb 694 (by decide +kernel) rfl)
theorem st11_49 (ci : Nat) : Site RX11 (.invokespecial 49) (some ci) 59 := siteI rfl rfl m59 (tb 287 (by decide +kernel) rfl)
theorem st11_78 (ci : Nat) : Site RX11 (.invokespecial 78) (some ci) 8 := siteI rfl rfl m8 (tb 162 (by decide +kernel) rfl)
theorem st11_83 (ci : Nat) : Site RX11 (.invokespecial 83) (some ci) 38 := siteI rfl rfl m38 (tb 187 (by decide +kernel) rfl)
theorem st11_86 (ci : Nat) : Site RX11 (.invokespecial 86) (some ci) 3 := siteI rfl rfl m3 (tb 198 (by decide +kernel) rfl)
theorem st11_89 (ci : Nat) : Site RX11 (.invokespecial 89) (some ci) 42 := siteI rfl rfl m42 (tb 209 (by decide +kernel) rfl)
theorem st11_9 (ci : Nat) : Site RX11 (.invokespecial 9) (some ci) 27 := siteI rfl rfl m27 (tb 98 (by decide +kernel) rfl)
theorem st11_92 (ci : Nat) : Site RX11 (.invokespecial 92) (some ci) 0 := siteI rfl rfl m0 (tb 220 (by decide +kernel) rfl)
theorem st11_95 (ci : Nat) : Site RX11 (.invokespecial 95) (some ci) 6 := siteI rfl rfl m6 (tb 231 (by decide +kernel) rfl)
theorem st11_96_5 : Site RX11 (.invokevirtual 96) (some 5) 28 := siteV (RX5, TX5, 3) rfl rfl m28 (tb 410 (by decide +kernel) rfl) (tb 412 (by decide +kernel) rfl)
theorem stL_101_12 : Site RL (.invokevirtual 101) (some 12) 212 := siteV (RX12, TX12, 24) rfl rfl m212 (tb 1328 (by decide +kernel) rfl) (tb 1330 (by decide +kernel) rfl)
theorem stL_102_11 : Site RL (.invokevirtual 102) (some 11) 115 := siteV (RX11, TX11, 17) rfl rfl m115 (tb 789 (by decide +kernel) rfl) (tb 791 (by decide +kernel) rfl)
theorem stL_105_12 : Site RL (.invokevirtual 105) (some 12) 213 := siteV (RX12, TX12, 24) rfl rfl m213 (tb 1336 (by decide +kernel) rfl) (tb 1338 (by decide +kernel) rfl)
theorem stL_106_11 : Site RL (.invokevirtual 106) (some 11) 116 := siteV (RX11, TX11, 17) rfl rfl m116 (tb 793 (by decide +kernel) rfl) (tb 795 (by decide +kernel) rfl)
theorem stL_109_12 : Site RL (.invokevirtual 109) (some 12) 214 := siteV (RX12, TX12, 24) rfl rfl m214 (tb 1340 (by decide +kernel) rfl) (tb 1342 (by decide +kernel) rfl)
theorem stL_110_11 : Site RL (.invokevirtual 110) (some 11) 118 := siteV (RX11, TX11, 17) rfl rfl m118 (tb 797 (by decide +kernel) rfl) (tb 799 (by decide +kernel) rfl)
theorem stL_113_12 : Site RL (.invokevirtual 113) (some 12) 217 := siteV (RX12, TX12, 24) rfl rfl m217 (tb 1344 (by decide +kernel) rfl) (tb 1346 (by decide +kernel) rfl)
theorem stL_114_11 : Site RL (.invokevirtual 114) (some 11) 123 := siteV (RX11, TX11, 17) rfl rfl m123 (tb 824 (by decide +kernel) rfl) (tb 826 (by decide +kernel) rfl)
theorem stL_117_12 : Site RL (.invokevirtual 117) (some 12) 218 := siteV (RX12, TX12, 24) rfl rfl m218 (tb 1355 (by decide +kernel) rfl) (tb 1357 (by decide +kernel) rfl)
theorem stL_118_11 : Site RL (.invokevirtual 118) (some 11) 125 := siteV (RX11, TX11, 17) rfl rfl m125 (tb 833 (by decide +kernel) rfl) (tb 835 (by decide +kernel) rfl)
theorem stL_12 (ci : Nat) : Site RL (.invokespecial 12) (some ci) 145 := siteI rfl rfl m145 (tb 995 (by decide +kernel) rfl)
theorem stL_121_12 : Site RL (.invokevirtual 121) (some 12) 219 := siteV (RX12, TX12, 24) rfl rfl m219 (tb 1359 (by decide +kernel) rfl) (tb 1361 (by decide +kernel) rfl)
theorem stL_122_11 : Site RL (.invokevirtual 122) (some 11) 127 := siteV (RX11, TX11, 17) rfl rfl m127 (tb 843 (by decide +kernel) rfl) (tb 845 (by decide +kernel) rfl)
theorem stL_125_12 : Site RL (.invokevirtual 125) (some 12) 222 := siteV (RX12, TX12, 24) rfl rfl m222 (tb 1363 (by decide +kernel) rfl) (tb 1365 (by decide +kernel) rfl)
theorem stL_126_11 : Site RL (.invokevirtual 126) (some 11) 130 := siteV (RX11, TX11, 17) rfl rfl m130 (tb 855 (by decide +kernel) rfl) (tb 857 (by decide +kernel) rfl)
theorem stL_129_12 : Site RL (.invokevirtual 129) (some 12) 225 := siteV (RX12, TX12, 24) rfl rfl m225 (tb 1378 (by decide +kernel) rfl) (tb 1380 (by decide +kernel) rfl)
theorem stL_13_11 : Site RL (.invokevirtual 13) (some 11) 87 := siteV (RX11, TX11, 17) rfl rfl m87 (tb 406 (by decide +kernel) rfl) (tb 408 (by decide +kernel) rfl)
theorem stL_130_11 : Site RL (.invokevirtual 130) (some 11) 131 := siteV (RX11, TX11, 17) rfl rfl m131 (tb 876 (by decide +kernel) rfl) (tb 878 (by decide +kernel) rfl)
theorem stL_133_12 : Site RL (.invokevirtual 133) (some 12) 227 := siteV (RX12, TX12, 24) rfl rfl m227 (tb 1390 (by decide +kernel) rfl) (tb 1392 (by decide +kernel) rfl)
theorem stL_134_11 : Site RL (.invokevirtual 134) (some 11) 134 := siteV (RX11, TX11, 17) rfl rfl m134 (tb 888 (by decide +kernel) rfl) (tb 890 (by decide +kernel) rfl)
theorem stL_137_12 : Site RL (.invokevirtual 137) (some 12) 229 := siteV (RX12, TX12, 24) rfl rfl m229 (tb 1398 (by decide +kernel) rfl) (tb 1400 (by decide +kernel) rfl)
theorem stL_138_11 : Site RL (.invokevirtual 138) (some 11) 135 := siteV (RX11, TX11, 17) rfl rfl m135 (tb 896 (by decide +kernel) rfl) (tb 898 (by decide +kernel) rfl)
theorem stL_141_12 : Site RL (.invokevirtual 141) (some 12) 230 := siteV (RX12, TX12, 24) rfl rfl m230 (tb 1406 (by decide +kernel) rfl) (tb 1408 (by decide +kernel) rfl)
theorem stL_142_11 : Site RL (.invokevirtual 142) (some 11) 136 := siteV (RX11, TX11, 17) rfl rfl m136 (tb 903 (by decide +kernel) rfl) (tb 905 (by decide +kernel) rfl)
theorem stL_145_12 : Site RL (.invokevirtual 145) (some 12) 231 := siteV (RX12, TX12, 24) rfl rfl m231 (tb 1410 (by decide +kernel) rfl) (tb 1412 (by decide +kernel) rfl)
theorem stL_146_11 : Site RL (.invokevirtual 146) (some 11) 138 := siteV (RX11, TX11, 17) rfl rfl m138 (tb 907 (by decide +kernel) rfl) (tb 909 (by decide +kernel) rfl)
theorem stL_149_12 : Site RL (.invokevirtual 149) (some 12) 232 := siteV (RX12, TX12, 24) rfl rfl m232 (tb 1414 (by decide +kernel) rfl) (tb 1416 (by decide +kernel) rfl)
theorem stL_150_11 : Site RL (.invokevirtual 150) (some 11) 139 := siteV (RX11, TX11, 17) rfl rfl m139 (tb 911 (by decide +kernel) rfl) (tb 913 (by decide +kernel) rfl)
theorem stL_153_12 : Site RL (.invokevirtual 153) (some 12) 233 := siteV (RX12, TX12, 24) rfl rfl m233 (tb 1418 (by decide +kernel) rfl) (tb 1420 (by decide +kernel) rfl)
theorem stL_154_11 : Site RL (.invokevirtual 154) (some 11) 141 := siteV (RX11, TX11, 17) rfl rfl m141 (tb 918 (by decide +kernel) rfl) (tb 920 (by decide +kernel) rfl)
theorem stL_157_12 : Site RL (.invokevirtual 157) (some 12) 244 := siteV (RX12, TX12, 24) rfl rfl m244 (tb 1422 (by decide +kernel) rfl) (tb 1424 (by decide +kernel) rfl)
theorem stL_158_11 : Site RL (.invokevirtual 158) (some 11) 142 := siteV (RX11, TX11, 17) rfl rfl m142 (tb 974 (by decide +kernel) rfl) (tb 976 (by decide +kernel) rfl)
theorem stL_161_12 : Site RL (.invokevirtual 161) (some 12) 245 := siteV (RX12, TX12, 24) rfl rfl m245 (tb 1466 (by decide +kernel) rfl) (tb 1468 (by decide +kernel) rfl)
theorem stL_162_11 : Site RL (.invokevirtual 162) (some 11) 143 := siteV (RX11, TX11, 17) rfl rfl m143 (tb 978 (by decide +kernel) rfl) (tb 980 (by decide +kernel) rfl)
theorem stL_165_12 : Site RL (.invokevirtual 165) (some 12) 246 := siteV (RX12, TX12, 24) rfl rfl m246 (tb 1470 (by decide +kernel) rfl) (tb 1472 (by decide +kernel) rfl)
theorem stL_166_11 : Site RL (.invokevirtual 166) (some 11) 144 := siteV (RX11, TX11, 17) rfl rfl m144 (tb 989 (by decide +kernel) rfl) (tb 991 (by decide +kernel) rfl)
theorem stL_169_12 : Site RL (.invokevirtual 169) (some 12) 247 := siteV (RX12, TX12, 24) rfl rfl m247 (tb 1474 (by decide +kernel) rfl) (tb 1476 (by decide +kernel) rfl)
theorem stL_17_12 : Site RL (.invokevirtual 17) (some 12) 151 := siteV (RX12, TX12, 24) rfl rfl m151 (tb 1073 (by decide +kernel) rfl) (tb 1075 (by decide +kernel) rfl)
theorem stL_18_11 : Site RL (.invokevirtual 18) (some 11) 88 := siteV (RX11, TX11, 17) rfl rfl m88 (tb 428 (by decide +kernel) rfl) (tb 430 (by decide +kernel) rfl)
theorem stL_21_12 : Site RL (.invokevirtual 21) (some 12) 152 := siteV (RX12, TX12, 24) rfl rfl m152 (tb 1093 (by decide +kernel) rfl) (tb 1095 (by decide +kernel) rfl)
theorem stL_22_11 : Site RL (.invokevirtual 22) (some 11) 89 := siteV (RX11, TX11, 17) rfl rfl m89 (tb 444 (by decide +kernel) rfl) (tb 446 (by decide +kernel) rfl)
theorem stL_26_12 : Site RL (.invokevirtual 26) (some 12) 154 := siteV (RX12, TX12, 24) rfl rfl m154 (tb 1097 (by decide +kernel) rfl) (tb 1099 (by decide +kernel) rfl)
theorem stL_27_11 : Site RL (.invokevirtual 27) (some 11) 90 := siteV (RX11, TX11, 17) rfl rfl m90 (tb 459 (by decide +kernel) rfl) (tb 461 (by decide +kernel) rfl)
theorem stL_31_12 : Site RL (.invokevirtual 31) (some 12) 155 := siteV (RX12, TX12, 24) rfl rfl m155 (tb 1105 (by decide +kernel) rfl) (tb 1107 (by decide +kernel) rfl)
theorem stL_32_11 : Site RL (.invokevirtual 32) (some 11) 93 := siteV (RX11, TX11, 17) rfl rfl m93 (tb 467 (by decide +kernel) rfl) (tb 469 (by decide +kernel) rfl)
theorem stL_35_12 : Site RL (.invokevirtual 35) (some 12) 156 := siteV (RX12, TX12, 24) rfl rfl m156 (tb 1109 (by decide +kernel) rfl) (tb 1111 (by decide +kernel) rfl)
theorem stL_36_11 : Site RL (.invokevirtual 36) (some 11) 94 := siteV (RX11, TX11, 17) rfl rfl m94 (tb 476 (by decide +kernel) rfl) (tb 478 (by decide +kernel) rfl)
theorem stL_40_12 : Site RL (.invokevirtual 40) (some 12) 171 := siteV (RX12, TX12, 24) rfl rfl m171 (tb 1114 (by decide +kernel) rfl) (tb 1116 (by decide +kernel) rfl)
theorem stL_41_11 : Site RL (.invokevirtual 41) (some 11) 95 := siteV (RX11, TX11, 17) rfl rfl m95 (tb 560 (by decide +kernel) rfl) (tb 562 (by decide +kernel) rfl)
theorem stL_44_12 : Site RL (.invokevirtual 44) (some 12) 172 := siteV (RX12, TX12, 24) rfl rfl m172 (tb 1175 (by decide +kernel) rfl) (tb 1177 (by decide +kernel) rfl)
theorem stL_45_11 : Site RL (.invokevirtual 45) (some 11) 96 := siteV (RX11, TX11, 17) rfl rfl m96 (tb 564 (by decide +kernel) rfl) (tb 566 (by decide +kernel) rfl)
theorem stL_48_12 : Site RL (.invokevirtual 48) (some 12) 190 := siteV (RX12, TX12, 24) rfl rfl m190 (tb 1179 (by decide +kernel) rfl) (tb 1181 (by decide +kernel) rfl)
theorem stL_49_11 : Site RL (.invokevirtual 49) (some 11) 97 := siteV (RX11, TX11, 17) rfl rfl m97 (tb 656 (by decide +kernel) rfl) (tb 658 (by decide +kernel) rfl)
theorem stL_52_12 : Site RL (.invokevirtual 52) (some 12) 191 := siteV (RX12, TX12, 24) rfl rfl m191 (tb 1236 (by decide +kernel) rfl) (tb 1238 (by decide +kernel) rfl)
theorem stL_53_11 : Site RL (.invokevirtual 53) (some 11) 98 := siteV (RX11, TX11, 17) rfl rfl m98 (tb 669 (by decide +kernel) rfl) (tb 671 (by decide +kernel) rfl)
theorem stL_57_12 : Site RL (.invokevirtual 57) (some 12) 193 := siteV (RX12, TX12, 24) rfl rfl m193 (tb 1244 (by decide +kernel) rfl) (tb 1246 (by decide +kernel) rfl)
theorem stL_58_11 : Site RL (.invokevirtual 58) (some 11) 99 := siteV (RX11, TX11, 17) rfl rfl m99 (tb 678 (by decide +kernel) rfl) (tb 680 (by decide +kernel) rfl)
theorem stL_61_12 : Site RL (.invokevirtual 61) (some 12) 195 := siteV (RX12, TX12, 24) rfl rfl m195 (tb 1252 (by decide +kernel) rfl) (tb 1254 (by decide +kernel) rfl)
theorem stL_62_11 : Site RL (.invokevirtual 62) (some 11) 100 := siteV (RX11, TX11, 17) rfl rfl m100 (tb 684 (by decide +kernel) rfl) (tb 686 (by decide +kernel) rfl)
theorem stL_65_12 : Site RL (.invokevirtual 65) (some 12) 196 := siteV (RX12, TX12, 24) rfl rfl m196 (tb 1260 (by decide +kernel) rfl) (tb 1262 (by decide +kernel) rfl)
theorem stL_66_11 : Site RL (.invokevirtual 66) (some 11) 101 := siteV (RX11, TX11, 17) rfl rfl m101 (tb 696 (by decide +kernel) rfl) (tb 698 (by decide +kernel) rfl)
theorem stL_69_12 : Site RL (.invokevirtual 69) (some 12) 200 := siteV (RX12, TX12, 24) rfl rfl m200 (tb 1264 (by decide +kernel) rfl) (tb 1266 (by decide +kernel) rfl)
theorem stL_70_11 : Site RL (.invokevirtual 70) (some 11) 102 := siteV (RX11, TX11, 17) rfl rfl m102 (tb 721 (by decide +kernel) rfl) (tb 723 (by decide +kernel) rfl)
theorem stL_73_12 : Site RL (.invokevirtual 73) (some 12) 201 := siteV (RX12, TX12, 24) rfl rfl m201 (tb 1284 (by decide +kernel) rfl) (tb 1286 (by decide +kernel) rfl)
theorem stL_74_11 : Site RL (.invokevirtual 74) (some 11) 104 := siteV (RX11, TX11, 17) rfl rfl m104 (tb 733 (by decide +kernel) rfl) (tb 735 (by decide +kernel) rfl)
theorem stL_77_12 : Site RL (.invokevirtual 77) (some 12) 202 := siteV (RX12, TX12, 24) rfl rfl m202 (tb 1288 (by decide +kernel) rfl) (tb 1290 (by decide +kernel) rfl)
theorem stL_78_11 : Site RL (.invokevirtual 78) (some 11) 105 := siteV (RX11, TX11, 17) rfl rfl m105 (tb 744 (by decide +kernel) rfl) (tb 746 (by decide +kernel) rfl)
theorem stL_81_12 : Site RL (.invokevirtual 81) (some 12) 203 := siteV (RX12, TX12, 24) rfl rfl m203 (tb 1292 (by decide +kernel) rfl) (tb 1294 (by decide +kernel) rfl)
theorem stL_82_11 : Site RL (.invokevirtual 82) (some 11) 106 := siteV (RX11, TX11, 17) rfl rfl m106 (tb 748 (by decide +kernel) rfl) (tb 750 (by decide +kernel) rfl)
theorem stL_85_12 : Site RL (.invokevirtual 85) (some 12) 204 := siteV (RX12, TX12, 24) rfl rfl m204 (tb 1296 (by decide +kernel) rfl) (tb 1298 (by decide +kernel) rfl)
theorem stL_86_11 : Site RL (.invokevirtual 86) (some 11) 107 := siteV (RX11, TX11, 17) rfl rfl m107 (tb 752 (by decide +kernel) rfl) (tb 754 (by decide +kernel) rfl)
theorem stL_89_12 : Site RL (.invokevirtual 89) (some 12) 205 := siteV (RX12, TX12, 24) rfl rfl m205 (tb 1300 (by decide +kernel) rfl) (tb 1302 (by decide +kernel) rfl)
theorem stL_9 (ci : Nat) : Site RL (.invokespecial 9) (some ci) 85 := siteI rfl rfl m85 (tb 90 (by decide +kernel) rfl)
theorem stL_90_11 : Site RL (.invokevirtual 90) (some 11) 110 := siteV (RX11, TX11, 17) rfl rfl m110 (tb 776 (by decide +kernel) rfl) (tb 778 (by decide +kernel) rfl)
theorem stL_93_12 : Site RL (.invokevirtual 93) (some 12) 209 := siteV (RX12, TX12, 24) rfl rfl m209 (tb 1304 (by decide +kernel) rfl) (tb 1306 (by decide +kernel) rfl)
theorem stL_94_11 : Site RL (.invokevirtual 94) (some 11) 111 := siteV (RX11, TX11, 17) rfl rfl m111 (tb 780 (by decide +kernel) rfl) (tb 758 (by decide +kernel) rfl)
theorem stL_97_12 : Site RL (.invokevirtual 97) (some 12) 210 := siteV (RX12, TX12, 24) rfl rfl m210 (tb 1324 (by decide +kernel) rfl) (tb 1326 (by decide +kernel) rfl)
theorem stL_98_11 : Site RL (.invokevirtual 98) (some 11) 114 := siteV (RX11, TX11, 17) rfl rfl m114 (tb 781 (by decide +kernel) rfl) (tb 783 (by decide +kernel) rfl)
theorem st12_1 : Cond.methodLink RX12 1 objectInit ∈ TBL := (tb 998 (by decide +kernel) rfl)
theorem st12_100_12 : Site RX12 (.invokevirtual 100) (some 12) 158 := siteV (RX12, TX12, 24) rfl rfl m158 (tb 1118 (by decide +kernel) rfl) (tb 18 (by decide +kernel) rfl)
theorem st12_103_12 : Site RX12 (.invokevirtual 103) (some 12) 159 := siteV (RX12, TX12, 24) rfl rfl m159 (tb 1130 (by decide +kernel) rfl) (tb 21 (by decide +kernel) rfl)
theorem st12_107_12 : Site RX12 (.invokevirtual 107) (some 12) 160 := siteV (RX12, TX12, 24) rfl rfl m160 (tb 1134 (by decide +kernel) rfl) (tb 22 (by decide +kernel) rfl)
theorem st12_110_12 : Site RX12 (.invokevirtual 110) (some 12) 164 := siteV (RX12, TX12, 24) rfl rfl m164 (tb 1158 (by decide +kernel) rfl) (tb 28 (by decide +kernel) rfl)
theorem st12_113_12 : Site RX12 (.invokevirtual 113) (some 12) 163 := siteV (RX12, TX12, 24) rfl rfl m163 (tb 1138 (by decide +kernel) rfl) (tb 23 (by decide +kernel) rfl)
theorem st12_117_12 : Site RX12 (.invokevirtual 117) (some 12) 162 := siteV (RX12, TX12, 24) rfl rfl m162 (tb 1142 (by decide +kernel) rfl) (tb 24 (by decide +kernel) rfl)
theorem st12_121_12 : Site RX12 (.invokevirtual 121) (some 12) 168 := siteV (RX12, TX12, 24) rfl rfl m168 (tb 1166 (by decide +kernel) rfl) (tb 30 (by decide +kernel) rfl)
theorem st12_124_12 : Site RX12 (.invokevirtual 124) (some 12) 165 := siteV (RX12, TX12, 24) rfl rfl m165 (tb 1154 (by decide +kernel) rfl) (tb 27 (by decide +kernel) rfl)
theorem st12_128_12 : Site RX12 (.invokevirtual 128) (some 12) 166 := siteV (RX12, TX12, 24) rfl rfl m166 (tb 1126 (by decide +kernel) rfl) (tb 20 (by decide +kernel) rfl)
theorem st12_131_12 : Site RX12 (.invokevirtual 131) (some 12) 161 := siteV (RX12, TX12, 24) rfl rfl m161 (tb 1146 (by decide +kernel) rfl) (tb 25 (by decide +kernel) rfl)
theorem st12_134_12 : Site RX12 (.invokevirtual 134) (some 12) 167 := siteV (RX12, TX12, 24) rfl rfl m167 (tb 1150 (by decide +kernel) rfl) (tb 26 (by decide +kernel) rfl)
theorem st12_137_12 : Site RX12 (.invokevirtual 137) (some 12) 169 := siteV (RX12, TX12, 24) rfl rfl m169 (tb 1162 (by decide +kernel) rfl) (tb 29 (by decide +kernel) rfl)
theorem st12_140_12 : Site RX12 (.invokevirtual 140) (some 12) 170 := siteV (RX12, TX12, 24) rfl rfl m170 (tb 1170 (by decide +kernel) rfl) (tb 31 (by decide +kernel) rfl)
theorem st12_150 : Site RX12 (.invokestatic 150) none 180 := siteS rfl m180 (tb 1207 (by decide +kernel) rfl)
theorem st12_153 : Site RX12 (.invokestatic 153) none 181 := siteS rfl m181 (tb 1204 (by decide +kernel) rfl)
theorem st12_157 : Site RX12 (.invokestatic 157) none 177 := siteS rfl m177 (tb 1210 (by decide +kernel) rfl)
theorem st12_160_12 : Site RX12 (.invokevirtual 160) (some 12) 178 := siteV (RX12, TX12, 24) rfl rfl m178 (tb 1213 (by decide +kernel) rfl) (tb 37 (by decide +kernel) rfl)
theorem st12_163_12 : Site RX12 (.invokevirtual 163) (some 12) 175 := siteV (RX12, TX12, 24) rfl rfl m175 (tb 1196 (by decide +kernel) rfl) (tb 35 (by decide +kernel) rfl)
theorem st12_166 : Site RX12 (.invokestatic 166) none 186 := siteS rfl m186 (tb 1225 (by decide +kernel) rfl)
theorem st12_169_12 : Site RX12 (.invokevirtual 169) (some 12) 183 := siteV (RX12, TX12, 24) rfl rfl m183 (tb 1228 (by decide +kernel) rfl) (tb 40 (by decide +kernel) rfl)
theorem st12_172_12 : Site RX12 (.invokevirtual 172) (some 12) 185 := siteV (RX12, TX12, 24) rfl rfl m185 (tb 1232 (by decide +kernel) rfl) (tb 41 (by decide +kernel) rfl)
theorem st12_175_12 : Site RX12 (.invokevirtual 175) (some 12) 182 := siteV (RX12, TX12, 24) rfl rfl m182 (tb 1200 (by decide +kernel) rfl) (tb 36 (by decide +kernel) rfl)
theorem st12_178_12 : Site RX12 (.invokevirtual 178) (some 12) 176 := siteV (RX12, TX12, 24) rfl rfl m176 (tb 1217 (by decide +kernel) rfl) (tb 38 (by decide +kernel) rfl)
theorem st12_181_12 : Site RX12 (.invokevirtual 181) (some 12) 187 := siteV (RX12, TX12, 24) rfl rfl m187 (tb 1221 (by decide +kernel) rfl) (tb 39 (by decide +kernel) rfl)
theorem st12_184_12 : Site RX12 (.invokevirtual 184) (some 12) 173 := siteV (RX12, TX12, 24) rfl rfl m173 (tb 1183 (by decide +kernel) rfl) (tb 32 (by decide +kernel) rfl)
theorem st12_188_12 : Site RX12 (.invokevirtual 188) (some 12) 189 := siteV (RX12, TX12, 24) rfl rfl m189 (tb 1188 (by decide +kernel) rfl) (tb 33 (by decide +kernel) rfl)
theorem st12_191_12 : Site RX12 (.invokevirtual 191) (some 12) 188 := siteV (RX12, TX12, 24) rfl rfl m188 (tb 1192 (by decide +kernel) rfl) (tb 34 (by decide +kernel) rfl)
theorem st12_194_12 : Site RX12 (.invokevirtual 194) (some 12) 174 := siteV (RX12, TX12, 24) rfl rfl m174 (tb 1240 (by decide +kernel) rfl) (tb 42 (by decide +kernel) rfl)
theorem st12_197_12 : Site RX12 (.invokevirtual 197) (some 12) 192 := siteV (RX12, TX12, 24) rfl rfl m192 (tb 1248 (by decide +kernel) rfl) (tb 43 (by decide +kernel) rfl)
theorem st12_200_12 : Site RX12 (.invokevirtual 200) (some 12) 194 := siteV (RX12, TX12, 24) rfl rfl m194 (tb 1256 (by decide +kernel) rfl) (tb 44 (by decide +kernel) rfl)
theorem st12_204_12 : Site RX12 (.invokevirtual 204) (some 12) 184 := siteV (RX12, TX12, 24) rfl rfl m184 (tb 1276 (by decide +kernel) rfl) (tb 47 (by decide +kernel) rfl)
theorem st12_207_12 : Site RX12 (.invokevirtual 207) (some 12) 197 := siteV (RX12, TX12, 24) rfl rfl m197 (tb 1272 (by decide +kernel) rfl) (tb 46 (by decide +kernel) rfl)
theorem st12_210_12 : Site RX12 (.invokevirtual 210) (some 12) 198 := siteV (RX12, TX12, 24) rfl rfl m198 (tb 1268 (by decide +kernel) rfl) (tb 45 (by decide +kernel) rfl)
theorem st12_213_12 : Site RX12 (.invokevirtual 213) (some 12) 199 := siteV (RX12, TX12, 24) rfl rfl m199 (tb 1280 (by decide +kernel) rfl) (tb 48 (by decide +kernel) rfl)
theorem st12_217_12 : Site RX12 (.invokevirtual 217) (some 12) 206 := siteV (RX12, TX12, 24) rfl rfl m206 (tb 1308 (by decide +kernel) rfl) (tb 49 (by decide +kernel) rfl)
theorem st12_220_12 : Site RX12 (.invokevirtual 220) (some 12) 208 := siteV (RX12, TX12, 24) rfl rfl m208 (tb 1312 (by decide +kernel) rfl) (tb 50 (by decide +kernel) rfl)
theorem st12_223_12 : Site RX12 (.invokevirtual 223) (some 12) 179 := siteV (RX12, TX12, 24) rfl rfl m179 (tb 1316 (by decide +kernel) rfl) (tb 51 (by decide +kernel) rfl)
theorem st12_226_12 : Site RX12 (.invokevirtual 226) (some 12) 207 := siteV (RX12, TX12, 24) rfl rfl m207 (tb 1320 (by decide +kernel) rfl) (tb 52 (by decide +kernel) rfl)
theorem st12_229_12 : Site RX12 (.invokevirtual 229) (some 12) 211 := siteV (RX12, TX12, 24) rfl rfl m211 (tb 1332 (by decide +kernel) rfl) (tb 53 (by decide +kernel) rfl)
theorem st12_232 : Site RX12 (.invokestatic 232) none 215 := siteS rfl m215 (tb 1348 (by decide +kernel) rfl)
theorem st12_235_12 : Site RX12 (.invokevirtual 235) (some 12) 216 := siteV (RX12, TX12, 24) rfl rfl m216 (tb 1351 (by decide +kernel) rfl) (tb 54 (by decide +kernel) rfl)
theorem st12_238 : Site RX12 (.invokestatic 238) none 147 := siteS rfl m147 (tb 1371 (by decide +kernel) rfl)
theorem st12_241_12 : Site RX12 (.invokevirtual 241) (some 12) 221 := siteV (RX12, TX12, 24) rfl rfl m221 (tb 1367 (by decide +kernel) rfl) (tb 55 (by decide +kernel) rfl)
theorem st12_245_12 : Site RX12 (.invokevirtual 245) (some 12) 220 := siteV (RX12, TX12, 24) rfl rfl m220 (tb 1374 (by decide +kernel) rfl) (tb 56 (by decide +kernel) rfl)
theorem st12_248_12 : Site RX12 (.invokevirtual 248) (some 12) 224 := siteV (RX12, TX12, 24) rfl rfl m224 (tb 1382 (by decide +kernel) rfl) (tb 57 (by decide +kernel) rfl)
theorem st12_251_12 : Site RX12 (.invokevirtual 251) (some 12) 223 := siteV (RX12, TX12, 24) rfl rfl m223 (tb 1386 (by decide +kernel) rfl) (tb 58 (by decide +kernel) rfl)
theorem st12_255_12 : Site RX12 (.invokevirtual 255) (some 12) 226 := siteV (RX12, TX12, 24) rfl rfl m226 (tb 1394 (by decide +kernel) rfl) (tb 59 (by decide +kernel) rfl)
theorem st12_258_12 : Site RX12 (.invokevirtual 258) (some 12) 228 := siteV (RX12, TX12, 24) rfl rfl m228 (tb 1402 (by decide +kernel) rfl) (tb 60 (by decide +kernel) rfl)
theorem st12_264_12 : Site RX12 (.invokevirtual 264) (some 12) 234 := siteV (RX12, TX12, 24) rfl rfl m234 (tb 1434 (by decide +kernel) rfl) (tb 63 (by decide +kernel) rfl)
theorem st12_267_12 : Site RX12 (.invokevirtual 267) (some 12) 236 := siteV (RX12, TX12, 24) rfl rfl m236 (tb 1458 (by decide +kernel) rfl) (tb 69 (by decide +kernel) rfl)
theorem st12_270_12 : Site RX12 (.invokevirtual 270) (some 12) 237 := siteV (RX12, TX12, 24) rfl rfl m237 (tb 1454 (by decide +kernel) rfl) (tb 68 (by decide +kernel) rfl)
theorem st12_273_12 : Site RX12 (.invokevirtual 273) (some 12) 235 := siteV (RX12, TX12, 24) rfl rfl m235 (tb 1442 (by decide +kernel) rfl) (tb 65 (by decide +kernel) rfl)
theorem st12_276_12 : Site RX12 (.invokevirtual 276) (some 12) 238 := siteV (RX12, TX12, 24) rfl rfl m238 (tb 1450 (by decide +kernel) rfl) (tb 67 (by decide +kernel) rfl)
theorem st12_279_12 : Site RX12 (.invokevirtual 279) (some 12) 240 := siteV (RX12, TX12, 24) rfl rfl m240 (tb 1438 (by decide +kernel) rfl) (tb 64 (by decide +kernel) rfl)
theorem st12_282_12 : Site RX12 (.invokevirtual 282) (some 12) 241 := siteV (RX12, TX12, 24) rfl rfl m241 (tb 1430 (by decide +kernel) rfl) (tb 62 (by decide +kernel) rfl)
theorem st12_285_12 : Site RX12 (.invokevirtual 285) (some 12) 239 := siteV (RX12, TX12, 24) rfl rfl m239 (tb 1446 (by decide +kernel) rfl) (tb 66 (by decide +kernel) rfl)
theorem st12_288_12 : Site RX12 (.invokevirtual 288) (some 12) 242 := siteV (RX12, TX12, 24) rfl rfl m242 (tb 1426 (by decide +kernel) rfl) (tb 61 (by decide +kernel) rfl)
theorem st12_291_12 : Site RX12 (.invokevirtual 291) (some 12) 243 := siteV (RX12, TX12, 24) rfl rfl m243 (tb 1462 (by decide +kernel) rfl) (tb 70 (by decide +kernel) rfl)
theorem st12_59 : Site RX12 (.invokestatic 59) none 146 := siteS rfl m146 (tb 1080 (by decide +kernel) rfl)
theorem st12_63 : Site RX12 (.invokestatic 63) none 150 := siteS rfl m150 (tb 1077 (by decide +kernel) rfl)
theorem st12_68_12 : Site RX12 (.invokevirtual 68) (some 12) 148 := siteV (RX12, TX12, 24) rfl rfl m148 (tb 1084 (by decide +kernel) rfl) (tb 15 (by decide +kernel) rfl)
theorem st12_72_12 : Site RX12 (.invokevirtual 72) (some 12) 149 := siteV (RX12, TX12, 24) rfl rfl m149 (tb 1089 (by decide +kernel) rfl) (tb 16 (by decide +kernel) rfl)
theorem st12_75_12 : Site RX12 (.invokevirtual 75) (some 12) 153 := siteV (RX12, TX12, 24) rfl rfl m153 (tb 1101 (by decide +kernel) rfl) (tb 17 (by decide +kernel) rfl)
theorem st12_88_12 : Site RX12 (.invokevirtual 88) (some 12) 157 := siteV (RX12, TX12, 24) rfl rfl m157 (tb 1122 (by decide +kernel) rfl) (tb 19 (by decide +kernel) rfl)
theorem jm_max2 : Cond.static Lib.Math.max.name ∈ TBL := (tb 605 (by decide +kernel) rfl)
theorem jm_min2 : Cond.static Lib.Math.min.name ∈ TBL := (tb 586 (by decide +kernel) rfl)
theorem jm_abs2 : Cond.static Lib.Math.abs.name ∈ TBL := (tb 611 (by decide +kernel) rfl)
theorem jm_i : Cond.initialized "java/lang/Math" ∈ TBL := (tb 86 (by decide +kernel) rfl)
theorem js_i : Cond.initialized "java/lang/System" ∈ TBL := (tb 85 (by decide +kernel) rfl)
theorem jm_max4 : Cond.code Lib.Math.max.name Lib.Math.max.code 2 (some .int) ∈ TBL := (tb 606 (by decide +kernel) rfl)
theorem jm_min4 : Cond.code Lib.Math.min.name Lib.Math.min.code 2 (some .int) ∈ TBL := (tb 587 (by decide +kernel) rfl)
theorem jm_abs4 : Cond.code Lib.Math.abs.name Lib.Math.abs.code 1 (some .int) ∈ TBL := (tb 612 (by decide +kernel) rfl)
theorem js_n : Cond.native arraycopyName ∈ TBL := (tb 458 (by decide +kernel) rfl)
theorem js_s : Cond.static arraycopyName ∈ TBL := (tb 457 (by decide +kernel) rfl)
theorem jo_2 : Cond.instanceMethod objectInit ∈ TBL := (tb 94 (by decide +kernel) rfl)
theorem jo_3 : Cond.code objectInit ⟨#[0xb1]⟩ 1 none ∈ TBL := (tb 95 (by decide +kernel) rfl)
theorem jaI : Cond.arrayClass .int ∈ TBL := (tb 112 (by decide +kernel) rfl)
theorem jaZ : Cond.arrayClass .boolean ∈ TBL := (tb 405 (by decide +kernel) rfl)
theorem sn10_1 : SiteN RX10 1 8 8 := ⟨(RX8, TX8, 8), rfl, rfl, uw8, (tb 291 (by decide +kernel) rfl), (tb 241 (by decide +kernel) rfl), (tb 82 (by decide +kernel) rfl), tyX8, tyX8_ok, by decide +kernel⟩
theorem sn11_16 : SiteN RX11 16 4 6 := ⟨(RX4, TX4, 6), rfl, rfl, uw4, (tb 113 (by decide +kernel) rfl), (tb 114 (by decide +kernel) rfl), (tb 74 (by decide +kernel) rfl), tyX4, tyX4_ok, by decide +kernel⟩
theorem sn11_23 : SiteN RX11 23 9 2 := ⟨(RX9, TX9, 2), rfl, rfl, uw9, (tb 141 (by decide +kernel) rfl), (tb 142 (by decide +kernel) rfl), (tb 75 (by decide +kernel) rfl), tyX9, tyX9_ok, by decide +kernel⟩
theorem sn11_38 : SiteN RX11 38 8 8 := ⟨(RX8, TX8, 8), rfl, rfl, uw8, (tb 240 (by decide +kernel) rfl), (tb 241 (by decide +kernel) rfl), (tb 82 (by decide +kernel) rfl), tyX8, tyX8_ok, by decide +kernel⟩
theorem sn11_47 : SiteN RX11 47 10 14 := ⟨(RX10, TX10, 14), rfl, rfl, uw10, (tb 285 (by decide +kernel) rfl), (tb 286 (by decide +kernel) rfl), (tb 83 (by decide +kernel) rfl), tyX10, tyX10_ok, by decide +kernel⟩
theorem sn11_7 : SiteN RX11 7 5 3 := ⟨(RX5, TX5, 3), rfl, rfl, uw5, (tb 96 (by decide +kernel) rfl), (tb 97 (by decide +kernel) rfl), (tb 73 (by decide +kernel) rfl), tyX5, tyX5_ok, by decide +kernel⟩
theorem sn11_76 : SiteN RX11 76 3 4 := ⟨(RX3, TX3, 4), rfl, rfl, uw3, (tb 159 (by decide +kernel) rfl), (tb 161 (by decide +kernel) rfl), (tb 76 (by decide +kernel) rfl), tyX3, tyX3_ok, by decide +kernel⟩
theorem sn11_81 : SiteN RX11 81 6 4 := ⟨(RX6, TX6, 4), rfl, rfl, uw6, (tb 185 (by decide +kernel) rfl), (tb 186 (by decide +kernel) rfl), (tb 77 (by decide +kernel) rfl), tyX6, tyX6_ok, by decide +kernel⟩
theorem sn11_84 : SiteN RX11 84 1 4 := ⟨(RX1, TX1, 4), rfl, rfl, uw1, (tb 196 (by decide +kernel) rfl), (tb 197 (by decide +kernel) rfl), (tb 78 (by decide +kernel) rfl), tyX1, tyX1_ok, by decide +kernel⟩
theorem sn11_87 : SiteN RX11 87 7 4 := ⟨(RX7, TX7, 4), rfl, rfl, uw7, (tb 207 (by decide +kernel) rfl), (tb 208 (by decide +kernel) rfl), (tb 79 (by decide +kernel) rfl), tyX7, tyX7_ok, by decide +kernel⟩
theorem sn11_90 : SiteN RX11 90 0 4 := ⟨(RX0, TX0, 4), rfl, rfl, uw0, (tb 218 (by decide +kernel) rfl), (tb 219 (by decide +kernel) rfl), (tb 80 (by decide +kernel) rfl), tyX0, tyX0_ok, by decide +kernel⟩
theorem sn11_93 : SiteN RX11 93 2 4 := ⟨(RX2, TX2, 4), rfl, rfl, uw2, (tb 229 (by decide +kernel) rfl), (tb 230 (by decide +kernel) rfl), (tb 81 (by decide +kernel) rfl), tyX2, tyX2_ok, by decide +kernel⟩
theorem snL_10 : SiteN RL 10 12 24 := ⟨(RX12, TX12, 24), rfl, rfl, uw12, (tb 993 (by decide +kernel) rfl), (tb 994 (by decide +kernel) rfl), (tb 84 (by decide +kernel) rfl), tyX12, tyX12_ok, by decide +kernel⟩
theorem snL_7 : SiteN RL 7 11 17 := ⟨(RX11, TX11, 17), rfl, rfl, uw11, (tb 88 (by decide +kernel) rfl), (tb 89 (by decide +kernel) rfl), (tb 72 (by decide +kernel) rfl), tyX11, tyX11_ok, by decide +kernel⟩
theorem cl10_1 : Cond.classLink RX10 1 RX8 ∈ TBL := (tb 291 (by decide +kernel) rfl)
theorem cl11_76 : Cond.classLink RX11 76 RX3 ∈ TBL := (tb 159 (by decide +kernel) rfl)
theorem cl11_81 : Cond.classLink RX11 81 RX6 ∈ TBL := (tb 185 (by decide +kernel) rfl)
theorem cl11_84 : Cond.classLink RX11 84 RX1 ∈ TBL := (tb 196 (by decide +kernel) rfl)
theorem cl11_87 : Cond.classLink RX11 87 RX7 ∈ TBL := (tb 207 (by decide +kernel) rfl)
theorem cl11_90 : Cond.classLink RX11 90 RX0 ∈ TBL := (tb 218 (by decide +kernel) rfl)
theorem cl11_93 : Cond.classLink RX11 93 RX2 ∈ TBL := (tb 229 (by decide +kernel) rfl)
end
section
/-! further rules: known references, indices that are numbers, truth values -/
abbrev bI (p : Prop) [Decidable p] : Int32 := if p then 1 else 0
theorem lit (n : Nat) : (OfNat.ofNat n : Int32) = nI n := rfl
section More
variable {d M : Nat} {Q : Option AV → Hp → Prop} {kc ks pc pc' : Nat} {ls ls' : List (Nat × AV)} {st : List AV} {h : Hp}
theorem r_getS {o ci k idx p : Nat} (hd : fet M pc = .ok (.getfield idx, 3)) (hp : pc + 3 = pc') {on : String} (hon : own M = on) (hs : SiteF on idx ci k false) (hsh : SH o = (0, ci)) (ho : o < hn h) (hv : hr h o k = some p) (kk : wp d M Q kc ks pc' ls (vR (some p) :: st) h) : wp d M Q kc ks pc ls (vR (some o) :: st) h :=
  r_getR hd hp hon hs hsh ho (hv ▸ kk)
theorem r_ialdN {o n j : Nat} {i : Int32} (hd : fet M pc = .ok (.iaload, 1)) (hp : pc + 1 = pc') (hsh : SH o = (1, n)) (ho : o < hn h) (he : i = nI j) (hj : j < n) (hs : n < 2 ^ 31) (kk : wp d M Q kc ks pc' ls (vI (hi h o j) :: st) h) : wp d M Q kc ks pc ls (vI i :: vR (some o) :: st) h := by
  subst he
  refine r_iald hd hp hsh ho (vp_in_nI hj hs) ?_
  rw [nI_clamp (by omega)]
  exact kk
theorem r_baldN {o n j : Nat} {i : Int32} (hd : fet M pc = .ok (.baload, 1)) (hp : pc + 1 = pc') (hsh : SH o = (2, n)) (ho : o < hn h) (he : i = nI j) (hj : j < n) (hs : n < 2 ^ 31) (kk : wp d M Q kc ks pc' ls (vI (hi h o j) :: st) h) : wp d M Q kc ks pc ls (vI i :: vR (some o) :: st) h := by
  subst he
  refine r_bald hd hp hsh ho (vp_in_nI hj hs) ?_
  rw [nI_clamp (by omega)]
  exact kk
theorem r_iastN {o n j : Nat} {i x : Int32} (hd : fet M pc = .ok (.iastore, 1)) (hp : pc + 1 = pc') (hsh : SH o = (1, n)) (ho : o < hn h) (he : i = nI j) (hj : j < n) (hs : n < 2 ^ 31) (kk : wp d M Q kc ks pc' ls st (seti h o j x)) : wp d M Q kc ks pc ls (vI x :: vI i :: vR (some o) :: st) h := by
  subst he
  refine r_iast hd hp hsh ho (vp_in_nI hj hs) ?_
  rw [nI_clamp (by omega)]
  exact kk
theorem r_bastN {o n j : Nat} {i x : Int32} (hd : fet M pc = .ok (.bastore, 1)) (hp : pc + 1 = pc') (hsh : SH o = (2, n)) (ho : o < hn h) (he : i = nI j) (hj : j < n) (hs : n < 2 ^ 31) (hx : x = 0 ∨ x = 1) (kk : wp d M Q kc ks pc' ls st (seti h o j x)) : wp d M Q kc ks pc ls (vI x :: vI i :: vR (some o) :: st) h := by
  subst he
  refine r_bast hd hp hsh ho (vp_in_nI hj hs) ?_
  rw [nI_clamp (by omega), show vp_nar .boolean x = x by rcases hx with rfl | rfl <;> rfl]
  exact kk
theorem r_aaldTN {o n j p : Nat} {i : Int32} (hd : fet M pc = .ok (.aaload, 1)) (hp : pc + 1 = pc') (hsh : SH o = (4, n)) (ho : o < hn h) (he : i = nI j) (hj : j < n) (hs : n < 2 ^ 31) (hv : hr h o j = some p) (kk : wp d M Q kc ks pc' ls (vR (some p) :: st) h) : wp d M Q kc ks pc ls (vI i :: vR (some o) :: st) h := by
  subst he
  refine r_aaldT hd hp hsh ho (vp_in_nI hj hs) ?_
  rw [nI_clamp (by omega), hv]
  exact kk
theorem r_aaldKN {o n j p : Nat} {i : Int32} (hd : fet M pc = .ok (.aaload, 1)) (hp : pc + 1 = pc') (hsh : SH o = (3, n)) (ho : o < hn h) (he : i = nI j) (hj : j < n) (hs : n < 2 ^ 31) (hv : hr h o j = some p) (kk : wp d M Q kc ks pc' ls (vR (some p) :: st) h) : wp d M Q kc ks pc ls (vI i :: vR (some o) :: st) h := by
  subst he
  refine r_aaldK hd hp hsh ho (vp_in_nI hj hs) ?_
  rw [nI_clamp (by omega), hv]
  exact kk
theorem r_if_eqB {p : Prop} [Decidable p] {off : Int} (tgt : Nat) (hd : fet M pc = .ok (.ifCond .eq off, 3)) (hp : pc + 3 = pc') (ht : (pc : Int) + off = (tgt : Int)) (kt : ¬ p → wp d M Q kc ks tgt ls st h) (kf : p → wp d M Q kc ks pc' ls st h) : wp d M Q kc ks pc ls (vI (bI p) :: st) h := by
  refine r_if_eq tgt hd hp ht (fun q => kt (fun w => ?_)) (fun q => kf (Classical.byContradiction (fun w => q ?_)))
  · rw [bI, if_pos w] at q; exact absurd q (by decide)
  · rw [bI, if_neg w]
theorem r_if_neB {p : Prop} [Decidable p] {off : Int} (tgt : Nat) (hd : fet M pc = .ok (.ifCond .ne off, 3)) (hp : pc + 3 = pc') (ht : (pc : Int) + off = (tgt : Int)) (kt : p → wp d M Q kc ks tgt ls st h) (kf : ¬ p → wp d M Q kc ks pc' ls st h) : wp d M Q kc ks pc ls (vI (bI p) :: st) h := by
  refine r_if_ne tgt hd hp ht (fun q => kt (Classical.byContradiction (fun w => q ?_))) (fun q => kf (fun w => ?_))
  · rw [bI, if_neg w]
  · rw [bI, if_pos w] at q; exact absurd q (by decide)
theorem wp_v {x y : Int32} (e : x = y) (kk : wp d M Q kc ks pc ls (vI y :: st) h) : wp d M Q kc ks pc ls (vI x :: st) h := e ▸ kk
theorem nw_bI (t : FieldType) (p : Prop) [Decidable p] (ht : t = .boolean ∨ t = .int) : narrow t (.int (bI p)) = .int (bI p) := by
  rcases ht with rfl | rfl
  · by_cases q : p
    · rw [bI, if_pos q]; rfl
    · rw [bI, if_neg q]; rfl
  · exact vp_nar_int _
theorem r_iretI {x : Int32} (hd : fet M pc = .ok (.ireturn, 1)) (hr0 : rt M = some .int) (kk : Q (some (vI x)) h) : wp d M Q kc ks pc ls [vI x] h := r_iret hd hr0 (vp_nar_int x) kk
theorem r_iretZ1 (hd : fet M pc = .ok (.ireturn, 1)) (hr0 : rt M = some .boolean) (kk : Q (some (vI 1)) h) : wp d M Q kc ks pc ls [vI 1] h := r_iret hd hr0 rfl kk
theorem r_iretZ0 (hd : fet M pc = .ok (.ireturn, 1)) (hr0 : rt M = some .boolean) (kk : Q (some (vI 0)) h) : wp d M Q kc ks pc ls [vI 0] h := r_iret hd hr0 rfl kk
theorem r_iretB {p : Prop} [Decidable p] (hd : fet M pc = .ok (.ireturn, 1)) (hr0 : rt M = some .boolean) (kk : Q (some (vI (bI p))) h) : wp d M Q kc ks pc ls [vI (bI p)] h := r_iret hd hr0 (nw_bI _ p (Or.inl rfl)) kk
end More
theorem b1 {p : Prop} [Decidable p] (h : p) : bI p = 1 := if_pos h
theorem b0 {p : Prop} [Decidable p] (h : ¬ p) : bI p = 0 := if_neg h
theorem qv {Q : Option AV → Hp → Prop} {x y : Int32} {h : Hp} (e : x = y) (k : Q (some (vI x)) h) : Q (some (vI y)) h := e ▸ k
end
section
theorem o72 : own 72 = RX10 := by decide +kernel
theorem d72_0 : fet 72 0 = .ok (.iload_n 0, 1) := by decide +kernel
theorem d72_1 : fet 72 1 = .ok (.iconst 4, 1) := by decide +kernel
theorem d72_2 : fet 72 2 = .ok (.irem, 1) := by decide +kernel
theorem d72_3 : fet 72 3 = .ok (.iload_n 1, 1) := by decide +kernel
theorem d72_4 : fet 72 4 = .ok (.iconst 4, 1) := by decide +kernel
theorem d72_5 : fet 72 5 = .ok (.irem, 1) := by decide +kernel
theorem d72_6 : fet 72 6 = .ok (.isub, 1) := by decide +kernel
theorem d72_7 : fet 72 7 = .ok (.invokestatic 102, 3) := by decide +kernel
theorem d72_10 : fet 72 10 = .ok (.iload_n 0, 1) := by decide +kernel
theorem d72_11 : fet 72 11 = .ok (.iconst 4, 1) := by decide +kernel
theorem d72_12 : fet 72 12 = .ok (.idiv, 1) := by decide +kernel
theorem d72_13 : fet 72 13 = .ok (.iload_n 1, 1) := by decide +kernel
theorem d72_14 : fet 72 14 = .ok (.iconst 4, 1) := by decide +kernel
theorem d72_15 : fet 72 15 = .ok (.idiv, 1) := by decide +kernel
theorem d72_16 : fet 72 16 = .ok (.isub, 1) := by decide +kernel
theorem d72_17 : fet 72 17 = .ok (.invokestatic 102, 3) := by decide +kernel
theorem d72_20 : fet 72 20 = .ok (.iadd, 1) := by decide +kernel
theorem d72_21 : fet 72 21 = .ok (.iconst 1, 1) := by decide +kernel
theorem d72_22 : fet 72 22 = .ok (.if_icmp .ne 7, 3) := by decide +kernel
theorem d72_25 : fet 72 25 = .ok (.iconst 1, 1) := by decide +kernel
theorem d72_26 : fet 72 26 = .ok (.goto 4, 3) := by decide +kernel
theorem d72_29 : fet 72 29 = .ok (.iconst 0, 1) := by decide +kernel
theorem d72_30 : fet 72 30 = .ok (.ireturn, 1) := by decide +kernel
theorem o73 : own 73 = RX10 := by decide +kernel
theorem d73_0 : fet 73 0 = .ok (.iload_n 1, 1) := by decide +kernel
theorem d73_1 : fet 73 1 = .ok (.iconst 4, 1) := by decide +kernel
theorem d73_2 : fet 73 2 = .ok (.irem, 1) := by decide +kernel
theorem d73_3 : fet 73 3 = .ok (.ifCond .ne 10, 3) := by decide +kernel
theorem d73_6 : fet 73 6 = .ok (.aload_n 0, 1) := by decide +kernel
theorem d73_7 : fet 73 7 = .ok (.getfield 105, 3) := by decide +kernel
theorem d73_10 : fet 73 10 = .ok (.goto 4, 3) := by decide +kernel
theorem d73_13 : fet 73 13 = .ok (.iconst 0, 1) := by decide +kernel
theorem d73_14 : fet 73 14 = .ok (.ireturn, 1) := by decide +kernel
theorem o74 : own 74 = RX10 := by decide +kernel
theorem d74_0 : fet 74 0 = .ok (.aload_n 1, 1) := by decide +kernel
theorem d74_1 : fet 74 1 = .ok (.getfield 65, 3) := by decide +kernel
theorem d74_4 : fet 74 4 = .ok (.invokestatic 68, 3) := by decide +kernel
theorem d74_7 : fet 74 7 = .ok (.ifCond .eq 27, 3) := by decide +kernel
theorem d74_10 : fet 74 10 = .ok (.aload_n 1, 1) := by decide +kernel
theorem d74_11 : fet 74 11 = .ok (.aload_n 0, 1) := by decide +kernel
theorem d74_12 : fet 74 12 = .ok (.aload_n 1, 1) := by decide +kernel
theorem d74_13 : fet 74 13 = .ok (.getfield 65, 3) := by decide +kernel
theorem d74_16 : fet 74 16 = .ok (.iload_n 2, 1) := by decide +kernel
theorem d74_17 : fet 74 17 = .ok (.invokevirtual 108, 3) := by decide +kernel
theorem d74_20 : fet 74 20 = .ok (.aload_n 0, 1) := by decide +kernel
theorem d74_21 : fet 74 21 = .ok (.aload_n 1, 1) := by decide +kernel
theorem d74_22 : fet 74 22 = .ok (.getfield 65, 3) := by decide +kernel
theorem d74_25 : fet 74 25 = .ok (.invokevirtual 111, 3) := by decide +kernel
theorem d74_28 : fet 74 28 = .ok (.invokevirtual 114, 3) := by decide +kernel
theorem d74_31 : fet 74 31 = .ok (.goto 15, 3) := by decide +kernel
theorem d74_34 : fet 74 34 = .ok (.aload_n 1, 1) := by decide +kernel
theorem d74_35 : fet 74 35 = .ok (.invokevirtual 118, 3) := by decide +kernel
theorem d74_38 : fet 74 38 = .ok (.ifCond .ne 8, 3) := by decide +kernel
theorem d74_41 : fet 74 41 = .ok (.aload_n 1, 1) := by decide +kernel
theorem d74_42 : fet 74 42 = .ok (.iconst 1, 1) := by decide +kernel
theorem d74_43 : fet 74 43 = .ok (.invokevirtual 122, 3) := by decide +kernel
theorem d74_46 : fet 74 46 = .ok (.return_, 1) := by decide +kernel
theorem o75 : own 75 = RX10 := by decide +kernel
theorem d75_0 : fet 75 0 = .ok (.iconst 0, 1) := by decide +kernel
theorem d75_1 : fet 75 1 = .ok (.istore_n 1, 1) := by decide +kernel
theorem d75_2 : fet 75 2 = .ok (.iload_n 1, 1) := by decide +kernel
theorem d75_3 : fet 75 3 = .ok (.aload_n 0, 1) := by decide +kernel
theorem d75_4 : fet 75 4 = .ok (.getfield 50, 3) := by decide +kernel
theorem d75_7 : fet 75 7 = .ok (.if_icmp .ge 20, 3) := by decide +kernel
theorem d75_10 : fet 75 10 = .ok (.aload_n 0, 1) := by decide +kernel
theorem d75_11 : fet 75 11 = .ok (.aload_n 0, 1) := by decide +kernel
theorem d75_12 : fet 75 12 = .ok (.getfield 23, 3) := by decide +kernel
theorem d75_15 : fet 75 15 = .ok (.iload_n 1, 1) := by decide +kernel
theorem d75_16 : fet 75 16 = .ok (.aaload, 1) := by decide +kernel
theorem d75_17 : fet 75 17 = .ok (.iconst 0, 1) := by decide +kernel
theorem d75_18 : fet 75 18 = .ok (.invokevirtual 126, 3) := by decide +kernel
theorem d75_21 : fet 75 21 = .ok (.iinc 1 1, 3) := by decide +kernel
theorem d75_24 : fet 75 24 = .ok (.goto (-22), 3) := by decide +kernel
theorem d75_27 : fet 75 27 = .ok (.aload_n 0, 1) := by decide +kernel
theorem d75_28 : fet 75 28 = .ok (.iconst 1, 1) := by decide +kernel
theorem d75_29 : fet 75 29 = .ok (.invokevirtual 88, 3) := by decide +kernel
theorem d75_32 : fet 75 32 = .ok (.istore_n 1, 1) := by decide +kernel
theorem d75_33 : fet 75 33 = .ok (.iconst 0, 1) := by decide +kernel
theorem d75_34 : fet 75 34 = .ok (.istore_n 2, 1) := by decide +kernel
theorem d75_35 : fet 75 35 = .ok (.iload_n 2, 1) := by decide +kernel
theorem d75_36 : fet 75 36 = .ok (.aload_n 0, 1) := by decide +kernel
theorem d75_37 : fet 75 37 = .ok (.getfield 47, 3) := by decide +kernel
theorem d75_40 : fet 75 40 = .ok (.if_icmp .ge 45, 3) := by decide +kernel
theorem d75_43 : fet 75 43 = .ok (.aload_n 0, 1) := by decide +kernel
theorem d75_44 : fet 75 44 = .ok (.getfield 20, 3) := by decide +kernel
theorem d75_47 : fet 75 47 = .ok (.iload_n 2, 1) := by decide +kernel
theorem d75_48 : fet 75 48 = .ok (.iconst 0, 1) := by decide +kernel
theorem d75_49 : fet 75 49 = .ok (.aload_n 0, 1) := by decide +kernel
theorem d75_50 : fet 75 50 = .ok (.getfield 20, 3) := by decide +kernel
theorem d75_53 : fet 75 53 = .ok (.iload_n 2, 1) := by decide +kernel
theorem d75_54 : fet 75 54 = .ok (.iaload, 1) := by decide +kernel
theorem d75_55 : fet 75 55 = .ok (.iconst 1, 1) := by decide +kernel
theorem d75_56 : fet 75 56 = .ok (.isub, 1) := by decide +kernel
theorem d75_57 : fet 75 57 = .ok (.invokestatic 92, 3) := by decide +kernel
theorem d75_60 : fet 75 60 = .ok (.iastore, 1) := by decide +kernel
theorem d75_61 : fet 75 61 = .ok (.aload_n 0, 1) := by decide +kernel
theorem d75_62 : fet 75 62 = .ok (.getfield 17, 3) := by decide +kernel
theorem d75_65 : fet 75 65 = .ok (.iload_n 2, 1) := by decide +kernel
theorem d75_66 : fet 75 66 = .ok (.iconst 0, 1) := by decide +kernel
theorem d75_67 : fet 75 67 = .ok (.aload_n 0, 1) := by decide +kernel
theorem d75_68 : fet 75 68 = .ok (.getfield 17, 3) := by decide +kernel
theorem d75_71 : fet 75 71 = .ok (.iload_n 2, 1) := by decide +kernel
theorem d75_72 : fet 75 72 = .ok (.iaload, 1) := by decide +kernel
theorem d75_73 : fet 75 73 = .ok (.iload_n 1, 1) := by decide +kernel
theorem d75_74 : fet 75 74 = .ok (.isub, 1) := by decide +kernel
theorem d75_75 : fet 75 75 = .ok (.invokestatic 92, 3) := by decide +kernel
theorem d75_78 : fet 75 78 = .ok (.iastore, 1) := by decide +kernel
theorem d75_79 : fet 75 79 = .ok (.iinc 2 1, 3) := by decide +kernel
theorem d75_82 : fet 75 82 = .ok (.goto (-47), 3) := by decide +kernel
theorem d75_85 : fet 75 85 = .ok (.aload_n 0, 1) := by decide +kernel
theorem d75_86 : fet 75 86 = .ok (.dup, 1) := by decide +kernel
theorem d75_87 : fet 75 87 = .ok (.getfield 43, 3) := by decide +kernel
theorem d75_90 : fet 75 90 = .ok (.iconst 1, 1) := by decide +kernel
theorem d75_91 : fet 75 91 = .ok (.iadd, 1) := by decide +kernel
theorem d75_92 : fet 75 92 = .ok (.putfield 43, 3) := by decide +kernel
theorem d75_95 : fet 75 95 = .ok (.return_, 1) := by decide +kernel
theorem o76 : own 76 = RX10 := by decide +kernel
theorem d76_0 : fet 76 0 = .ok (.aload_n 0, 1) := by decide +kernel
theorem d76_1 : fet 76 1 = .ok (.invokevirtual 130, 3) := by decide +kernel
theorem d76_4 : fet 76 4 = .ok (.istore_n 1, 1) := by decide +kernel
theorem d76_5 : fet 76 5 = .ok (.iconst 0, 1) := by decide +kernel
theorem d76_6 : fet 76 6 = .ok (.istore_n 2, 1) := by decide +kernel
theorem d76_7 : fet 76 7 = .ok (.iload_n 2, 1) := by decide +kernel
theorem d76_8 : fet 76 8 = .ok (.aload_n 0, 1) := by decide +kernel
theorem d76_9 : fet 76 9 = .ok (.getfield 47, 3) := by decide +kernel
theorem d76_12 : fet 76 12 = .ok (.if_icmp .ge 27, 3) := by decide +kernel
theorem d76_15 : fet 76 15 = .ok (.aload_n 0, 1) := by decide +kernel
theorem d76_16 : fet 76 16 = .ok (.getfield 17, 3) := by decide +kernel
theorem d76_19 : fet 76 19 = .ok (.iload_n 2, 1) := by decide +kernel
theorem d76_20 : fet 76 20 = .ok (.iconst 0, 1) := by decide +kernel
theorem d76_21 : fet 76 21 = .ok (.aload_n 0, 1) := by decide +kernel
theorem d76_22 : fet 76 22 = .ok (.getfield 17, 3) := by decide +kernel
theorem d76_25 : fet 76 25 = .ok (.iload_n 2, 1) := by decide +kernel
theorem d76_26 : fet 76 26 = .ok (.iaload, 1) := by decide +kernel
theorem d76_27 : fet 76 27 = .ok (.iconst 3, 1) := by decide +kernel
theorem d76_28 : fet 76 28 = .ok (.isub, 1) := by decide +kernel
theorem d76_29 : fet 76 29 = .ok (.invokestatic 92, 3) := by decide +kernel
theorem d76_32 : fet 76 32 = .ok (.iastore, 1) := by decide +kernel
theorem d76_33 : fet 76 33 = .ok (.iinc 2 1, 3) := by decide +kernel
theorem d76_36 : fet 76 36 = .ok (.goto (-29), 3) := by decide +kernel
theorem d76_39 : fet 76 39 = .ok (.iload_n 1, 1) := by decide +kernel
theorem d76_40 : fet 76 40 = .ok (.aload_n 0, 1) := by decide +kernel
theorem d76_41 : fet 76 41 = .ok (.invokevirtual 130, 3) := by decide +kernel
theorem d76_44 : fet 76 44 = .ok (.isub, 1) := by decide +kernel
theorem d76_45 : fet 76 45 = .ok (.ireturn, 1) := by decide +kernel
theorem o77 : own 77 = RX10 := by decide +kernel
theorem d77_0 : fet 77 0 = .ok (.iconst 0, 1) := by decide +kernel
theorem d77_1 : fet 77 1 = .ok (.istore_n 1, 1) := by decide +kernel
theorem d77_2 : fet 77 2 = .ok (.iconst 0, 1) := by decide +kernel
theorem d77_3 : fet 77 3 = .ok (.istore_n 2, 1) := by decide +kernel
theorem d77_4 : fet 77 4 = .ok (.iload_n 2, 1) := by decide +kernel
theorem d77_5 : fet 77 5 = .ok (.aload_n 0, 1) := by decide +kernel
theorem d77_6 : fet 77 6 = .ok (.getfield 47, 3) := by decide +kernel
theorem d77_9 : fet 77 9 = .ok (.if_icmp .ge 18, 3) := by decide +kernel
theorem d77_12 : fet 77 12 = .ok (.iload_n 1, 1) := by decide +kernel
theorem d77_13 : fet 77 13 = .ok (.aload_n 0, 1) := by decide +kernel
theorem d77_14 : fet 77 14 = .ok (.getfield 17, 3) := by decide +kernel
theorem d77_17 : fet 77 17 = .ok (.iload_n 2, 1) := by decide +kernel
theorem d77_18 : fet 77 18 = .ok (.iaload, 1) := by decide +kernel
theorem d77_19 : fet 77 19 = .ok (.iadd, 1) := by decide +kernel
theorem d77_20 : fet 77 20 = .ok (.istore_n 1, 1) := by decide +kernel
theorem d77_21 : fet 77 21 = .ok (.iinc 2 1, 3) := by decide +kernel
theorem d77_24 : fet 77 24 = .ok (.goto (-20), 3) := by decide +kernel
theorem d77_27 : fet 77 27 = .ok (.iload_n 1, 1) := by decide +kernel
theorem d77_28 : fet 77 28 = .ok (.ireturn, 1) := by decide +kernel
theorem o78 : own 78 = RX10 := by decide +kernel
theorem d78_0 : fet 78 0 = .ok (.iconst 0, 1) := by decide +kernel
theorem d78_1 : fet 78 1 = .ok (.istore_n 1, 1) := by decide +kernel
theorem d78_2 : fet 78 2 = .ok (.iconst 0, 1) := by decide +kernel
theorem d78_3 : fet 78 3 = .ok (.istore_n 2, 1) := by decide +kernel
theorem d78_4 : fet 78 4 = .ok (.iload_n 2, 1) := by decide +kernel
theorem d78_5 : fet 78 5 = .ok (.aload_n 0, 1) := by decide +kernel
theorem d78_6 : fet 78 6 = .ok (.getfield 47, 3) := by decide +kernel
theorem d78_9 : fet 78 9 = .ok (.if_icmp .ge 20, 3) := by decide +kernel
theorem d78_12 : fet 78 12 = .ok (.iload_n 1, 1) := by decide +kernel
theorem d78_13 : fet 78 13 = .ok (.aload_n 0, 1) := by decide +kernel
theorem d78_14 : fet 78 14 = .ok (.getfield 17, 3) := by decide +kernel
theorem d78_17 : fet 78 17 = .ok (.iload_n 2, 1) := by decide +kernel
theorem d78_18 : fet 78 18 = .ok (.iaload, 1) := by decide +kernel
theorem d78_19 : fet 78 19 = .ok (.invokestatic 92, 3) := by decide +kernel
theorem d78_22 : fet 78 22 = .ok (.istore_n 1, 1) := by decide +kernel
theorem d78_23 : fet 78 23 = .ok (.iinc 2 1, 3) := by decide +kernel
theorem d78_26 : fet 78 26 = .ok (.goto (-22), 3) := by decide +kernel
theorem d78_29 : fet 78 29 = .ok (.iload_n 1, 1) := by decide +kernel
theorem d78_30 : fet 78 30 = .ok (.ifCond .eq 10, 3) := by decide +kernel
theorem d78_33 : fet 78 33 = .ok (.aload_n 0, 1) := by decide +kernel
theorem d78_34 : fet 78 34 = .ok (.getfield 85, 3) := by decide +kernel
theorem d78_37 : fet 78 37 = .ok (.ifCond .gt 7, 3) := by decide +kernel
theorem d78_40 : fet 78 40 = .ok (.iconst 0, 1) := by decide +kernel
theorem d78_41 : fet 78 41 = .ok (.goto 24, 3) := by decide +kernel
theorem d78_44 : fet 78 44 = .ok (.aload_n 0, 1) := by decide +kernel
theorem d78_45 : fet 78 45 = .ok (.getfield 43, 3) := by decide +kernel
theorem d78_48 : fet 78 48 = .ok (.aload_n 0, 1) := by decide +kernel
theorem d78_49 : fet 78 49 = .ok (.getfield 85, 3) := by decide +kernel
theorem d78_52 : fet 78 52 = .ok (.idiv, 1) := by decide +kernel
theorem d78_53 : fet 78 53 = .ok (.iload_n 1, 1) := by decide +kernel
theorem d78_54 : fet 78 54 = .ok (.iadd, 1) := by decide +kernel
theorem d78_55 : fet 78 55 = .ok (.aload_n 0, 1) := by decide +kernel
theorem d78_56 : fet 78 56 = .ok (.getfield 85, 3) := by decide +kernel
theorem d78_59 : fet 78 59 = .ok (.imul, 1) := by decide +kernel
theorem d78_60 : fet 78 60 = .ok (.aload_n 0, 1) := by decide +kernel
theorem d78_61 : fet 78 61 = .ok (.getfield 43, 3) := by decide +kernel
theorem d78_64 : fet 78 64 = .ok (.isub, 1) := by decide +kernel
theorem d78_65 : fet 78 65 = .ok (.ireturn, 1) := by decide +kernel
theorem o79 : own 79 = RX10 := by decide +kernel
theorem d79_0 : fet 79 0 = .ok (.iconst 0, 1) := by decide +kernel
theorem d79_1 : fet 79 1 = .ok (.istore_n 1, 1) := by decide +kernel
theorem d79_2 : fet 79 2 = .ok (.iconst 0, 1) := by decide +kernel
theorem d79_3 : fet 79 3 = .ok (.istore_n 2, 1) := by decide +kernel
theorem d79_4 : fet 79 4 = .ok (.iload_n 2, 1) := by decide +kernel
theorem d79_5 : fet 79 5 = .ok (.aload_n 0, 1) := by decide +kernel
theorem d79_6 : fet 79 6 = .ok (.getfield 50, 3) := by decide +kernel
theorem d79_9 : fet 79 9 = .ok (.if_icmp .ge 24, 3) := by decide +kernel
theorem d79_12 : fet 79 12 = .ok (.iload_n 1, 1) := by decide +kernel
theorem d79_13 : fet 79 13 = .ok (.aload_n 0, 1) := by decide +kernel
theorem d79_14 : fet 79 14 = .ok (.getfield 23, 3) := by decide +kernel
theorem d79_17 : fet 79 17 = .ok (.iload_n 2, 1) := by decide +kernel
theorem d79_18 : fet 79 18 = .ok (.aaload, 1) := by decide +kernel
theorem d79_19 : fet 79 19 = .ok (.invokevirtual 118, 3) := by decide +kernel
theorem d79_22 : fet 79 22 = .ok (.invokestatic 134, 3) := by decide +kernel
theorem d79_25 : fet 79 25 = .ok (.iadd, 1) := by decide +kernel
theorem d79_26 : fet 79 26 = .ok (.istore_n 1, 1) := by decide +kernel
theorem d79_27 : fet 79 27 = .ok (.iinc 2 1, 3) := by decide +kernel
theorem d79_30 : fet 79 30 = .ok (.goto (-26), 3) := by decide +kernel
theorem d79_33 : fet 79 33 = .ok (.iload_n 1, 1) := by decide +kernel
theorem d79_34 : fet 79 34 = .ok (.ireturn, 1) := by decide +kernel
theorem o80 : own 80 = RX10 := by decide +kernel
theorem d80_0 : fet 80 0 = .ok (.aconst_null, 1) := by decide +kernel
theorem d80_1 : fet 80 1 = .ok (.astore_n 1, 1) := by decide +kernel
theorem d80_2 : fet 80 2 = .ok (.iconst 0, 1) := by decide +kernel
theorem d80_3 : fet 80 3 = .ok (.istore_n 2, 1) := by decide +kernel
theorem d80_4 : fet 80 4 = .ok (.iload_n 2, 1) := by decide +kernel
theorem d80_5 : fet 80 5 = .ok (.aload_n 0, 1) := by decide +kernel
theorem d80_6 : fet 80 6 = .ok (.getfield 50, 3) := by decide +kernel
theorem d80_9 : fet 80 9 = .ok (.if_icmp .ge 50, 3) := by decide +kernel
theorem d80_12 : fet 80 12 = .ok (.aload_n 0, 1) := by decide +kernel
theorem d80_13 : fet 80 13 = .ok (.getfield 23, 3) := by decide +kernel
theorem d80_16 : fet 80 16 = .ok (.iload_n 2, 1) := by decide +kernel
theorem d80_17 : fet 80 17 = .ok (.aaload, 1) := by decide +kernel
theorem d80_18 : fet 80 18 = .ok (.astore_n 3, 1) := by decide +kernel
theorem d80_19 : fet 80 19 = .ok (.aload_n 3, 1) := by decide +kernel
theorem d80_20 : fet 80 20 = .ok (.getfield 65, 3) := by decide +kernel
theorem d80_23 : fet 80 23 = .ok (.invokestatic 68, 3) := by decide +kernel
theorem d80_26 : fet 80 26 = .ok (.ifCond .eq 27, 3) := by decide +kernel
theorem d80_29 : fet 80 29 = .ok (.aload_n 3, 1) := by decide +kernel
theorem d80_30 : fet 80 30 = .ok (.getfield 138, 3) := by decide +kernel
theorem d80_33 : fet 80 33 = .ok (.ifCond .ne 20, 3) := by decide +kernel
theorem d80_36 : fet 80 36 = .ok (.aload_n 1, 1) := by decide +kernel
theorem d80_37 : fet 80 37 = .ok (.ifnull 14, 3) := by decide +kernel
theorem d80_40 : fet 80 40 = .ok (.aload_n 3, 1) := by decide +kernel
theorem d80_41 : fet 80 41 = .ok (.getfield 142, 3) := by decide +kernel
theorem d80_44 : fet 80 44 = .ok (.aload_n 1, 1) := by decide +kernel
theorem d80_45 : fet 80 45 = .ok (.getfield 142, 3) := by decide +kernel
theorem d80_48 : fet 80 48 = .ok (.if_icmp .le 5, 3) := by decide +kernel
theorem d80_51 : fet 80 51 = .ok (.aload_n 3, 1) := by decide +kernel
theorem d80_52 : fet 80 52 = .ok (.astore_n 1, 1) := by decide +kernel
theorem d80_53 : fet 80 53 = .ok (.iinc 2 1, 3) := by decide +kernel
theorem d80_56 : fet 80 56 = .ok (.goto (-52), 3) := by decide +kernel
theorem d80_59 : fet 80 59 = .ok (.aload_n 1, 1) := by decide +kernel
theorem d80_60 : fet 80 60 = .ok (.areturn, 1) := by decide +kernel
theorem o81 : own 81 = RX10 := by decide +kernel
theorem d81_0 : fet 81 0 = .ok (.iconst 0, 1) := by decide +kernel
theorem d81_1 : fet 81 1 = .ok (.istore_n 1, 1) := by decide +kernel
theorem d81_2 : fet 81 2 = .ok (.iconst 0, 1) := by decide +kernel
theorem d81_3 : fet 81 3 = .ok (.istore_n 2, 1) := by decide +kernel
theorem d81_4 : fet 81 4 = .ok (.iload_n 2, 1) := by decide +kernel
theorem d81_5 : fet 81 5 = .ok (.aload_n 0, 1) := by decide +kernel
theorem d81_6 : fet 81 6 = .ok (.getfield 50, 3) := by decide +kernel
theorem d81_9 : fet 81 9 = .ok (.if_icmp .ge 46, 3) := by decide +kernel
theorem d81_12 : fet 81 12 = .ok (.iload_n 1, 1) := by decide +kernel
theorem d81_13 : fet 81 13 = .ok (.aload_n 0, 1) := by decide +kernel
theorem d81_14 : fet 81 14 = .ok (.getfield 23, 3) := by decide +kernel
theorem d81_17 : fet 81 17 = .ok (.iload_n 2, 1) := by decide +kernel
theorem d81_18 : fet 81 18 = .ok (.aaload, 1) := by decide +kernel
theorem d81_19 : fet 81 19 = .ok (.getfield 138, 3) := by decide +kernel
theorem d81_22 : fet 81 22 = .ok (.ifCond .eq 19, 3) := by decide +kernel
theorem d81_25 : fet 81 25 = .ok (.aload_n 0, 1) := by decide +kernel
theorem d81_26 : fet 81 26 = .ok (.getfield 23, 3) := by decide +kernel
theorem d81_29 : fet 81 29 = .ok (.iload_n 2, 1) := by decide +kernel
theorem d81_30 : fet 81 30 = .ok (.aaload, 1) := by decide +kernel
theorem d81_31 : fet 81 31 = .ok (.invokevirtual 118, 3) := by decide +kernel
theorem d81_34 : fet 81 34 = .ok (.ifCond .ne 7, 3) := by decide +kernel
theorem d81_37 : fet 81 37 = .ok (.iconst 1, 1) := by decide +kernel
theorem d81_38 : fet 81 38 = .ok (.goto 4, 3) := by decide +kernel
theorem d81_41 : fet 81 41 = .ok (.iconst 0, 1) := by decide +kernel
theorem d81_42 : fet 81 42 = .ok (.invokestatic 134, 3) := by decide +kernel
theorem d81_45 : fet 81 45 = .ok (.iload_n 2, 1) := by decide +kernel
theorem d81_46 : fet 81 46 = .ok (.ishl, 1) := by decide +kernel
theorem d81_47 : fet 81 47 = .ok (.ior, 1) := by decide +kernel
theorem d81_48 : fet 81 48 = .ok (.istore_n 1, 1) := by decide +kernel
theorem d81_49 : fet 81 49 = .ok (.iinc 2 1, 3) := by decide +kernel
theorem d81_52 : fet 81 52 = .ok (.goto (-48), 3) := by decide +kernel
theorem d81_55 : fet 81 55 = .ok (.iload_n 1, 1) := by decide +kernel
theorem d81_56 : fet 81 56 = .ok (.ireturn, 1) := by decide +kernel
theorem o82 : own 82 = RX10 := by decide +kernel
theorem d82_0 : fet 82 0 = .ok (.iconst 0, 1) := by decide +kernel
theorem d82_1 : fet 82 1 = .ok (.istore_n 1, 1) := by decide +kernel
theorem d82_2 : fet 82 2 = .ok (.iconst 0, 1) := by decide +kernel
theorem d82_3 : fet 82 3 = .ok (.istore_n 2, 1) := by decide +kernel
theorem d82_4 : fet 82 4 = .ok (.iload_n 2, 1) := by decide +kernel
theorem d82_5 : fet 82 5 = .ok (.aload_n 0, 1) := by decide +kernel
theorem d82_6 : fet 82 6 = .ok (.getfield 50, 3) := by decide +kernel
theorem d82_9 : fet 82 9 = .ok (.if_icmp .ge 46, 3) := by decide +kernel
theorem d82_12 : fet 82 12 = .ok (.iload_n 1, 1) := by decide +kernel
theorem d82_13 : fet 82 13 = .ok (.aload_n 0, 1) := by decide +kernel
theorem d82_14 : fet 82 14 = .ok (.getfield 23, 3) := by decide +kernel
theorem d82_17 : fet 82 17 = .ok (.iload_n 2, 1) := by decide +kernel
theorem d82_18 : fet 82 18 = .ok (.aaload, 1) := by decide +kernel
theorem d82_19 : fet 82 19 = .ok (.invokevirtual 145, 3) := by decide +kernel
theorem d82_22 : fet 82 22 = .ok (.ifCond .eq 19, 3) := by decide +kernel
theorem d82_25 : fet 82 25 = .ok (.aload_n 0, 1) := by decide +kernel
theorem d82_26 : fet 82 26 = .ok (.getfield 23, 3) := by decide +kernel
theorem d82_29 : fet 82 29 = .ok (.iload_n 2, 1) := by decide +kernel
theorem d82_30 : fet 82 30 = .ok (.aaload, 1) := by decide +kernel
theorem d82_31 : fet 82 31 = .ok (.invokevirtual 118, 3) := by decide +kernel
theorem d82_34 : fet 82 34 = .ok (.ifCond .ne 7, 3) := by decide +kernel
theorem d82_37 : fet 82 37 = .ok (.iconst 1, 1) := by decide +kernel
theorem d82_38 : fet 82 38 = .ok (.goto 4, 3) := by decide +kernel
theorem d82_41 : fet 82 41 = .ok (.iconst 0, 1) := by decide +kernel
theorem d82_42 : fet 82 42 = .ok (.invokestatic 134, 3) := by decide +kernel
theorem d82_45 : fet 82 45 = .ok (.iload_n 2, 1) := by decide +kernel
theorem d82_46 : fet 82 46 = .ok (.ishl, 1) := by decide +kernel
theorem d82_47 : fet 82 47 = .ok (.ior, 1) := by decide +kernel
theorem d82_48 : fet 82 48 = .ok (.istore_n 1, 1) := by decide +kernel
theorem d82_49 : fet 82 49 = .ok (.iinc 2 1, 3) := by decide +kernel
theorem d82_52 : fet 82 52 = .ok (.goto (-48), 3) := by decide +kernel
theorem d82_55 : fet 82 55 = .ok (.iload_n 1, 1) := by decide +kernel
theorem d82_56 : fet 82 56 = .ok (.ireturn, 1) := by decide +kernel
theorem o83 : own 83 = RX10 := by decide +kernel
theorem d83_0 : fet 83 0 = .ok (.iload_n 2, 1) := by decide +kernel
theorem d83_1 : fet 83 1 = .ok (.ifCond .lt 12, 3) := by decide +kernel
theorem d83_4 : fet 83 4 = .ok (.iload_n 2, 1) := by decide +kernel
theorem d83_5 : fet 83 5 = .ok (.aload_n 1, 1) := by decide +kernel
theorem d83_6 : fet 83 6 = .ok (.arraylength, 1) := by decide +kernel
theorem d83_7 : fet 83 7 = .ok (.bipush 84, 2) := by decide +kernel
theorem d83_9 : fet 83 9 = .ok (.isub, 1) := by decide +kernel
theorem d83_10 : fet 83 10 = .ok (.if_icmp .le 4, 3) := by decide +kernel
theorem d83_13 : fet 83 13 = .ok (.return_, 1) := by decide +kernel
theorem d83_14 : fet 83 14 = .ok (.aload_n 1, 1) := by decide +kernel
theorem d83_15 : fet 83 15 = .ok (.iload_n 2, 1) := by decide +kernel
theorem d83_16 : fet 83 16 = .ok (.aload_n 0, 1) := by decide +kernel
theorem d83_17 : fet 83 17 = .ok (.getfield 85, 3) := by decide +kernel
theorem d83_20 : fet 83 20 = .ok (.iastore, 1) := by decide +kernel
theorem d83_21 : fet 83 21 = .ok (.aload_n 1, 1) := by decide +kernel
theorem d83_22 : fet 83 22 = .ok (.iload_n 2, 1) := by decide +kernel
theorem d83_23 : fet 83 23 = .ok (.iconst 1, 1) := by decide +kernel
theorem d83_24 : fet 83 24 = .ok (.iadd, 1) := by decide +kernel
theorem d83_25 : fet 83 25 = .ok (.aload_n 0, 1) := by decide +kernel
theorem d83_26 : fet 83 26 = .ok (.getfield 105, 3) := by decide +kernel
theorem d83_29 : fet 83 29 = .ok (.iastore, 1) := by decide +kernel
theorem d83_30 : fet 83 30 = .ok (.aload_n 1, 1) := by decide +kernel
theorem d83_31 : fet 83 31 = .ok (.iload_n 2, 1) := by decide +kernel
theorem d83_32 : fet 83 32 = .ok (.iconst 2, 1) := by decide +kernel
theorem d83_33 : fet 83 33 = .ok (.iadd, 1) := by decide +kernel
theorem d83_34 : fet 83 34 = .ok (.aload_n 0, 1) := by decide +kernel
theorem d83_35 : fet 83 35 = .ok (.getfield 43, 3) := by decide +kernel
theorem d83_38 : fet 83 38 = .ok (.iastore, 1) := by decide +kernel
theorem d83_39 : fet 83 39 = .ok (.aload_n 1, 1) := by decide +kernel
theorem d83_40 : fet 83 40 = .ok (.iload_n 2, 1) := by decide +kernel
theorem d83_41 : fet 83 41 = .ok (.iconst 3, 1) := by decide +kernel
theorem d83_42 : fet 83 42 = .ok (.iadd, 1) := by decide +kernel
theorem d83_43 : fet 83 43 = .ok (.aload_n 0, 1) := by decide +kernel
theorem d83_44 : fet 83 44 = .ok (.getfield 47, 3) := by decide +kernel
theorem d83_47 : fet 83 47 = .ok (.iastore, 1) := by decide +kernel
theorem d83_48 : fet 83 48 = .ok (.aload_n 1, 1) := by decide +kernel
theorem d83_49 : fet 83 49 = .ok (.iload_n 2, 1) := by decide +kernel
theorem d83_50 : fet 83 50 = .ok (.iconst 4, 1) := by decide +kernel
theorem d83_51 : fet 83 51 = .ok (.iadd, 1) := by decide +kernel
theorem d83_52 : fet 83 52 = .ok (.aload_n 0, 1) := by decide +kernel
theorem d83_53 : fet 83 53 = .ok (.getfield 50, 3) := by decide +kernel
theorem d83_56 : fet 83 56 = .ok (.iastore, 1) := by decide +kernel
theorem d83_57 : fet 83 57 = .ok (.aload_n 1, 1) := by decide +kernel
theorem d83_58 : fet 83 58 = .ok (.iload_n 2, 1) := by decide +kernel
theorem d83_59 : fet 83 59 = .ok (.iconst 5, 1) := by decide +kernel
theorem d83_60 : fet 83 60 = .ok (.iadd, 1) := by decide +kernel
theorem d83_61 : fet 83 61 = .ok (.aload_n 0, 1) := by decide +kernel
theorem d83_62 : fet 83 62 = .ok (.getfield 53, 3) := by decide +kernel
theorem d83_65 : fet 83 65 = .ok (.iastore, 1) := by decide +kernel
theorem d83_66 : fet 83 66 = .ok (.iload_n 2, 1) := by decide +kernel
theorem d83_67 : fet 83 67 = .ok (.bipush 6, 2) := by decide +kernel
theorem d83_69 : fet 83 69 = .ok (.iadd, 1) := by decide +kernel
theorem d83_70 : fet 83 70 = .ok (.istore_n 3, 1) := by decide +kernel
theorem d83_71 : fet 83 71 = .ok (.aload_n 0, 1) := by decide +kernel
theorem d83_72 : fet 83 72 = .ok (.getfield 11, 3) := by decide +kernel
theorem d83_75 : fet 83 75 = .ok (.iconst 0, 1) := by decide +kernel
theorem d83_76 : fet 83 76 = .ok (.aload_n 1, 1) := by decide +kernel
theorem d83_77 : fet 83 77 = .ok (.iload_n 3, 1) := by decide +kernel
theorem d83_78 : fet 83 78 = .ok (.bipush 8, 2) := by decide +kernel
theorem d83_80 : fet 83 80 = .ok (.invokestatic 148, 3) := by decide +kernel
theorem d83_83 : fet 83 83 = .ok (.aload_n 0, 1) := by decide +kernel
theorem d83_84 : fet 83 84 = .ok (.getfield 17, 3) := by decide +kernel
theorem d83_87 : fet 83 87 = .ok (.iconst 0, 1) := by decide +kernel
theorem d83_88 : fet 83 88 = .ok (.aload_n 1, 1) := by decide +kernel
theorem d83_89 : fet 83 89 = .ok (.iload_n 3, 1) := by decide +kernel
theorem d83_90 : fet 83 90 = .ok (.bipush 8, 2) := by decide +kernel
theorem d83_92 : fet 83 92 = .ok (.iadd, 1) := by decide +kernel
theorem d83_93 : fet 83 93 = .ok (.bipush 8, 2) := by decide +kernel
theorem d83_95 : fet 83 95 = .ok (.invokestatic 148, 3) := by decide +kernel
theorem d83_98 : fet 83 98 = .ok (.aload_n 0, 1) := by decide +kernel
theorem d83_99 : fet 83 99 = .ok (.getfield 20, 3) := by decide +kernel
theorem d83_102 : fet 83 102 = .ok (.iconst 0, 1) := by decide +kernel
theorem d83_103 : fet 83 103 = .ok (.aload_n 1, 1) := by decide +kernel
theorem d83_104 : fet 83 104 = .ok (.iload_n 3, 1) := by decide +kernel
theorem d83_105 : fet 83 105 = .ok (.bipush 16, 2) := by decide +kernel
theorem d83_107 : fet 83 107 = .ok (.iadd, 1) := by decide +kernel
theorem d83_108 : fet 83 108 = .ok (.bipush 8, 2) := by decide +kernel
theorem d83_110 : fet 83 110 = .ok (.invokestatic 148, 3) := by decide +kernel
theorem d83_113 : fet 83 113 = .ok (.iload_n 3, 1) := by decide +kernel
theorem d83_114 : fet 83 114 = .ok (.bipush 24, 2) := by decide +kernel
theorem d83_116 : fet 83 116 = .ok (.iadd, 1) := by decide +kernel
theorem d83_117 : fet 83 117 = .ok (.istore 4, 2) := by decide +kernel
theorem d83_119 : fet 83 119 = .ok (.aload_n 0, 1) := by decide +kernel
theorem d83_120 : fet 83 120 = .ok (.getfield 27, 3) := by decide +kernel
theorem d83_123 : fet 83 123 = .ok (.iconst 0, 1) := by decide +kernel
theorem d83_124 : fet 83 124 = .ok (.aload_n 1, 1) := by decide +kernel
theorem d83_125 : fet 83 125 = .ok (.iload 4, 2) := by decide +kernel
theorem d83_127 : fet 83 127 = .ok (.iconst 4, 1) := by decide +kernel
theorem d83_128 : fet 83 128 = .ok (.invokestatic 148, 3) := by decide +kernel
theorem d83_131 : fet 83 131 = .ok (.aload_n 0, 1) := by decide +kernel
theorem d83_132 : fet 83 132 = .ok (.getfield 30, 3) := by decide +kernel
theorem d83_135 : fet 83 135 = .ok (.iconst 0, 1) := by decide +kernel
theorem d83_136 : fet 83 136 = .ok (.aload_n 1, 1) := by decide +kernel
theorem d83_137 : fet 83 137 = .ok (.iload 4, 2) := by decide +kernel
theorem d83_139 : fet 83 139 = .ok (.iconst 4, 1) := by decide +kernel
theorem d83_140 : fet 83 140 = .ok (.iadd, 1) := by decide +kernel
theorem d83_141 : fet 83 141 = .ok (.iconst 4, 1) := by decide +kernel
theorem d83_142 : fet 83 142 = .ok (.invokestatic 148, 3) := by decide +kernel
theorem d83_145 : fet 83 145 = .ok (.aload_n 0, 1) := by decide +kernel
theorem d83_146 : fet 83 146 = .ok (.getfield 33, 3) := by decide +kernel
theorem d83_149 : fet 83 149 = .ok (.iconst 0, 1) := by decide +kernel
theorem d83_150 : fet 83 150 = .ok (.aload_n 1, 1) := by decide +kernel
theorem d83_151 : fet 83 151 = .ok (.iload 4, 2) := by decide +kernel
theorem d83_153 : fet 83 153 = .ok (.bipush 8, 2) := by decide +kernel
theorem d83_155 : fet 83 155 = .ok (.iadd, 1) := by decide +kernel
theorem d83_156 : fet 83 156 = .ok (.iconst 4, 1) := by decide +kernel
theorem d83_157 : fet 83 157 = .ok (.invokestatic 148, 3) := by decide +kernel
theorem d83_160 : fet 83 160 = .ok (.iconst 0, 1) := by decide +kernel
theorem d83_161 : fet 83 161 = .ok (.istore 5, 2) := by decide +kernel
theorem d83_163 : fet 83 163 = .ok (.iload 5, 2) := by decide +kernel
theorem d83_165 : fet 83 165 = .ok (.bipush 6, 2) := by decide +kernel
theorem d83_167 : fet 83 167 = .ok (.if_icmp .ge 31, 3) := by decide +kernel
theorem d83_170 : fet 83 170 = .ok (.aload_n 0, 1) := by decide +kernel
theorem d83_171 : fet 83 171 = .ok (.getfield 23, 3) := by decide +kernel
theorem d83_174 : fet 83 174 = .ok (.iload 5, 2) := by decide +kernel
theorem d83_176 : fet 83 176 = .ok (.aaload, 1) := by decide +kernel
theorem d83_177 : fet 83 177 = .ok (.aload_n 1, 1) := by decide +kernel
theorem d83_178 : fet 83 178 = .ok (.iload 4, 2) := by decide +kernel
theorem d83_180 : fet 83 180 = .ok (.bipush 12, 2) := by decide +kernel
theorem d83_182 : fet 83 182 = .ok (.iadd, 1) := by decide +kernel
theorem d83_183 : fet 83 183 = .ok (.iload 5, 2) := by decide +kernel
theorem d83_185 : fet 83 185 = .ok (.bipush 7, 2) := by decide +kernel
theorem d83_187 : fet 83 187 = .ok (.imul, 1) := by decide +kernel
theorem d83_188 : fet 83 188 = .ok (.iadd, 1) := by decide +kernel
theorem d83_189 : fet 83 189 = .ok (.invokevirtual 154, 3) := by decide +kernel
theorem d83_192 : fet 83 192 = .ok (.iinc 5 1, 3) := by decide +kernel
theorem d83_195 : fet 83 195 = .ok (.goto (-32), 3) := by decide +kernel
theorem d83_198 : fet 83 198 = .ok (.return_, 1) := by decide +kernel
theorem o84 : own 84 = RX10 := by decide +kernel
theorem d84_0 : fet 84 0 = .ok (.iload_n 2, 1) := by decide +kernel
theorem d84_1 : fet 84 1 = .ok (.ifCond .lt 12, 3) := by decide +kernel
theorem d84_4 : fet 84 4 = .ok (.iload_n 2, 1) := by decide +kernel
theorem d84_5 : fet 84 5 = .ok (.aload_n 1, 1) := by decide +kernel
theorem d84_6 : fet 84 6 = .ok (.arraylength, 1) := by decide +kernel
theorem d84_7 : fet 84 7 = .ok (.bipush 84, 2) := by decide +kernel
theorem d84_9 : fet 84 9 = .ok (.isub, 1) := by decide +kernel
theorem d84_10 : fet 84 10 = .ok (.if_icmp .le 4, 3) := by decide +kernel
theorem d84_13 : fet 84 13 = .ok (.return_, 1) := by decide +kernel
theorem d84_14 : fet 84 14 = .ok (.aload_n 0, 1) := by decide +kernel
theorem d84_15 : fet 84 15 = .ok (.aload_n 1, 1) := by decide +kernel
theorem d84_16 : fet 84 16 = .ok (.iload_n 2, 1) := by decide +kernel
theorem d84_17 : fet 84 17 = .ok (.iaload, 1) := by decide +kernel
theorem d84_18 : fet 84 18 = .ok (.putfield 85, 3) := by decide +kernel
theorem d84_21 : fet 84 21 = .ok (.aload_n 0, 1) := by decide +kernel
theorem d84_22 : fet 84 22 = .ok (.aload_n 1, 1) := by decide +kernel
theorem d84_23 : fet 84 23 = .ok (.iload_n 2, 1) := by decide +kernel
theorem d84_24 : fet 84 24 = .ok (.iconst 1, 1) := by decide +kernel
theorem d84_25 : fet 84 25 = .ok (.iadd, 1) := by decide +kernel
theorem d84_26 : fet 84 26 = .ok (.iaload, 1) := by decide +kernel
theorem d84_27 : fet 84 27 = .ok (.putfield 105, 3) := by decide +kernel
theorem d84_30 : fet 84 30 = .ok (.aload_n 0, 1) := by decide +kernel
theorem d84_31 : fet 84 31 = .ok (.aload_n 1, 1) := by decide +kernel
theorem d84_32 : fet 84 32 = .ok (.iload_n 2, 1) := by decide +kernel
theorem d84_33 : fet 84 33 = .ok (.iconst 2, 1) := by decide +kernel
theorem d84_34 : fet 84 34 = .ok (.iadd, 1) := by decide +kernel
theorem d84_35 : fet 84 35 = .ok (.iaload, 1) := by decide +kernel
theorem d84_36 : fet 84 36 = .ok (.putfield 43, 3) := by decide +kernel
theorem d84_39 : fet 84 39 = .ok (.aload_n 0, 1) := by decide +kernel
theorem d84_40 : fet 84 40 = .ok (.aload_n 1, 1) := by decide +kernel
theorem d84_41 : fet 84 41 = .ok (.iload_n 2, 1) := by decide +kernel
theorem d84_42 : fet 84 42 = .ok (.iconst 3, 1) := by decide +kernel
theorem d84_43 : fet 84 43 = .ok (.iadd, 1) := by decide +kernel
theorem d84_44 : fet 84 44 = .ok (.iaload, 1) := by decide +kernel
theorem d84_45 : fet 84 45 = .ok (.putfield 47, 3) := by decide +kernel
theorem d84_48 : fet 84 48 = .ok (.aload_n 0, 1) := by decide +kernel
theorem d84_49 : fet 84 49 = .ok (.aload_n 1, 1) := by decide +kernel
theorem d84_50 : fet 84 50 = .ok (.iload_n 2, 1) := by decide +kernel
theorem d84_51 : fet 84 51 = .ok (.iconst 4, 1) := by decide +kernel
theorem d84_52 : fet 84 52 = .ok (.iadd, 1) := by decide +kernel
theorem d84_53 : fet 84 53 = .ok (.iaload, 1) := by decide +kernel
theorem d84_54 : fet 84 54 = .ok (.putfield 50, 3) := by decide +kernel
theorem d84_57 : fet 84 57 = .ok (.aload_n 0, 1) := by decide +kernel
theorem d84_58 : fet 84 58 = .ok (.aload_n 1, 1) := by decide +kernel
theorem d84_59 : fet 84 59 = .ok (.iload_n 2, 1) := by decide +kernel
theorem d84_60 : fet 84 60 = .ok (.iconst 5, 1) := by decide +kernel
theorem d84_61 : fet 84 61 = .ok (.iadd, 1) := by decide +kernel
theorem d84_62 : fet 84 62 = .ok (.iaload, 1) := by decide +kernel
theorem d84_63 : fet 84 63 = .ok (.putfield 53, 3) := by decide +kernel
theorem d84_66 : fet 84 66 = .ok (.iload_n 2, 1) := by decide +kernel
theorem d84_67 : fet 84 67 = .ok (.bipush 6, 2) := by decide +kernel
theorem d84_69 : fet 84 69 = .ok (.iadd, 1) := by decide +kernel
theorem d84_70 : fet 84 70 = .ok (.istore_n 3, 1) := by decide +kernel
theorem d84_71 : fet 84 71 = .ok (.aload_n 1, 1) := by decide +kernel
theorem d84_72 : fet 84 72 = .ok (.iload_n 3, 1) := by decide +kernel
theorem d84_73 : fet 84 73 = .ok (.aload_n 0, 1) := by decide +kernel
theorem d84_74 : fet 84 74 = .ok (.getfield 11, 3) := by decide +kernel
theorem d84_77 : fet 84 77 = .ok (.iconst 0, 1) := by decide +kernel
theorem d84_78 : fet 84 78 = .ok (.bipush 8, 2) := by decide +kernel
theorem d84_80 : fet 84 80 = .ok (.invokestatic 148, 3) := by decide +kernel
theorem d84_83 : fet 84 83 = .ok (.aload_n 1, 1) := by decide +kernel
theorem d84_84 : fet 84 84 = .ok (.iload_n 3, 1) := by decide +kernel
theorem d84_85 : fet 84 85 = .ok (.bipush 8, 2) := by decide +kernel
theorem d84_87 : fet 84 87 = .ok (.iadd, 1) := by decide +kernel
theorem d84_88 : fet 84 88 = .ok (.aload_n 0, 1) := by decide +kernel
theorem d84_89 : fet 84 89 = .ok (.getfield 17, 3) := by decide +kernel
theorem d84_92 : fet 84 92 = .ok (.iconst 0, 1) := by decide +kernel
theorem d84_93 : fet 84 93 = .ok (.bipush 8, 2) := by decide +kernel
theorem d84_95 : fet 84 95 = .ok (.invokestatic 148, 3) := by decide +kernel
theorem d84_98 : fet 84 98 = .ok (.aload_n 1, 1) := by decide +kernel
theorem d84_99 : fet 84 99 = .ok (.iload_n 3, 1) := by decide +kernel
theorem d84_100 : fet 84 100 = .ok (.bipush 16, 2) := by decide +kernel
theorem d84_102 : fet 84 102 = .ok (.iadd, 1) := by decide +kernel
theorem d84_103 : fet 84 103 = .ok (.aload_n 0, 1) := by decide +kernel
theorem d84_104 : fet 84 104 = .ok (.getfield 20, 3) := by decide +kernel
theorem d84_107 : fet 84 107 = .ok (.iconst 0, 1) := by decide +kernel
theorem d84_108 : fet 84 108 = .ok (.bipush 8, 2) := by decide +kernel
theorem d84_110 : fet 84 110 = .ok (.invokestatic 148, 3) := by decide +kernel
theorem d84_113 : fet 84 113 = .ok (.iload_n 3, 1) := by decide +kernel
theorem d84_114 : fet 84 114 = .ok (.bipush 24, 2) := by decide +kernel
theorem d84_116 : fet 84 116 = .ok (.iadd, 1) := by decide +kernel
theorem d84_117 : fet 84 117 = .ok (.istore 4, 2) := by decide +kernel
theorem d84_119 : fet 84 119 = .ok (.aload_n 1, 1) := by decide +kernel
theorem d84_120 : fet 84 120 = .ok (.iload 4, 2) := by decide +kernel
theorem d84_122 : fet 84 122 = .ok (.aload_n 0, 1) := by decide +kernel
theorem d84_123 : fet 84 123 = .ok (.getfield 27, 3) := by decide +kernel
theorem d84_126 : fet 84 126 = .ok (.iconst 0, 1) := by decide +kernel
theorem d84_127 : fet 84 127 = .ok (.iconst 4, 1) := by decide +kernel
theorem d84_128 : fet 84 128 = .ok (.invokestatic 148, 3) := by decide +kernel
theorem d84_131 : fet 84 131 = .ok (.aload_n 1, 1) := by decide +kernel
theorem d84_132 : fet 84 132 = .ok (.iload 4, 2) := by decide +kernel
theorem d84_134 : fet 84 134 = .ok (.iconst 4, 1) := by decide +kernel
theorem d84_135 : fet 84 135 = .ok (.iadd, 1) := by decide +kernel
theorem d84_136 : fet 84 136 = .ok (.aload_n 0, 1) := by decide +kernel
theorem d84_137 : fet 84 137 = .ok (.getfield 30, 3) := by decide +kernel
theorem d84_140 : fet 84 140 = .ok (.iconst 0, 1) := by decide +kernel
theorem d84_141 : fet 84 141 = .ok (.iconst 4, 1) := by decide +kernel
theorem d84_142 : fet 84 142 = .ok (.invokestatic 148, 3) := by decide +kernel
theorem d84_145 : fet 84 145 = .ok (.aload_n 1, 1) := by decide +kernel
theorem d84_146 : fet 84 146 = .ok (.iload 4, 2) := by decide +kernel
theorem d84_148 : fet 84 148 = .ok (.bipush 8, 2) := by decide +kernel
theorem d84_150 : fet 84 150 = .ok (.iadd, 1) := by decide +kernel
theorem d84_151 : fet 84 151 = .ok (.aload_n 0, 1) := by decide +kernel
theorem d84_152 : fet 84 152 = .ok (.getfield 33, 3) := by decide +kernel
theorem d84_155 : fet 84 155 = .ok (.iconst 0, 1) := by decide +kernel
theorem d84_156 : fet 84 156 = .ok (.iconst 4, 1) := by decide +kernel
theorem d84_157 : fet 84 157 = .ok (.invokestatic 148, 3) := by decide +kernel
theorem d84_160 : fet 84 160 = .ok (.iconst 0, 1) := by decide +kernel
theorem d84_161 : fet 84 161 = .ok (.istore 5, 2) := by decide +kernel
theorem d84_163 : fet 84 163 = .ok (.iload 5, 2) := by decide +kernel
theorem d84_165 : fet 84 165 = .ok (.bipush 6, 2) := by decide +kernel
theorem d84_167 : fet 84 167 = .ok (.if_icmp .ge 43, 3) := by decide +kernel
theorem d84_170 : fet 84 170 = .ok (.iload 4, 2) := by decide +kernel
theorem d84_172 : fet 84 172 = .ok (.bipush 12, 2) := by decide +kernel
theorem d84_174 : fet 84 174 = .ok (.iadd, 1) := by decide +kernel
theorem d84_175 : fet 84 175 = .ok (.iload 5, 2) := by decide +kernel
theorem d84_177 : fet 84 177 = .ok (.bipush 7, 2) := by decide +kernel
theorem d84_179 : fet 84 179 = .ok (.imul, 1) := by decide +kernel
theorem d84_180 : fet 84 180 = .ok (.iadd, 1) := by decide +kernel
theorem d84_181 : fet 84 181 = .ok (.istore 6, 2) := by decide +kernel
theorem d84_183 : fet 84 183 = .ok (.aload_n 0, 1) := by decide +kernel
theorem d84_184 : fet 84 184 = .ok (.getfield 23, 3) := by decide +kernel
theorem d84_187 : fet 84 187 = .ok (.iload 5, 2) := by decide +kernel
theorem d84_189 : fet 84 189 = .ok (.aaload, 1) := by decide +kernel
theorem d84_190 : fet 84 190 = .ok (.aload_n 1, 1) := by decide +kernel
theorem d84_191 : fet 84 191 = .ok (.iload 6, 2) := by decide +kernel
theorem d84_193 : fet 84 193 = .ok (.aload_n 0, 1) := by decide +kernel
theorem d84_194 : fet 84 194 = .ok (.aload_n 1, 1) := by decide +kernel
theorem d84_195 : fet 84 195 = .ok (.iload 6, 2) := by decide +kernel
theorem d84_197 : fet 84 197 = .ok (.iaload, 1) := by decide +kernel
theorem d84_198 : fet 84 198 = .ok (.invokevirtual 56, 3) := by decide +kernel
theorem d84_201 : fet 84 201 = .ok (.invokevirtual 158, 3) := by decide +kernel
theorem d84_204 : fet 84 204 = .ok (.iinc 5 1, 3) := by decide +kernel
theorem d84_207 : fet 84 207 = .ok (.goto (-44), 3) := by decide +kernel
theorem d84_210 : fet 84 210 = .ok (.return_, 1) := by decide +kernel
theorem o85 : own 85 = RX11 := by decide +kernel
theorem d85_0 : fet 85 0 = .ok (.aload_n 0, 1) := by decide +kernel
theorem d85_1 : fet 85 1 = .ok (.invokespecial 1, 3) := by decide +kernel
theorem d85_4 : fet 85 4 = .ok (.aload_n 0, 1) := by decide +kernel
theorem d85_5 : fet 85 5 = .ok (.new 7, 3) := by decide +kernel
theorem d85_8 : fet 85 8 = .ok (.dup, 1) := by decide +kernel
theorem d85_9 : fet 85 9 = .ok (.invokespecial 9, 3) := by decide +kernel
theorem d85_12 : fet 85 12 = .ok (.putfield 10, 3) := by decide +kernel
theorem d85_15 : fet 85 15 = .ok (.aload_n 0, 1) := by decide +kernel
theorem d85_16 : fet 85 16 = .ok (.new 16, 3) := by decide +kernel
theorem d85_19 : fet 85 19 = .ok (.dup, 1) := by decide +kernel
theorem d85_20 : fet 85 20 = .ok (.invokespecial 18, 3) := by decide +kernel
theorem d85_23 : fet 85 23 = .ok (.putfield 19, 3) := by decide +kernel
theorem d85_26 : fet 85 26 = .ok (.aload_n 0, 1) := by decide +kernel
theorem d85_27 : fet 85 27 = .ok (.new 23, 3) := by decide +kernel
theorem d85_30 : fet 85 30 = .ok (.dup, 1) := by decide +kernel
theorem d85_31 : fet 85 31 = .ok (.invokespecial 25, 3) := by decide +kernel
theorem d85_34 : fet 85 34 = .ok (.putfield 26, 3) := by decide +kernel
theorem d85_37 : fet 85 37 = .ok (.aload_n 0, 1) := by decide +kernel
theorem d85_38 : fet 85 38 = .ok (.invokestatic 30, 3) := by decide +kernel
theorem d85_41 : fet 85 41 = .ok (.putfield 34, 3) := by decide +kernel
theorem d85_44 : fet 85 44 = .ok (.aload_n 0, 1) := by decide +kernel
theorem d85_45 : fet 85 45 = .ok (.new 38, 3) := by decide +kernel
theorem d85_48 : fet 85 48 = .ok (.dup, 1) := by decide +kernel
theorem d85_49 : fet 85 49 = .ok (.iconst 0, 1) := by decide +kernel
theorem d85_50 : fet 85 50 = .ok (.aload_n 0, 1) := by decide +kernel
theorem d85_51 : fet 85 51 = .ok (.getfield 34, 3) := by decide +kernel
theorem d85_54 : fet 85 54 = .ok (.iconst 1, 1) := by decide +kernel
theorem d85_55 : fet 85 55 = .ok (.aaload, 1) := by decide +kernel
theorem d85_56 : fet 85 56 = .ok (.invokespecial 40, 3) := by decide +kernel
theorem d85_59 : fet 85 59 = .ok (.putfield 43, 3) := by decide +kernel
theorem d85_62 : fet 85 62 = .ok (.aload_n 0, 1) := by decide +kernel
theorem d85_63 : fet 85 63 = .ok (.new 47, 3) := by decide +kernel
theorem d85_66 : fet 85 66 = .ok (.dup, 1) := by decide +kernel
theorem d85_67 : fet 85 67 = .ok (.aload_n 0, 1) := by decide +kernel
theorem d85_68 : fet 85 68 = .ok (.getfield 34, 3) := by decide +kernel
theorem d85_71 : fet 85 71 = .ok (.invokespecial 49, 3) := by decide +kernel
theorem d85_74 : fet 85 74 = .ok (.putfield 52, 3) := by decide +kernel
theorem d85_77 : fet 85 77 = .ok (.aload_n 0, 1) := by decide +kernel
theorem d85_78 : fet 85 78 = .ok (.new 47, 3) := by decide +kernel
theorem d85_81 : fet 85 81 = .ok (.dup, 1) := by decide +kernel
theorem d85_82 : fet 85 82 = .ok (.aload_n 0, 1) := by decide +kernel
theorem d85_83 : fet 85 83 = .ok (.getfield 34, 3) := by decide +kernel
theorem d85_86 : fet 85 86 = .ok (.invokespecial 49, 3) := by decide +kernel
theorem d85_89 : fet 85 89 = .ok (.putfield 56, 3) := by decide +kernel
theorem d85_92 : fet 85 92 = .ok (.aload_n 0, 1) := by decide +kernel
theorem d85_93 : fet 85 93 = .ok (.sipush 2016, 3) := by decide +kernel
theorem d85_96 : fet 85 96 = .ok (.newarray .int, 2) := by decide +kernel
theorem d85_98 : fet 85 98 = .ok (.putfield 59, 3) := by decide +kernel
theorem d85_101 : fet 85 101 = .ok (.aload_n 0, 1) := by decide +kernel
theorem d85_102 : fet 85 102 = .ok (.sipush 168, 3) := by decide +kernel
theorem d85_105 : fet 85 105 = .ok (.newarray .int, 2) := by decide +kernel
theorem d85_107 : fet 85 107 = .ok (.putfield 63, 3) := by decide +kernel
theorem d85_110 : fet 85 110 = .ok (.aload_n 0, 1) := by decide +kernel
theorem d85_111 : fet 85 111 = .ok (.iconst 2, 1) := by decide +kernel
theorem d85_112 : fet 85 112 = .ok (.newarray .boolean, 2) := by decide +kernel
theorem d85_114 : fet 85 114 = .ok (.putfield 66, 3) := by decide +kernel
theorem d85_117 : fet 85 117 = .ok (.aload_n 0, 1) := by decide +kernel
theorem d85_118 : fet 85 118 = .ok (.bipush 84, 2) := by decide +kernel
theorem d85_120 : fet 85 120 = .ok (.newarray .int, 2) := by decide +kernel
theorem d85_122 : fet 85 122 = .ok (.putfield 70, 3) := by decide +kernel
theorem d85_125 : fet 85 125 = .ok (.aload_n 0, 1) := by decide +kernel
theorem d85_126 : fet 85 126 = .ok (.bipush 60, 2) := by decide +kernel
theorem d85_128 : fet 85 128 = .ok (.newarray .int, 2) := by decide +kernel
theorem d85_130 : fet 85 130 = .ok (.putfield 73, 3) := by decide +kernel
theorem d85_133 : fet 85 133 = .ok (.return_, 1) := by decide +kernel
theorem o86 : own 86 = RX11 := by decide +kernel
theorem d86_0 : fet 86 0 = .ok (.bipush 6, 2) := by decide +kernel
theorem d86_2 : fet 86 2 = .ok (.anewarray 76, 3) := by decide +kernel
theorem d86_5 : fet 86 5 = .ok (.astore_n 0, 1) := by decide +kernel
theorem d86_6 : fet 86 6 = .ok (.aload_n 0, 1) := by decide +kernel
theorem d86_7 : fet 86 7 = .ok (.iconst 0, 1) := by decide +kernel
theorem d86_8 : fet 86 8 = .ok (.new 76, 3) := by decide +kernel
theorem d86_11 : fet 86 11 = .ok (.dup, 1) := by decide +kernel
theorem d86_12 : fet 86 12 = .ok (.iconst 0, 1) := by decide +kernel
theorem d86_13 : fet 86 13 = .ok (.iconst 1, 1) := by decide +kernel
theorem d86_14 : fet 86 14 = .ok (.iconst 0, 1) := by decide +kernel
theorem d86_15 : fet 86 15 = .ok (.iconst 0, 1) := by decide +kernel
theorem d86_16 : fet 86 16 = .ok (.invokespecial 78, 3) := by decide +kernel
theorem d86_19 : fet 86 19 = .ok (.aastore, 1) := by decide +kernel
theorem d86_20 : fet 86 20 = .ok (.aload_n 0, 1) := by decide +kernel
theorem d86_21 : fet 86 21 = .ok (.iconst 1, 1) := by decide +kernel
theorem d86_22 : fet 86 22 = .ok (.new 81, 3) := by decide +kernel
theorem d86_25 : fet 86 25 = .ok (.dup, 1) := by decide +kernel
theorem d86_26 : fet 86 26 = .ok (.iconst 1, 1) := by decide +kernel
theorem d86_27 : fet 86 27 = .ok (.bipush 8, 2) := by decide +kernel
theorem d86_29 : fet 86 29 = .ok (.bipush 40, 2) := by decide +kernel
theorem d86_31 : fet 86 31 = .ok (.bipush 90, 2) := by decide +kernel
theorem d86_33 : fet 86 33 = .ok (.invokespecial 83, 3) := by decide +kernel
theorem d86_36 : fet 86 36 = .ok (.aastore, 1) := by decide +kernel
theorem d86_37 : fet 86 37 = .ok (.aload_n 0, 1) := by decide +kernel
theorem d86_38 : fet 86 38 = .ok (.iconst 2, 1) := by decide +kernel
theorem d86_39 : fet 86 39 = .ok (.new 84, 3) := by decide +kernel
theorem d86_42 : fet 86 42 = .ok (.dup, 1) := by decide +kernel
theorem d86_43 : fet 86 43 = .ok (.iconst 2, 1) := by decide +kernel
theorem d86_44 : fet 86 44 = .ok (.bipush 16, 2) := by decide +kernel
theorem d86_46 : fet 86 46 = .ok (.bipush 80, 2) := by decide +kernel
theorem d86_48 : fet 86 48 = .ok (.bipush 120, 2) := by decide +kernel
theorem d86_50 : fet 86 50 = .ok (.invokespecial 86, 3) := by decide +kernel
theorem d86_53 : fet 86 53 = .ok (.aastore, 1) := by decide +kernel
theorem d86_54 : fet 86 54 = .ok (.aload_n 0, 1) := by decide +kernel
theorem d86_55 : fet 86 55 = .ok (.iconst 3, 1) := by decide +kernel
theorem d86_56 : fet 86 56 = .ok (.new 87, 3) := by decide +kernel
theorem d86_59 : fet 86 59 = .ok (.dup, 1) := by decide +kernel
theorem d86_60 : fet 86 60 = .ok (.iconst 3, 1) := by decide +kernel
theorem d86_61 : fet 86 61 = .ok (.iconst 4, 1) := by decide +kernel
theorem d86_62 : fet 86 62 = .ok (.bipush 20, 2) := by decide +kernel
theorem d86_64 : fet 86 64 = .ok (.bipush 45, 2) := by decide +kernel
theorem d86_66 : fet 86 66 = .ok (.invokespecial 89, 3) := by decide +kernel
theorem d86_69 : fet 86 69 = .ok (.aastore, 1) := by decide +kernel
theorem d86_70 : fet 86 70 = .ok (.aload_n 0, 1) := by decide +kernel
theorem d86_71 : fet 86 71 = .ok (.iconst 4, 1) := by decide +kernel
theorem d86_72 : fet 86 72 = .ok (.new 90, 3) := by decide +kernel
theorem d86_75 : fet 86 75 = .ok (.dup, 1) := by decide +kernel
theorem d86_76 : fet 86 76 = .ok (.iconst 4, 1) := by decide +kernel
theorem d86_77 : fet 86 77 = .ok (.bipush 6, 2) := by decide +kernel
theorem d86_79 : fet 86 79 = .ok (.bipush 15, 2) := by decide +kernel
theorem d86_81 : fet 86 81 = .ok (.bipush 70, 2) := by decide +kernel
theorem d86_83 : fet 86 83 = .ok (.invokespecial 92, 3) := by decide +kernel
theorem d86_86 : fet 86 86 = .ok (.aastore, 1) := by decide +kernel
theorem d86_87 : fet 86 87 = .ok (.aload_n 0, 1) := by decide +kernel
theorem d86_88 : fet 86 88 = .ok (.iconst 5, 1) := by decide +kernel
theorem d86_89 : fet 86 89 = .ok (.new 93, 3) := by decide +kernel
theorem d86_92 : fet 86 92 = .ok (.dup, 1) := by decide +kernel
theorem d86_93 : fet 86 93 = .ok (.iconst 5, 1) := by decide +kernel
theorem d86_94 : fet 86 94 = .ok (.bipush 10, 2) := by decide +kernel
theorem d86_96 : fet 86 96 = .ok (.bipush 50, 2) := by decide +kernel
theorem d86_98 : fet 86 98 = .ok (.bipush 100, 2) := by decide +kernel
theorem d86_100 : fet 86 100 = .ok (.invokespecial 95, 3) := by decide +kernel
theorem d86_103 : fet 86 103 = .ok (.aastore, 1) := by decide +kernel
theorem d86_104 : fet 86 104 = .ok (.aload_n 0, 1) := by decide +kernel
theorem d86_105 : fet 86 105 = .ok (.areturn, 1) := by decide +kernel
theorem o87 : own 87 = RX11 := by decide +kernel
theorem d87_0 : fet 87 0 = .ok (.aload_n 0, 1) := by decide +kernel
theorem d87_1 : fet 87 1 = .ok (.getfield 10, 3) := by decide +kernel
theorem d87_4 : fet 87 4 = .ok (.iload_n 1, 1) := by decide +kernel
theorem d87_5 : fet 87 5 = .ok (.invokevirtual 96, 3) := by decide +kernel
theorem d87_8 : fet 87 8 = .ok (.ifCond .eq 18, 3) := by decide +kernel
theorem d87_11 : fet 87 11 = .ok (.iload_n 2, 1) := by decide +kernel
theorem d87_12 : fet 87 12 = .ok (.ifCond .lt 14, 3) := by decide +kernel
theorem d87_15 : fet 87 15 = .ok (.iload_n 2, 1) := by decide +kernel
theorem d87_16 : fet 87 16 = .ok (.iconst 3, 1) := by decide +kernel
theorem d87_17 : fet 87 17 = .ok (.if_icmp .ge 9, 3) := by decide +kernel
theorem d87_20 : fet 87 20 = .ok (.iload_n 3, 1) := by decide +kernel
theorem d87_21 : fet 87 21 = .ok (.bipush 40, 2) := by decide +kernel
theorem d87_23 : fet 87 23 = .ok (.if_icmp .le 6, 3) := by decide +kernel
theorem d87_26 : fet 87 26 = .ok (.ldc 100, 2) := by decide +kernel
theorem d87_28 : fet 87 28 = .ok (.ireturn, 1) := by decide +kernel
theorem d87_29 : fet 87 29 = .ok (.iload_n 3, 1) := by decide +kernel
theorem d87_30 : fet 87 30 = .ok (.ifCond .ge 9, 3) := by decide +kernel
theorem d87_33 : fet 87 33 = .ok (.aload_n 0, 1) := by decide +kernel
theorem d87_34 : fet 87 34 = .ok (.iconst 4, 1) := by decide +kernel
theorem d87_35 : fet 87 35 = .ok (.invokevirtual 101, 3) := by decide +kernel
theorem d87_38 : fet 87 38 = .ok (.ireturn, 1) := by decide +kernel
theorem d87_39 : fet 87 39 = .ok (.aload_n 0, 1) := by decide +kernel
theorem d87_40 : fet 87 40 = .ok (.getfield 10, 3) := by decide +kernel
theorem d87_43 : fet 87 43 = .ok (.iload_n 1, 1) := by decide +kernel
theorem d87_44 : fet 87 44 = .ok (.iload_n 2, 1) := by decide +kernel
theorem d87_45 : fet 87 45 = .ok (.iload_n 3, 1) := by decide +kernel
theorem d87_46 : fet 87 46 = .ok (.invokevirtual 105, 3) := by decide +kernel
theorem d87_49 : fet 87 49 = .ok (.aload_n 0, 1) := by decide +kernel
theorem d87_50 : fet 87 50 = .ok (.iload_n 3, 1) := by decide +kernel
theorem d87_51 : fet 87 51 = .ok (.invokevirtual 109, 3) := by decide +kernel
theorem d87_54 : fet 87 54 = .ok (.ireturn, 1) := by decide +kernel
theorem o88 : own 88 = RX11 := by decide +kernel
theorem d88_0 : fet 88 0 = .ok (.aload_n 0, 1) := by decide +kernel
theorem d88_1 : fet 88 1 = .ok (.getfield 10, 3) := by decide +kernel
theorem d88_4 : fet 88 4 = .ok (.iload_n 1, 1) := by decide +kernel
theorem d88_5 : fet 88 5 = .ok (.invokevirtual 96, 3) := by decide +kernel
theorem d88_8 : fet 88 8 = .ok (.ifCond .ne 6, 3) := by decide +kernel
theorem d88_11 : fet 88 11 = .ok (.ldc 100, 2) := by decide +kernel
theorem d88_13 : fet 88 13 = .ok (.ireturn, 1) := by decide +kernel
theorem d88_14 : fet 88 14 = .ok (.aload_n 0, 1) := by decide +kernel
theorem d88_15 : fet 88 15 = .ok (.getfield 10, 3) := by decide +kernel
theorem d88_18 : fet 88 18 = .ok (.iload_n 1, 1) := by decide +kernel
theorem d88_19 : fet 88 19 = .ok (.invokevirtual 112, 3) := by decide +kernel
theorem d88_22 : fet 88 22 = .ok (.ifCond .eq 9, 3) := by decide +kernel
theorem d88_25 : fet 88 25 = .ok (.aload_n 0, 1) := by decide +kernel
theorem d88_26 : fet 88 26 = .ok (.iconst 1, 1) := by decide +kernel
theorem d88_27 : fet 88 27 = .ok (.invokevirtual 101, 3) := by decide +kernel
theorem d88_30 : fet 88 30 = .ok (.ireturn, 1) := by decide +kernel
theorem d88_31 : fet 88 31 = .ok (.aload_n 0, 1) := by decide +kernel
theorem d88_32 : fet 88 32 = .ok (.getfield 10, 3) := by decide +kernel
theorem d88_35 : fet 88 35 = .ok (.iload_n 1, 1) := by decide +kernel
theorem d88_36 : fet 88 36 = .ok (.iload_n 2, 1) := by decide +kernel
theorem d88_37 : fet 88 37 = .ok (.iconst 1, 1) := by decide +kernel
theorem d88_38 : fet 88 38 = .ok (.invokevirtual 115, 3) := by decide +kernel
theorem d88_41 : fet 88 41 = .ok (.ifCond .ne 9, 3) := by decide +kernel
theorem d88_44 : fet 88 44 = .ok (.aload_n 0, 1) := by decide +kernel
theorem d88_45 : fet 88 45 = .ok (.iconst 2, 1) := by decide +kernel
theorem d88_46 : fet 88 46 = .ok (.invokevirtual 101, 3) := by decide +kernel
theorem d88_49 : fet 88 49 = .ok (.ireturn, 1) := by decide +kernel
theorem d88_50 : fet 88 50 = .ok (.aload_n 0, 1) := by decide +kernel
theorem d88_51 : fet 88 51 = .ok (.aload_n 0, 1) := by decide +kernel
theorem d88_52 : fet 88 52 = .ok (.getfield 10, 3) := by decide +kernel
theorem d88_55 : fet 88 55 = .ok (.iload_n 1, 1) := by decide +kernel
theorem d88_56 : fet 88 56 = .ok (.iload_n 2, 1) := by decide +kernel
theorem d88_57 : fet 88 57 = .ok (.iload_n 3, 1) := by decide +kernel
theorem d88_58 : fet 88 58 = .ok (.invokevirtual 119, 3) := by decide +kernel
theorem d88_61 : fet 88 61 = .ok (.invokevirtual 109, 3) := by decide +kernel
theorem d88_64 : fet 88 64 = .ok (.ireturn, 1) := by decide +kernel
theorem o89 : own 89 = RX11 := by decide +kernel
theorem d89_0 : fet 89 0 = .ok (.aload_n 0, 1) := by decide +kernel
theorem d89_1 : fet 89 1 = .ok (.getfield 10, 3) := by decide +kernel
theorem d89_4 : fet 89 4 = .ok (.iload_n 1, 1) := by decide +kernel
theorem d89_5 : fet 89 5 = .ok (.invokevirtual 96, 3) := by decide +kernel
theorem d89_8 : fet 89 8 = .ok (.ifCond .eq 14, 3) := by decide +kernel
theorem d89_11 : fet 89 11 = .ok (.aload_n 0, 1) := by decide +kernel
theorem d89_12 : fet 89 12 = .ok (.getfield 10, 3) := by decide +kernel
theorem d89_15 : fet 89 15 = .ok (.iload_n 3, 1) := by decide +kernel
theorem d89_16 : fet 89 16 = .ok (.invokevirtual 96, 3) := by decide +kernel
theorem d89_19 : fet 89 19 = .ok (.ifCond .ne 6, 3) := by decide +kernel
theorem d89_22 : fet 89 22 = .ok (.ldc 100, 2) := by decide +kernel
theorem d89_24 : fet 89 24 = .ok (.ireturn, 1) := by decide +kernel
theorem d89_25 : fet 89 25 = .ok (.aload_n 0, 1) := by decide +kernel
theorem d89_26 : fet 89 26 = .ok (.getfield 10, 3) := by decide +kernel
theorem d89_29 : fet 89 29 = .ok (.iload_n 1, 1) := by decide +kernel
theorem d89_30 : fet 89 30 = .ok (.invokevirtual 112, 3) := by decide +kernel
theorem d89_33 : fet 89 33 = .ok (.ifCond .ne 14, 3) := by decide +kernel
theorem d89_36 : fet 89 36 = .ok (.aload_n 0, 1) := by decide +kernel
theorem d89_37 : fet 89 37 = .ok (.getfield 10, 3) := by decide +kernel
theorem d89_40 : fet 89 40 = .ok (.iload_n 3, 1) := by decide +kernel
theorem d89_41 : fet 89 41 = .ok (.invokevirtual 112, 3) := by decide +kernel
theorem d89_44 : fet 89 44 = .ok (.ifCond .eq 9, 3) := by decide +kernel
theorem d89_47 : fet 89 47 = .ok (.aload_n 0, 1) := by decide +kernel
theorem d89_48 : fet 89 48 = .ok (.iconst 1, 1) := by decide +kernel
theorem d89_49 : fet 89 49 = .ok (.invokevirtual 101, 3) := by decide +kernel
theorem d89_52 : fet 89 52 = .ok (.ireturn, 1) := by decide +kernel
theorem d89_53 : fet 89 53 = .ok (.aload_n 0, 1) := by decide +kernel
theorem d89_54 : fet 89 54 = .ok (.getfield 10, 3) := by decide +kernel
theorem d89_57 : fet 89 57 = .ok (.iload_n 1, 1) := by decide +kernel
theorem d89_58 : fet 89 58 = .ok (.iload_n 3, 1) := by decide +kernel
theorem d89_59 : fet 89 59 = .ok (.invokevirtual 123, 3) := by decide +kernel
theorem d89_62 : fet 89 62 = .ok (.ifCond .ne 9, 3) := by decide +kernel
theorem d89_65 : fet 89 65 = .ok (.aload_n 0, 1) := by decide +kernel
theorem d89_66 : fet 89 66 = .ok (.iconst 5, 1) := by decide +kernel
theorem d89_67 : fet 89 67 = .ok (.invokevirtual 101, 3) := by decide +kernel
theorem d89_70 : fet 89 70 = .ok (.ireturn, 1) := by decide +kernel
theorem d89_71 : fet 89 71 = .ok (.aload_n 0, 1) := by decide +kernel
theorem d89_72 : fet 89 72 = .ok (.getfield 10, 3) := by decide +kernel
theorem d89_75 : fet 89 75 = .ok (.iload_n 1, 1) := by decide +kernel
theorem d89_76 : fet 89 76 = .ok (.iload_n 2, 1) := by decide +kernel
theorem d89_77 : fet 89 77 = .ok (.iload 5, 2) := by decide +kernel
theorem d89_79 : fet 89 79 = .ok (.invokevirtual 115, 3) := by decide +kernel
theorem d89_82 : fet 89 82 = .ok (.ifCond .eq 18, 3) := by decide +kernel
theorem d89_85 : fet 89 85 = .ok (.aload_n 0, 1) := by decide +kernel
theorem d89_86 : fet 89 86 = .ok (.getfield 10, 3) := by decide +kernel
theorem d89_89 : fet 89 89 = .ok (.iload_n 3, 1) := by decide +kernel
theorem d89_90 : fet 89 90 = .ok (.iload 4, 2) := by decide +kernel
theorem d89_92 : fet 89 92 = .ok (.iload 5, 2) := by decide +kernel
theorem d89_94 : fet 89 94 = .ok (.invokevirtual 115, 3) := by decide +kernel
theorem d89_97 : fet 89 97 = .ok (.ifCond .ne 9, 3) := by decide +kernel
theorem d89_100 : fet 89 100 = .ok (.aload_n 0, 1) := by decide +kernel
theorem d89_101 : fet 89 101 = .ok (.iconst 2, 1) := by decide +kernel
theorem d89_102 : fet 89 102 = .ok (.invokevirtual 101, 3) := by decide +kernel
theorem d89_105 : fet 89 105 = .ok (.ireturn, 1) := by decide +kernel
theorem d89_106 : fet 89 106 = .ok (.aload_n 0, 1) := by decide +kernel
theorem d89_107 : fet 89 107 = .ok (.getfield 10, 3) := by decide +kernel
theorem d89_110 : fet 89 110 = .ok (.iload_n 1, 1) := by decide +kernel
theorem d89_111 : fet 89 111 = .ok (.iload_n 2, 1) := by decide +kernel
theorem d89_112 : fet 89 112 = .ok (.iload_n 3, 1) := by decide +kernel
theorem d89_113 : fet 89 113 = .ok (.iload 4, 2) := by decide +kernel
theorem d89_115 : fet 89 115 = .ok (.iload 5, 2) := by decide +kernel
theorem d89_117 : fet 89 117 = .ok (.invokevirtual 127, 3) := by decide +kernel
theorem d89_120 : fet 89 120 = .ok (.aload_n 0, 1) := by decide +kernel
theorem d89_121 : fet 89 121 = .ok (.iload 5, 2) := by decide +kernel
theorem d89_123 : fet 89 123 = .ok (.invokevirtual 109, 3) := by decide +kernel
theorem d89_126 : fet 89 126 = .ok (.ireturn, 1) := by decide +kernel
theorem o90 : own 90 = RX11 := by decide +kernel
theorem d90_0 : fet 90 0 = .ok (.aload_n 0, 1) := by decide +kernel
theorem d90_1 : fet 90 1 = .ok (.getfield 10, 3) := by decide +kernel
theorem d90_4 : fet 90 4 = .ok (.iload_n 1, 1) := by decide +kernel
theorem d90_5 : fet 90 5 = .ok (.invokevirtual 96, 3) := by decide +kernel
theorem d90_8 : fet 90 8 = .ok (.ifCond .ne 6, 3) := by decide +kernel
theorem d90_11 : fet 90 11 = .ok (.ldc 100, 2) := by decide +kernel
theorem d90_13 : fet 90 13 = .ok (.ireturn, 1) := by decide +kernel
theorem d90_14 : fet 90 14 = .ok (.aload_n 0, 1) := by decide +kernel
theorem d90_15 : fet 90 15 = .ok (.getfield 10, 3) := by decide +kernel
theorem d90_18 : fet 90 18 = .ok (.iload_n 1, 1) := by decide +kernel
theorem d90_19 : fet 90 19 = .ok (.invokevirtual 112, 3) := by decide +kernel
theorem d90_22 : fet 90 22 = .ok (.ifCond .eq 9, 3) := by decide +kernel
theorem d90_25 : fet 90 25 = .ok (.aload_n 0, 1) := by decide +kernel
theorem d90_26 : fet 90 26 = .ok (.iconst 1, 1) := by decide +kernel
theorem d90_27 : fet 90 27 = .ok (.invokevirtual 101, 3) := by decide +kernel
theorem d90_30 : fet 90 30 = .ok (.ireturn, 1) := by decide +kernel
theorem d90_31 : fet 90 31 = .ok (.aload_n 0, 1) := by decide +kernel
theorem d90_32 : fet 90 32 = .ok (.aload_n 0, 1) := by decide +kernel
theorem d90_33 : fet 90 33 = .ok (.getfield 10, 3) := by decide +kernel
theorem d90_36 : fet 90 36 = .ok (.iload_n 1, 1) := by decide +kernel
theorem d90_37 : fet 90 37 = .ok (.invokevirtual 131, 3) := by decide +kernel
theorem d90_40 : fet 90 40 = .ok (.invokevirtual 109, 3) := by decide +kernel
theorem d90_43 : fet 90 43 = .ok (.ireturn, 1) := by decide +kernel
theorem o91 : own 91 = RX11 := by decide +kernel
theorem d91_0 : fet 91 0 = .ok (.aload_n 0, 1) := by decide +kernel
theorem d91_1 : fet 91 1 = .ok (.iload_n 1, 1) := by decide +kernel
theorem d91_2 : fet 91 2 = .ok (.putfield 134, 3) := by decide +kernel
theorem d91_5 : fet 91 5 = .ok (.ldc 138, 2) := by decide +kernel
theorem d91_7 : fet 91 7 = .ok (.iload_n 1, 1) := by decide +kernel
theorem d91_8 : fet 91 8 = .ok (.isub, 1) := by decide +kernel
theorem d91_9 : fet 91 9 = .ok (.ireturn, 1) := by decide +kernel
theorem o92 : own 92 = RX11 := by decide +kernel
theorem d92_0 : fet 92 0 = .ok (.aload_n 0, 1) := by decide +kernel
theorem d92_1 : fet 92 1 = .ok (.iconst 0, 1) := by decide +kernel
theorem d92_2 : fet 92 2 = .ok (.putfield 134, 3) := by decide +kernel
theorem d92_5 : fet 92 5 = .ok (.iload_n 1, 1) := by decide +kernel
theorem d92_6 : fet 92 6 = .ok (.ireturn, 1) := by decide +kernel
theorem o93 : own 93 = RX11 := by decide +kernel
theorem d93_0 : fet 93 0 = .ok (.iload_n 1, 1) := by decide +kernel
theorem d93_1 : fet 93 1 = .ok (.ifCond .lt 10, 3) := by decide +kernel
theorem d93_4 : fet 93 4 = .ok (.iload_n 1, 1) := by decide +kernel
theorem d93_5 : fet 93 5 = .ok (.sipush 255, 3) := by decide +kernel
theorem d93_8 : fet 93 8 = .ok (.if_icmp .le 6, 3) := by decide +kernel
theorem d93_11 : fet 93 11 = .ok (.ldc 100, 2) := by decide +kernel
theorem d93_13 : fet 93 13 = .ok (.ireturn, 1) := by decide +kernel
theorem d93_14 : fet 93 14 = .ok (.aload_n 0, 1) := by decide +kernel
theorem d93_15 : fet 93 15 = .ok (.getfield 19, 3) := by decide +kernel
theorem d93_18 : fet 93 18 = .ok (.iload_n 1, 1) := by decide +kernel
theorem d93_19 : fet 93 19 = .ok (.invokevirtual 139, 3) := by decide +kernel
theorem d93_22 : fet 93 22 = .ok (.ifCond .eq 13, 3) := by decide +kernel
theorem d93_25 : fet 93 25 = .ok (.aload_n 0, 1) := by decide +kernel
theorem d93_26 : fet 93 26 = .ok (.getfield 19, 3) := by decide +kernel
theorem d93_29 : fet 93 29 = .ok (.getfield 142, 3) := by decide +kernel
theorem d93_32 : fet 93 32 = .ok (.goto 5, 3) := by decide +kernel
theorem d93_35 : fet 93 35 = .ok (.ldc 145, 2) := by decide +kernel
theorem d93_37 : fet 93 37 = .ok (.ireturn, 1) := by decide +kernel
theorem o94 : own 94 = RX11 := by decide +kernel
theorem d94_0 : fet 94 0 = .ok (.aload_n 0, 1) := by decide +kernel
theorem d94_1 : fet 94 1 = .ok (.getfield 19, 3) := by decide +kernel
theorem d94_4 : fet 94 4 = .ok (.aload_n 0, 1) := by decide +kernel
theorem d94_5 : fet 94 5 = .ok (.getfield 56, 3) := by decide +kernel
theorem d94_8 : fet 94 8 = .ok (.invokevirtual 146, 3) := by decide +kernel
theorem d94_11 : fet 94 11 = .ok (.istore_n 1, 1) := by decide +kernel
theorem d94_12 : fet 94 12 = .ok (.aload_n 0, 1) := by decide +kernel
theorem d94_13 : fet 94 13 = .ok (.getfield 19, 3) := by decide +kernel
theorem d94_16 : fet 94 16 = .ok (.iconst 0, 1) := by decide +kernel
theorem d94_17 : fet 94 17 = .ok (.putfield 142, 3) := by decide +kernel
theorem d94_20 : fet 94 20 = .ok (.iload_n 1, 1) := by decide +kernel
theorem d94_21 : fet 94 21 = .ok (.ifCond .ne 14, 3) := by decide +kernel
theorem d94_24 : fet 94 24 = .ok (.ldc 150, 2) := by decide +kernel
theorem d94_26 : fet 94 26 = .ok (.aload_n 0, 1) := by decide +kernel
theorem d94_27 : fet 94 27 = .ok (.getfield 19, 3) := by decide +kernel
theorem d94_30 : fet 94 30 = .ok (.getfield 151, 3) := by decide +kernel
theorem d94_33 : fet 94 33 = .ok (.isub, 1) := by decide +kernel
theorem d94_34 : fet 94 34 = .ok (.ireturn, 1) := by decide +kernel
theorem d94_35 : fet 94 35 = .ok (.aload_n 0, 1) := by decide +kernel
theorem d94_36 : fet 94 36 = .ok (.getfield 56, 3) := by decide +kernel
theorem d94_39 : fet 94 39 = .ok (.astore_n 2, 1) := by decide +kernel
theorem d94_40 : fet 94 40 = .ok (.aload_n 0, 1) := by decide +kernel
theorem d94_41 : fet 94 41 = .ok (.aload_n 0, 1) := by decide +kernel
theorem d94_42 : fet 94 42 = .ok (.getfield 52, 3) := by decide +kernel
theorem d94_45 : fet 94 45 = .ok (.putfield 56, 3) := by decide +kernel
theorem d94_48 : fet 94 48 = .ok (.aload_n 0, 1) := by decide +kernel
theorem d94_49 : fet 94 49 = .ok (.aload_n 2, 1) := by decide +kernel
theorem d94_50 : fet 94 50 = .ok (.putfield 52, 3) := by decide +kernel
theorem d94_53 : fet 94 53 = .ok (.aload_n 0, 1) := by decide +kernel
theorem d94_54 : fet 94 54 = .ok (.iconst 1, 1) := by decide +kernel
theorem d94_55 : fet 94 55 = .ok (.putfield 154, 3) := by decide +kernel
theorem d94_58 : fet 94 58 = .ok (.aload_n 0, 1) := by decide +kernel
theorem d94_59 : fet 94 59 = .ok (.iconst 0, 1) := by decide +kernel
theorem d94_60 : fet 94 60 = .ok (.putfield 158, 3) := by decide +kernel
theorem d94_63 : fet 94 63 = .ok (.aload_n 0, 1) := by decide +kernel
theorem d94_64 : fet 94 64 = .ok (.getfield 52, 3) := by decide +kernel
theorem d94_67 : fet 94 67 = .ok (.getfield 161, 3) := by decide +kernel
theorem d94_70 : fet 94 70 = .ok (.ireturn, 1) := by decide +kernel
theorem o95 : own 95 = RX11 := by decide +kernel
theorem d95_0 : fet 95 0 = .ok (.aload_n 0, 1) := by decide +kernel
theorem d95_1 : fet 95 1 = .ok (.getfield 19, 3) := by decide +kernel
theorem d95_4 : fet 95 4 = .ok (.getfield 164, 3) := by decide +kernel
theorem d95_7 : fet 95 7 = .ok (.ireturn, 1) := by decide +kernel
theorem o96 : own 96 = RX11 := by decide +kernel
theorem d96_0 : fet 96 0 = .ok (.aload_n 0, 1) := by decide +kernel
theorem d96_1 : fet 96 1 = .ok (.getfield 154, 3) := by decide +kernel
theorem d96_4 : fet 96 4 = .ok (.ifCond .ne 6, 3) := by decide +kernel
theorem d96_7 : fet 96 7 = .ok (.ldc 167, 2) := by decide +kernel
theorem d96_9 : fet 96 9 = .ok (.ireturn, 1) := by decide +kernel
theorem d96_10 : fet 96 10 = .ok (.iload_n 1, 1) := by decide +kernel
theorem d96_11 : fet 96 11 = .ok (.iconst 1, 1) := by decide +kernel
theorem d96_12 : fet 96 12 = .ok (.if_icmp .lt 9, 3) := by decide +kernel
theorem d96_15 : fet 96 15 = .ok (.iload_n 1, 1) := by decide +kernel
theorem d96_16 : fet 96 16 = .ok (.bipush 24, 2) := by decide +kernel
theorem d96_18 : fet 96 18 = .ok (.if_icmp .le 6, 3) := by decide +kernel
theorem d96_21 : fet 96 21 = .ok (.ldc 100, 2) := by decide +kernel
theorem d96_23 : fet 96 23 = .ok (.ireturn, 1) := by decide +kernel
theorem d96_24 : fet 96 24 = .ok (.aload_n 0, 1) := by decide +kernel
theorem d96_25 : fet 96 25 = .ok (.getfield 52, 3) := by decide +kernel
theorem d96_28 : fet 96 28 = .ok (.getfield 168, 3) := by decide +kernel
theorem d96_31 : fet 96 31 = .ok (.iload_n 1, 1) := by decide +kernel
theorem d96_32 : fet 96 32 = .ok (.iadd, 1) := by decide +kernel
theorem d96_33 : fet 96 33 = .ok (.sipush 400, 3) := by decide +kernel
theorem d96_36 : fet 96 36 = .ok (.if_icmp .le 6, 3) := by decide +kernel
theorem d96_39 : fet 96 39 = .ok (.ldc 145, 2) := by decide +kernel
theorem d96_41 : fet 96 41 = .ok (.ireturn, 1) := by decide +kernel
theorem d96_42 : fet 96 42 = .ok (.iconst 0, 1) := by decide +kernel
theorem d96_43 : fet 96 43 = .ok (.istore_n 2, 1) := by decide +kernel
theorem d96_44 : fet 96 44 = .ok (.iload_n 2, 1) := by decide +kernel
theorem d96_45 : fet 96 45 = .ok (.iload_n 1, 1) := by decide +kernel
theorem d96_46 : fet 96 46 = .ok (.if_icmp .ge 20, 3) := by decide +kernel
theorem d96_49 : fet 96 49 = .ok (.aload_n 0, 1) := by decide +kernel
theorem d96_50 : fet 96 50 = .ok (.invokevirtual 171, 3) := by decide +kernel
theorem d96_53 : fet 96 53 = .ok (.aload_n 0, 1) := by decide +kernel
theorem d96_54 : fet 96 54 = .ok (.getfield 52, 3) := by decide +kernel
theorem d96_57 : fet 96 57 = .ok (.invokevirtual 174, 3) := by decide +kernel
theorem d96_60 : fet 96 60 = .ok (.iinc 2 1, 3) := by decide +kernel
theorem d96_63 : fet 96 63 = .ok (.goto (-19), 3) := by decide +kernel
theorem d96_66 : fet 96 66 = .ok (.aload_n 0, 1) := by decide +kernel
theorem d96_67 : fet 96 67 = .ok (.getfield 52, 3) := by decide +kernel
theorem d96_70 : fet 96 70 = .ok (.getfield 168, 3) := by decide +kernel
theorem d96_73 : fet 96 73 = .ok (.ireturn, 1) := by decide +kernel
theorem o97 : own 97 = RX11 := by decide +kernel
theorem d97_0 : fet 97 0 = .ok (.aload_n 0, 1) := by decide +kernel
theorem d97_1 : fet 97 1 = .ok (.getfield 52, 3) := by decide +kernel
theorem d97_4 : fet 97 4 = .ok (.iload_n 1, 1) := by decide +kernel
theorem d97_5 : fet 97 5 = .ok (.invokevirtual 177, 3) := by decide +kernel
theorem d97_8 : fet 97 8 = .ok (.astore_n 2, 1) := by decide +kernel
theorem d97_9 : fet 97 9 = .ok (.aload_n 2, 1) := by decide +kernel
theorem d97_10 : fet 97 10 = .ok (.ifnonnull 6, 3) := by decide +kernel
theorem d97_13 : fet 97 13 = .ok (.ldc 100, 2) := by decide +kernel
theorem d97_15 : fet 97 15 = .ok (.ireturn, 1) := by decide +kernel
theorem d97_16 : fet 97 16 = .ok (.aload_n 2, 1) := by decide +kernel
theorem d97_17 : fet 97 17 = .ok (.invokevirtual 181, 3) := by decide +kernel
theorem d97_20 : fet 97 20 = .ok (.ifCond .eq 6, 3) := by decide +kernel
theorem d97_23 : fet 97 23 = .ok (.ldc 167, 2) := by decide +kernel
theorem d97_25 : fet 97 25 = .ok (.ireturn, 1) := by decide +kernel
theorem d97_26 : fet 97 26 = .ok (.aload_n 0, 1) := by decide +kernel
theorem d97_27 : fet 97 27 = .ok (.invokevirtual 171, 3) := by decide +kernel
theorem d97_30 : fet 97 30 = .ok (.aload_n 2, 1) := by decide +kernel
theorem d97_31 : fet 97 31 = .ok (.invokevirtual 185, 3) := by decide +kernel
theorem d97_34 : fet 97 34 = .ok (.aload_n 2, 1) := by decide +kernel
theorem d97_35 : fet 97 35 = .ok (.getfield 188, 3) := by decide +kernel
theorem d97_38 : fet 97 38 = .ok (.ireturn, 1) := by decide +kernel
theorem o98 : own 98 = RX11 := by decide +kernel
theorem d98_0 : fet 98 0 = .ok (.aload_n 0, 1) := by decide +kernel
theorem d98_1 : fet 98 1 = .ok (.getfield 52, 3) := by decide +kernel
theorem d98_4 : fet 98 4 = .ok (.iload_n 1, 1) := by decide +kernel
theorem d98_5 : fet 98 5 = .ok (.invokevirtual 177, 3) := by decide +kernel
theorem d98_8 : fet 98 8 = .ok (.astore_n 3, 1) := by decide +kernel
theorem d98_9 : fet 98 9 = .ok (.aload_n 3, 1) := by decide +kernel
theorem d98_10 : fet 98 10 = .ok (.ifnull 13, 3) := by decide +kernel
theorem d98_13 : fet 98 13 = .ok (.iload_n 2, 1) := by decide +kernel
theorem d98_14 : fet 98 14 = .ok (.ifCond .lt 9, 3) := by decide +kernel
theorem d98_17 : fet 98 17 = .ok (.iload_n 2, 1) := by decide +kernel
theorem d98_18 : fet 98 18 = .ok (.bipush 12, 2) := by decide +kernel
theorem d98_20 : fet 98 20 = .ok (.if_icmp .le 6, 3) := by decide +kernel
theorem d98_23 : fet 98 23 = .ok (.ldc 100, 2) := by decide +kernel
theorem d98_25 : fet 98 25 = .ok (.ireturn, 1) := by decide +kernel
theorem d98_26 : fet 98 26 = .ok (.aload_n 3, 1) := by decide +kernel
theorem d98_27 : fet 98 27 = .ok (.invokevirtual 181, 3) := by decide +kernel
theorem d98_30 : fet 98 30 = .ok (.ifCond .ne 15, 3) := by decide +kernel
theorem d98_33 : fet 98 33 = .ok (.aload_n 0, 1) := by decide +kernel
theorem d98_34 : fet 98 34 = .ok (.getfield 52, 3) := by decide +kernel
theorem d98_37 : fet 98 37 = .ok (.aload_n 3, 1) := by decide +kernel
theorem d98_38 : fet 98 38 = .ok (.iload_n 2, 1) := by decide +kernel
theorem d98_39 : fet 98 39 = .ok (.invokevirtual 191, 3) := by decide +kernel
theorem d98_42 : fet 98 42 = .ok (.ifCond .ne 6, 3) := by decide +kernel
theorem d98_45 : fet 98 45 = .ok (.ldc 167, 2) := by decide +kernel
theorem d98_47 : fet 98 47 = .ok (.ireturn, 1) := by decide +kernel
theorem d98_48 : fet 98 48 = .ok (.aload_n 0, 1) := by decide +kernel
theorem d98_49 : fet 98 49 = .ok (.invokevirtual 171, 3) := by decide +kernel
theorem d98_52 : fet 98 52 = .ok (.aload_n 3, 1) := by decide +kernel
theorem d98_53 : fet 98 53 = .ok (.getfield 195, 3) := by decide +kernel
theorem d98_56 : fet 98 56 = .ok (.istore 4, 2) := by decide +kernel
theorem d98_58 : fet 98 58 = .ok (.aload_n 3, 1) := by decide +kernel
theorem d98_59 : fet 98 59 = .ok (.iload_n 2, 1) := by decide +kernel
theorem d98_60 : fet 98 60 = .ok (.putfield 195, 3) := by decide +kernel
theorem d98_63 : fet 98 63 = .ok (.iload 4, 2) := by decide +kernel
theorem d98_65 : fet 98 65 = .ok (.ireturn, 1) := by decide +kernel
theorem o99 : own 99 = RX11 := by decide +kernel
theorem d99_0 : fet 99 0 = .ok (.aload_n 0, 1) := by decide +kernel
theorem d99_1 : fet 99 1 = .ok (.getfield 154, 3) := by decide +kernel
theorem d99_4 : fet 99 4 = .ok (.ifCond .ne 6, 3) := by decide +kernel
theorem d99_7 : fet 99 7 = .ok (.ldc 167, 2) := by decide +kernel
theorem d99_9 : fet 99 9 = .ok (.ireturn, 1) := by decide +kernel
theorem d99_10 : fet 99 10 = .ok (.iload_n 1, 1) := by decide +kernel
theorem d99_11 : fet 99 11 = .ok (.invokestatic 198, 3) := by decide +kernel
theorem d99_14 : fet 99 14 = .ok (.ifCond .eq 14, 3) := by decide +kernel
theorem d99_17 : fet 99 17 = .ok (.iload_n 2, 1) := by decide +kernel
theorem d99_18 : fet 99 18 = .ok (.iconst 1, 1) := by decide +kernel
theorem d99_19 : fet 99 19 = .ok (.if_icmp .lt 9, 3) := by decide +kernel
theorem d99_22 : fet 99 22 = .ok (.iload_n 2, 1) := by decide +kernel
theorem d99_23 : fet 99 23 = .ok (.bipush 30, 2) := by decide +kernel
theorem d99_25 : fet 99 25 = .ok (.if_icmp .le 6, 3) := by decide +kernel
theorem d99_28 : fet 99 28 = .ok (.ldc 100, 2) := by decide +kernel
theorem d99_30 : fet 99 30 = .ok (.ireturn, 1) := by decide +kernel
theorem d99_31 : fet 99 31 = .ok (.aload_n 0, 1) := by decide +kernel
theorem d99_32 : fet 99 32 = .ok (.getfield 52, 3) := by decide +kernel
theorem d99_35 : fet 99 35 = .ok (.getfield 201, 3) := by decide +kernel
theorem d99_38 : fet 99 38 = .ok (.bipush 8, 2) := by decide +kernel
theorem d99_40 : fet 99 40 = .ok (.if_icmp .lt 6, 3) := by decide +kernel
theorem d99_43 : fet 99 43 = .ok (.ldc 145, 2) := by decide +kernel
theorem d99_45 : fet 99 45 = .ok (.ireturn, 1) := by decide +kernel
theorem d99_46 : fet 99 46 = .ok (.aload_n 0, 1) := by decide +kernel
theorem d99_47 : fet 99 47 = .ok (.invokevirtual 171, 3) := by decide +kernel
theorem d99_50 : fet 99 50 = .ok (.aload_n 0, 1) := by decide +kernel
theorem d99_51 : fet 99 51 = .ok (.getfield 52, 3) := by decide +kernel
theorem d99_54 : fet 99 54 = .ok (.iload_n 1, 1) := by decide +kernel
theorem d99_55 : fet 99 55 = .ok (.iload_n 2, 1) := by decide +kernel
theorem d99_56 : fet 99 56 = .ok (.iconst 2, 1) := by decide +kernel
theorem d99_57 : fet 99 57 = .ok (.invokevirtual 204, 3) := by decide +kernel
theorem d99_60 : fet 99 60 = .ok (.aload_n 0, 1) := by decide +kernel
theorem d99_61 : fet 99 61 = .ok (.getfield 52, 3) := by decide +kernel
theorem d99_64 : fet 99 64 = .ok (.getfield 201, 3) := by decide +kernel
theorem d99_67 : fet 99 67 = .ok (.ireturn, 1) := by decide +kernel
theorem o100 : own 100 = RX11 := by decide +kernel
theorem d100_0 : fet 100 0 = .ok (.aload_n 0, 1) := by decide +kernel
theorem d100_1 : fet 100 1 = .ok (.getfield 154, 3) := by decide +kernel
theorem d100_4 : fet 100 4 = .ok (.ifCond .ne 6, 3) := by decide +kernel
theorem d100_7 : fet 100 7 = .ok (.ldc 167, 2) := by decide +kernel
theorem d100_9 : fet 100 9 = .ok (.ireturn, 1) := by decide +kernel
theorem d100_10 : fet 100 10 = .ok (.aload_n 0, 1) := by decide +kernel
theorem d100_11 : fet 100 11 = .ok (.invokevirtual 171, 3) := by decide +kernel
theorem d100_14 : fet 100 14 = .ok (.aload_n 0, 1) := by decide +kernel
theorem d100_15 : fet 100 15 = .ok (.getfield 52, 3) := by decide +kernel
theorem d100_18 : fet 100 18 = .ok (.invokevirtual 207, 3) := by decide +kernel
theorem d100_21 : fet 100 21 = .ok (.ireturn, 1) := by decide +kernel
theorem o101 : own 101 = RX11 := by decide +kernel
theorem d101_0 : fet 101 0 = .ok (.aload_n 0, 1) := by decide +kernel
theorem d101_1 : fet 101 1 = .ok (.getfield 52, 3) := by decide +kernel
theorem d101_4 : fet 101 4 = .ok (.iload_n 1, 1) := by decide +kernel
theorem d101_5 : fet 101 5 = .ok (.invokevirtual 177, 3) := by decide +kernel
theorem d101_8 : fet 101 8 = .ok (.astore_n 3, 1) := by decide +kernel
theorem d101_9 : fet 101 9 = .ok (.aload_n 3, 1) := by decide +kernel
theorem d101_10 : fet 101 10 = .ok (.ifnull 14, 3) := by decide +kernel
theorem d101_13 : fet 101 13 = .ok (.aload_n 0, 1) := by decide +kernel
theorem d101_14 : fet 101 14 = .ok (.getfield 52, 3) := by decide +kernel
theorem d101_17 : fet 101 17 = .ok (.iload_n 2, 1) := by decide +kernel
theorem d101_18 : fet 101 18 = .ok (.invokevirtual 211, 3) := by decide +kernel
theorem d101_21 : fet 101 21 = .ok (.ifCond .ne 6, 3) := by decide +kernel
theorem d101_24 : fet 101 24 = .ok (.ldc 100, 2) := by decide +kernel
theorem d101_26 : fet 101 26 = .ok (.ireturn, 1) := by decide +kernel
theorem d101_27 : fet 101 27 = .ok (.aload_n 3, 1) := by decide +kernel
theorem d101_28 : fet 101 28 = .ok (.invokevirtual 181, 3) := by decide +kernel
theorem d101_31 : fet 101 31 = .ok (.ifCond .ne 23, 3) := by decide +kernel
theorem d101_34 : fet 101 34 = .ok (.aload_n 3, 1) := by decide +kernel
theorem d101_35 : fet 101 35 = .ok (.invokevirtual 214, 3) := by decide +kernel
theorem d101_38 : fet 101 38 = .ok (.ifCond .eq 16, 3) := by decide +kernel
theorem d101_41 : fet 101 41 = .ok (.aload_n 0, 1) := by decide +kernel
theorem d101_42 : fet 101 42 = .ok (.getfield 52, 3) := by decide +kernel
theorem d101_45 : fet 101 45 = .ok (.iload_n 2, 1) := by decide +kernel
theorem d101_46 : fet 101 46 = .ok (.aload_n 3, 1) := by decide +kernel
theorem d101_47 : fet 101 47 = .ok (.iconst 0, 1) := by decide +kernel
theorem d101_48 : fet 101 48 = .ok (.invokevirtual 217, 3) := by decide +kernel
theorem d101_51 : fet 101 51 = .ok (.ifCond .ne 6, 3) := by decide +kernel
theorem d101_54 : fet 101 54 = .ok (.ldc 167, 2) := by decide +kernel
theorem d101_56 : fet 101 56 = .ok (.ireturn, 1) := by decide +kernel
theorem d101_57 : fet 101 57 = .ok (.aload_n 0, 1) := by decide +kernel
theorem d101_58 : fet 101 58 = .ok (.invokevirtual 171, 3) := by decide +kernel
theorem d101_61 : fet 101 61 = .ok (.aload_n 3, 1) := by decide +kernel
theorem d101_62 : fet 101 62 = .ok (.bipush 13, 2) := by decide +kernel
theorem d101_64 : fet 101 64 = .ok (.putfield 195, 3) := by decide +kernel
theorem d101_67 : fet 101 67 = .ok (.aload_n 0, 1) := by decide +kernel
theorem d101_68 : fet 101 68 = .ok (.getfield 52, 3) := by decide +kernel
theorem d101_71 : fet 101 71 = .ok (.getfield 221, 3) := by decide +kernel
theorem d101_74 : fet 101 74 = .ok (.iload_n 2, 1) := by decide +kernel
theorem d101_75 : fet 101 75 = .ok (.iload_n 1, 1) := by decide +kernel
theorem d101_76 : fet 101 76 = .ok (.iastore, 1) := by decide +kernel
theorem d101_77 : fet 101 77 = .ok (.aload_n 0, 1) := by decide +kernel
theorem d101_78 : fet 101 78 = .ok (.getfield 52, 3) := by decide +kernel
theorem d101_81 : fet 101 81 = .ok (.invokevirtual 224, 3) := by decide +kernel
theorem d101_84 : fet 101 84 = .ok (.ireturn, 1) := by decide +kernel
theorem o102 : own 102 = RX11 := by decide +kernel
theorem d102_0 : fet 102 0 = .ok (.aload_n 0, 1) := by decide +kernel
theorem d102_1 : fet 102 1 = .ok (.getfield 158, 3) := by decide +kernel
theorem d102_4 : fet 102 4 = .ok (.ifCond .ne 6, 3) := by decide +kernel
theorem d102_7 : fet 102 7 = .ok (.ldc 167, 2) := by decide +kernel
theorem d102_9 : fet 102 9 = .ok (.ireturn, 1) := by decide +kernel
theorem d102_10 : fet 102 10 = .ok (.aload_n 0, 1) := by decide +kernel
theorem d102_11 : fet 102 11 = .ok (.dup, 1) := by decide +kernel
theorem d102_12 : fet 102 12 = .ok (.getfield 158, 3) := by decide +kernel
theorem d102_15 : fet 102 15 = .ok (.iconst 1, 1) := by decide +kernel
theorem d102_16 : fet 102 16 = .ok (.isub, 1) := by decide +kernel
theorem d102_17 : fet 102 17 = .ok (.putfield 158, 3) := by decide +kernel
theorem d102_20 : fet 102 20 = .ok (.aload_n 0, 1) := by decide +kernel
theorem d102_21 : fet 102 21 = .ok (.aload_n 0, 1) := by decide +kernel
theorem d102_22 : fet 102 22 = .ok (.getfield 227, 3) := by decide +kernel
theorem d102_25 : fet 102 25 = .ok (.bipush 24, 2) := by decide +kernel
theorem d102_27 : fet 102 27 = .ok (.iadd, 1) := by decide +kernel
theorem d102_28 : fet 102 28 = .ok (.iconst 1, 1) := by decide +kernel
theorem d102_29 : fet 102 29 = .ok (.isub, 1) := by decide +kernel
theorem d102_30 : fet 102 30 = .ok (.bipush 24, 2) := by decide +kernel
theorem d102_32 : fet 102 32 = .ok (.irem, 1) := by decide +kernel
theorem d102_33 : fet 102 33 = .ok (.putfield 227, 3) := by decide +kernel
theorem d102_36 : fet 102 36 = .ok (.aload_n 0, 1) := by decide +kernel
theorem d102_37 : fet 102 37 = .ok (.getfield 52, 3) := by decide +kernel
theorem d102_40 : fet 102 40 = .ok (.aload_n 0, 1) := by decide +kernel
theorem d102_41 : fet 102 41 = .ok (.getfield 59, 3) := by decide +kernel
theorem d102_44 : fet 102 44 = .ok (.aload_n 0, 1) := by decide +kernel
theorem d102_45 : fet 102 45 = .ok (.getfield 227, 3) := by decide +kernel
theorem d102_48 : fet 102 48 = .ok (.bipush 84, 2) := by decide +kernel
theorem d102_50 : fet 102 50 = .ok (.imul, 1) := by decide +kernel
theorem d102_51 : fet 102 51 = .ok (.invokevirtual 230, 3) := by decide +kernel
theorem d102_54 : fet 102 54 = .ok (.aload_n 0, 1) := by decide +kernel
theorem d102_55 : fet 102 55 = .ok (.getfield 158, 3) := by decide +kernel
theorem d102_58 : fet 102 58 = .ok (.ireturn, 1) := by decide +kernel
theorem o103 : own 103 = RX11 := by decide +kernel
theorem d103_0 : fet 103 0 = .ok (.aload_n 0, 1) := by decide +kernel
theorem d103_1 : fet 103 1 = .ok (.getfield 52, 3) := by decide +kernel
theorem d103_4 : fet 103 4 = .ok (.aload_n 0, 1) := by decide +kernel
theorem d103_5 : fet 103 5 = .ok (.getfield 59, 3) := by decide +kernel
theorem d103_8 : fet 103 8 = .ok (.aload_n 0, 1) := by decide +kernel
theorem d103_9 : fet 103 9 = .ok (.getfield 227, 3) := by decide +kernel
theorem d103_12 : fet 103 12 = .ok (.bipush 84, 2) := by decide +kernel
theorem d103_14 : fet 103 14 = .ok (.imul, 1) := by decide +kernel
theorem d103_15 : fet 103 15 = .ok (.invokevirtual 234, 3) := by decide +kernel
theorem d103_18 : fet 103 18 = .ok (.aload_n 0, 1) := by decide +kernel
theorem d103_19 : fet 103 19 = .ok (.aload_n 0, 1) := by decide +kernel
theorem d103_20 : fet 103 20 = .ok (.getfield 227, 3) := by decide +kernel
theorem d103_23 : fet 103 23 = .ok (.iconst 1, 1) := by decide +kernel
theorem d103_24 : fet 103 24 = .ok (.iadd, 1) := by decide +kernel
theorem d103_25 : fet 103 25 = .ok (.bipush 24, 2) := by decide +kernel
theorem d103_27 : fet 103 27 = .ok (.irem, 1) := by decide +kernel
theorem d103_28 : fet 103 28 = .ok (.putfield 227, 3) := by decide +kernel
theorem d103_31 : fet 103 31 = .ok (.aload_n 0, 1) := by decide +kernel
theorem d103_32 : fet 103 32 = .ok (.bipush 24, 2) := by decide +kernel
theorem d103_34 : fet 103 34 = .ok (.aload_n 0, 1) := by decide +kernel
theorem d103_35 : fet 103 35 = .ok (.getfield 158, 3) := by decide +kernel
theorem d103_38 : fet 103 38 = .ok (.iconst 1, 1) := by decide +kernel
theorem d103_39 : fet 103 39 = .ok (.iadd, 1) := by decide +kernel
theorem d103_40 : fet 103 40 = .ok (.invokestatic 237, 3) := by decide +kernel
theorem d103_43 : fet 103 43 = .ok (.putfield 158, 3) := by decide +kernel
theorem d103_46 : fet 103 46 = .ok (.return_, 1) := by decide +kernel
theorem o104 : own 104 = RX11 := by decide +kernel
theorem d104_0 : fet 104 0 = .ok (.aload_n 0, 1) := by decide +kernel
theorem d104_1 : fet 104 1 = .ok (.getfield 52, 3) := by decide +kernel
theorem d104_4 : fet 104 4 = .ok (.iload_n 1, 1) := by decide +kernel
theorem d104_5 : fet 104 5 = .ok (.invokevirtual 177, 3) := by decide +kernel
theorem d104_8 : fet 104 8 = .ok (.astore_n 3, 1) := by decide +kernel
theorem d104_9 : fet 104 9 = .ok (.aload_n 3, 1) := by decide +kernel
theorem d104_10 : fet 104 10 = .ok (.ifnonnull 6, 3) := by decide +kernel
theorem d104_13 : fet 104 13 = .ok (.ldc 100, 2) := by decide +kernel
theorem d104_15 : fet 104 15 = .ok (.ireturn, 1) := by decide +kernel
theorem d104_16 : fet 104 16 = .ok (.iload_n 2, 1) := by decide +kernel
theorem d104_17 : fet 104 17 = .ok (.tableswitch 98 0 6 #[43, 60, 65, 71, 77, 82, 90], 43) := by decide +kernel
theorem d104_60 : fet 104 60 = .ok (.aload_n 3, 1) := by decide +kernel
theorem d104_61 : fet 104 61 = .ok (.invokevirtual 181, 3) := by decide +kernel
theorem d104_64 : fet 104 64 = .ok (.ifCond .eq 8, 3) := by decide +kernel
theorem d104_67 : fet 104 67 = .ok (.ldc 243, 2) := by decide +kernel
theorem d104_69 : fet 104 69 = .ok (.goto 7, 3) := by decide +kernel
theorem d104_72 : fet 104 72 = .ok (.aload_n 3, 1) := by decide +kernel
theorem d104_73 : fet 104 73 = .ok (.getfield 195, 3) := by decide +kernel
theorem d104_76 : fet 104 76 = .ok (.ireturn, 1) := by decide +kernel
theorem d104_77 : fet 104 77 = .ok (.aload_n 3, 1) := by decide +kernel
theorem d104_78 : fet 104 78 = .ok (.getfield 244, 3) := by decide +kernel
theorem d104_81 : fet 104 81 = .ok (.ireturn, 1) := by decide +kernel
theorem d104_82 : fet 104 82 = .ok (.aload_n 3, 1) := by decide +kernel
theorem d104_83 : fet 104 83 = .ok (.iconst 0, 1) := by decide +kernel
theorem d104_84 : fet 104 84 = .ok (.invokevirtual 247, 3) := by decide +kernel
theorem d104_87 : fet 104 87 = .ok (.ireturn, 1) := by decide +kernel
theorem d104_88 : fet 104 88 = .ok (.aload_n 3, 1) := by decide +kernel
theorem d104_89 : fet 104 89 = .ok (.iconst 1, 1) := by decide +kernel
theorem d104_90 : fet 104 90 = .ok (.invokevirtual 247, 3) := by decide +kernel
theorem d104_93 : fet 104 93 = .ok (.ireturn, 1) := by decide +kernel
theorem d104_94 : fet 104 94 = .ok (.aload_n 3, 1) := by decide +kernel
theorem d104_95 : fet 104 95 = .ok (.getfield 188, 3) := by decide +kernel
theorem d104_98 : fet 104 98 = .ok (.ireturn, 1) := by decide +kernel
theorem d104_99 : fet 104 99 = .ok (.aload_n 3, 1) := by decide +kernel
theorem d104_100 : fet 104 100 = .ok (.getfield 250, 3) := by decide +kernel
theorem d104_103 : fet 104 103 = .ok (.invokestatic 253, 3) := by decide +kernel
theorem d104_106 : fet 104 106 = .ok (.ireturn, 1) := by decide +kernel
theorem d104_107 : fet 104 107 = .ok (.aload_n 3, 1) := by decide +kernel
theorem d104_108 : fet 104 108 = .ok (.invokevirtual 257, 3) := by decide +kernel
theorem d104_111 : fet 104 111 = .ok (.invokestatic 253, 3) := by decide +kernel
theorem d104_114 : fet 104 114 = .ok (.ireturn, 1) := by decide +kernel
theorem d104_115 : fet 104 115 = .ok (.ldc 100, 2) := by decide +kernel
theorem d104_117 : fet 104 117 = .ok (.ireturn, 1) := by decide +kernel
theorem o105 : own 105 = RX11 := by decide +kernel
theorem d105_0 : fet 105 0 = .ok (.aload_n 0, 1) := by decide +kernel
theorem d105_1 : fet 105 1 = .ok (.getfield 52, 3) := by decide +kernel
theorem d105_4 : fet 105 4 = .ok (.iload_n 1, 1) := by decide +kernel
theorem d105_5 : fet 105 5 = .ok (.invokevirtual 211, 3) := by decide +kernel
theorem d105_8 : fet 105 8 = .ok (.ifCond .ne 6, 3) := by decide +kernel
theorem d105_11 : fet 105 11 = .ok (.ldc 100, 2) := by decide +kernel
theorem d105_13 : fet 105 13 = .ok (.ireturn, 1) := by decide +kernel
theorem d105_14 : fet 105 14 = .ok (.iload_n 2, 1) := by decide +kernel
theorem d105_15 : fet 105 15 = .ok (.tableswitch 55 0 2 #[25, 35, 45], 25) := by decide +kernel
theorem d105_40 : fet 105 40 = .ok (.aload_n 0, 1) := by decide +kernel
theorem d105_41 : fet 105 41 = .ok (.getfield 52, 3) := by decide +kernel
theorem d105_44 : fet 105 44 = .ok (.getfield 260, 3) := by decide +kernel
theorem d105_47 : fet 105 47 = .ok (.iload_n 1, 1) := by decide +kernel
theorem d105_48 : fet 105 48 = .ok (.iaload, 1) := by decide +kernel
theorem d105_49 : fet 105 49 = .ok (.ireturn, 1) := by decide +kernel
theorem d105_50 : fet 105 50 = .ok (.aload_n 0, 1) := by decide +kernel
theorem d105_51 : fet 105 51 = .ok (.getfield 52, 3) := by decide +kernel
theorem d105_54 : fet 105 54 = .ok (.getfield 263, 3) := by decide +kernel
theorem d105_57 : fet 105 57 = .ok (.iload_n 1, 1) := by decide +kernel
theorem d105_58 : fet 105 58 = .ok (.iaload, 1) := by decide +kernel
theorem d105_59 : fet 105 59 = .ok (.ireturn, 1) := by decide +kernel
theorem d105_60 : fet 105 60 = .ok (.aload_n 0, 1) := by decide +kernel
theorem d105_61 : fet 105 61 = .ok (.getfield 52, 3) := by decide +kernel
theorem d105_64 : fet 105 64 = .ok (.getfield 221, 3) := by decide +kernel
theorem d105_67 : fet 105 67 = .ok (.iload_n 1, 1) := by decide +kernel
theorem d105_68 : fet 105 68 = .ok (.iaload, 1) := by decide +kernel
theorem d105_69 : fet 105 69 = .ok (.ireturn, 1) := by decide +kernel
theorem d105_70 : fet 105 70 = .ok (.ldc 100, 2) := by decide +kernel
theorem d105_72 : fet 105 72 = .ok (.ireturn, 1) := by decide +kernel
theorem o106 : own 106 = RX11 := by decide +kernel
theorem d106_0 : fet 106 0 = .ok (.iload_n 1, 1) := by decide +kernel
theorem d106_1 : fet 106 1 = .ok (.ifCond .lt 14, 3) := by decide +kernel
theorem d106_4 : fet 106 4 = .ok (.iload_n 1, 1) := by decide +kernel
theorem d106_5 : fet 106 5 = .ok (.aload_n 0, 1) := by decide +kernel
theorem d106_6 : fet 106 6 = .ok (.getfield 52, 3) := by decide +kernel
theorem d106_9 : fet 106 9 = .ok (.getfield 201, 3) := by decide +kernel
theorem d106_12 : fet 106 12 = .ok (.if_icmp .lt 6, 3) := by decide +kernel
theorem d106_15 : fet 106 15 = .ok (.ldc 100, 2) := by decide +kernel
theorem d106_17 : fet 106 17 = .ok (.ireturn, 1) := by decide +kernel
theorem d106_18 : fet 106 18 = .ok (.iload_n 2, 1) := by decide +kernel
theorem d106_19 : fet 106 19 = .ok (.tableswitch 55 0 2 #[25, 35, 45], 25) := by decide +kernel
theorem d106_44 : fet 106 44 = .ok (.aload_n 0, 1) := by decide +kernel
theorem d106_45 : fet 106 45 = .ok (.getfield 52, 3) := by decide +kernel
theorem d106_48 : fet 106 48 = .ok (.getfield 266, 3) := by decide +kernel
theorem d106_51 : fet 106 51 = .ok (.iload_n 1, 1) := by decide +kernel
theorem d106_52 : fet 106 52 = .ok (.iaload, 1) := by decide +kernel
theorem d106_53 : fet 106 53 = .ok (.ireturn, 1) := by decide +kernel
theorem d106_54 : fet 106 54 = .ok (.aload_n 0, 1) := by decide +kernel
theorem d106_55 : fet 106 55 = .ok (.getfield 52, 3) := by decide +kernel
theorem d106_58 : fet 106 58 = .ok (.getfield 269, 3) := by decide +kernel
theorem d106_61 : fet 106 61 = .ok (.iload_n 1, 1) := by decide +kernel
theorem d106_62 : fet 106 62 = .ok (.iaload, 1) := by decide +kernel
theorem d106_63 : fet 106 63 = .ok (.ireturn, 1) := by decide +kernel
theorem d106_64 : fet 106 64 = .ok (.aload_n 0, 1) := by decide +kernel
theorem d106_65 : fet 106 65 = .ok (.getfield 52, 3) := by decide +kernel
theorem d106_68 : fet 106 68 = .ok (.getfield 272, 3) := by decide +kernel
theorem d106_71 : fet 106 71 = .ok (.iload_n 1, 1) := by decide +kernel
theorem d106_72 : fet 106 72 = .ok (.iaload, 1) := by decide +kernel
theorem d106_73 : fet 106 73 = .ok (.ireturn, 1) := by decide +kernel
theorem d106_74 : fet 106 74 = .ok (.ldc 100, 2) := by decide +kernel
theorem d106_76 : fet 106 76 = .ok (.ireturn, 1) := by decide +kernel
theorem o107 : own 107 = RX11 := by decide +kernel
theorem d107_0 : fet 107 0 = .ok (.aload_n 0, 1) := by decide +kernel
theorem d107_1 : fet 107 1 = .ok (.iload_n 1, 1) := by decide +kernel
theorem d107_2 : fet 107 2 = .ok (.iconst 0, 1) := by decide +kernel
theorem d107_3 : fet 107 3 = .ok (.invokevirtual 275, 3) := by decide +kernel
theorem d107_6 : fet 107 6 = .ok (.ireturn, 1) := by decide +kernel
theorem o108 : own 108 = RX11 := by decide +kernel
theorem d108_0 : fet 108 0 = .ok (.iload_n 0, 1) := by decide +kernel
theorem d108_1 : fet 108 1 = .ok (.ifCond .eq 7, 3) := by decide +kernel
theorem d108_4 : fet 108 4 = .ok (.iconst 1, 1) := by decide +kernel
theorem d108_5 : fet 108 5 = .ok (.goto 4, 3) := by decide +kernel
theorem d108_8 : fet 108 8 = .ok (.iconst 0, 1) := by decide +kernel
theorem d108_9 : fet 108 9 = .ok (.ireturn, 1) := by decide +kernel
theorem o109 : own 109 = RX11 := by decide +kernel
theorem d109_0 : fet 109 0 = .ok (.iload_n 0, 1) := by decide +kernel
theorem d109_1 : fet 109 1 = .ok (.ifCond .lt 13, 3) := by decide +kernel
theorem d109_4 : fet 109 4 = .ok (.iload_n 0, 1) := by decide +kernel
theorem d109_5 : fet 109 5 = .ok (.bipush 12, 2) := by decide +kernel
theorem d109_7 : fet 109 7 = .ok (.if_icmp .ge 7, 3) := by decide +kernel
theorem d109_10 : fet 109 10 = .ok (.iconst 1, 1) := by decide +kernel
theorem d109_11 : fet 109 11 = .ok (.goto 4, 3) := by decide +kernel
theorem d109_14 : fet 109 14 = .ok (.iconst 0, 1) := by decide +kernel
theorem d109_15 : fet 109 15 = .ok (.ireturn, 1) := by decide +kernel
theorem o110 : own 110 = RX11 := by decide +kernel
theorem d110_0 : fet 110 0 = .ok (.aload_n 0, 1) := by decide +kernel
theorem d110_1 : fet 110 1 = .ok (.getfield 52, 3) := by decide +kernel
theorem d110_4 : fet 110 4 = .ok (.iload_n 1, 1) := by decide +kernel
theorem d110_5 : fet 110 5 = .ok (.invokevirtual 177, 3) := by decide +kernel
theorem d110_8 : fet 110 8 = .ok (.astore 4, 2) := by decide +kernel
theorem d110_10 : fet 110 10 = .ok (.aload 4, 2) := by decide +kernel
theorem d110_12 : fet 110 12 = .ok (.ifnull 20, 3) := by decide +kernel
theorem d110_15 : fet 110 15 = .ok (.iload_n 2, 1) := by decide +kernel
theorem d110_16 : fet 110 16 = .ok (.iconst 0, 1) := by decide +kernel
theorem d110_17 : fet 110 17 = .ok (.invokestatic 278, 3) := by decide +kernel
theorem d110_20 : fet 110 20 = .ok (.ifCond .eq 12, 3) := by decide +kernel
theorem d110_23 : fet 110 23 = .ok (.iload_n 3, 1) := by decide +kernel
theorem d110_24 : fet 110 24 = .ok (.ifCond .lt 8, 3) := by decide +kernel
theorem d110_27 : fet 110 27 = .ok (.iload_n 3, 1) := by decide +kernel
theorem d110_28 : fet 110 28 = .ok (.iconst 3, 1) := by decide +kernel
theorem d110_29 : fet 110 29 = .ok (.if_icmp .le 6, 3) := by decide +kernel
theorem d110_32 : fet 110 32 = .ok (.ldc 100, 2) := by decide +kernel
theorem d110_34 : fet 110 34 = .ok (.ireturn, 1) := by decide +kernel
theorem d110_35 : fet 110 35 = .ok (.aload 4, 2) := by decide +kernel
theorem d110_37 : fet 110 37 = .ok (.invokevirtual 181, 3) := by decide +kernel
theorem d110_40 : fet 110 40 = .ok (.ifCond .eq 6, 3) := by decide +kernel
theorem d110_43 : fet 110 43 = .ok (.ldc 167, 2) := by decide +kernel
theorem d110_45 : fet 110 45 = .ok (.ireturn, 1) := by decide +kernel
theorem d110_46 : fet 110 46 = .ok (.aload_n 0, 1) := by decide +kernel
theorem d110_47 : fet 110 47 = .ok (.aload 4, 2) := by decide +kernel
theorem d110_49 : fet 110 49 = .ok (.iload_n 2, 1) := by decide +kernel
theorem d110_50 : fet 110 50 = .ok (.invokevirtual 281, 3) := by decide +kernel
theorem d110_53 : fet 110 53 = .ok (.iload_n 3, 1) := by decide +kernel
theorem d110_54 : fet 110 54 = .ok (.tableswitch 50 0 2 #[26, 34, 42], 26) := by decide +kernel
theorem d110_80 : fet 110 80 = .ok (.aload_n 0, 1) := by decide +kernel
theorem d110_81 : fet 110 81 = .ok (.getfield 43, 3) := by decide +kernel
theorem d110_84 : fet 110 84 = .ok (.getfield 244, 3) := by decide +kernel
theorem d110_87 : fet 110 87 = .ok (.ireturn, 1) := by decide +kernel
theorem d110_88 : fet 110 88 = .ok (.aload_n 0, 1) := by decide +kernel
theorem d110_89 : fet 110 89 = .ok (.getfield 43, 3) := by decide +kernel
theorem d110_92 : fet 110 92 = .ok (.getfield 285, 3) := by decide +kernel
theorem d110_95 : fet 110 95 = .ok (.ireturn, 1) := by decide +kernel
theorem d110_96 : fet 110 96 = .ok (.aload_n 0, 1) := by decide +kernel
theorem d110_97 : fet 110 97 = .ok (.getfield 43, 3) := by decide +kernel
theorem d110_100 : fet 110 100 = .ok (.getfield 288, 3) := by decide +kernel
theorem d110_103 : fet 110 103 = .ok (.ireturn, 1) := by decide +kernel
theorem d110_104 : fet 110 104 = .ok (.aload_n 0, 1) := by decide +kernel
theorem d110_105 : fet 110 105 = .ok (.getfield 43, 3) := by decide +kernel
theorem d110_108 : fet 110 108 = .ok (.getfield 250, 3) := by decide +kernel
theorem d110_111 : fet 110 111 = .ok (.invokestatic 253, 3) := by decide +kernel
theorem d110_114 : fet 110 114 = .ok (.ireturn, 1) := by decide +kernel
theorem o111 : own 111 = RX11 := by decide +kernel
theorem d111_0 : fet 111 0 = .ok (.aload_n 0, 1) := by decide +kernel
theorem d111_1 : fet 111 1 = .ok (.getfield 154, 3) := by decide +kernel
theorem d111_4 : fet 111 4 = .ok (.ifCond .ne 6, 3) := by decide +kernel
theorem d111_7 : fet 111 7 = .ok (.ldc 167, 2) := by decide +kernel
theorem d111_9 : fet 111 9 = .ok (.ireturn, 1) := by decide +kernel
theorem d111_10 : fet 111 10 = .ok (.iload_n 1, 1) := by decide +kernel
theorem d111_11 : fet 111 11 = .ok (.invokestatic 198, 3) := by decide +kernel
theorem d111_14 : fet 111 14 = .ok (.ifCond .eq 11, 3) := by decide +kernel
theorem d111_17 : fet 111 17 = .ok (.iload_n 2, 1) := by decide +kernel
theorem d111_18 : fet 111 18 = .ok (.iconst 0, 1) := by decide +kernel
theorem d111_19 : fet 111 19 = .ok (.invokestatic 278, 3) := by decide +kernel
theorem d111_22 : fet 111 22 = .ok (.ifCond .ne 6, 3) := by decide +kernel
theorem d111_25 : fet 111 25 = .ok (.ldc 100, 2) := by decide +kernel
theorem d111_27 : fet 111 27 = .ok (.ireturn, 1) := by decide +kernel
theorem d111_28 : fet 111 28 = .ok (.aload_n 0, 1) := by decide +kernel
theorem d111_29 : fet 111 29 = .ok (.getfield 52, 3) := by decide +kernel
theorem d111_32 : fet 111 32 = .ok (.iload_n 1, 1) := by decide +kernel
theorem d111_33 : fet 111 33 = .ok (.iload_n 2, 1) := by decide +kernel
theorem d111_34 : fet 111 34 = .ok (.invokevirtual 291, 3) := by decide +kernel
theorem d111_37 : fet 111 37 = .ok (.istore_n 3, 1) := by decide +kernel
theorem d111_38 : fet 111 38 = .ok (.aload_n 0, 1) := by decide +kernel
theorem d111_39 : fet 111 39 = .ok (.getfield 52, 3) := by decide +kernel
theorem d111_42 : fet 111 42 = .ok (.iload_n 1, 1) := by decide +kernel
theorem d111_43 : fet 111 43 = .ok (.invokevirtual 294, 3) := by decide +kernel
theorem d111_46 : fet 111 46 = .ok (.astore 4, 2) := by decide +kernel
theorem d111_48 : fet 111 48 = .ok (.aload 4, 2) := by decide +kernel
theorem d111_50 : fet 111 50 = .ok (.ifnonnull 14, 3) := by decide +kernel
theorem d111_53 : fet 111 53 = .ok (.iload_n 3, 1) := by decide +kernel
theorem d111_54 : fet 111 54 = .ok (.aload_n 0, 1) := by decide +kernel
theorem d111_55 : fet 111 55 = .ok (.getfield 52, 3) := by decide +kernel
theorem d111_58 : fet 111 58 = .ok (.iload_n 1, 1) := by decide +kernel
theorem d111_59 : fet 111 59 = .ok (.invokevirtual 297, 3) := by decide +kernel
theorem d111_62 : fet 111 62 = .ok (.iadd, 1) := by decide +kernel
theorem d111_63 : fet 111 63 = .ok (.ireturn, 1) := by decide +kernel
theorem d111_64 : fet 111 64 = .ok (.aload_n 0, 1) := by decide +kernel
theorem d111_65 : fet 111 65 = .ok (.aload 4, 2) := by decide +kernel
theorem d111_67 : fet 111 67 = .ok (.iload_n 2, 1) := by decide +kernel
theorem d111_68 : fet 111 68 = .ok (.invokevirtual 281, 3) := by decide +kernel
theorem d111_71 : fet 111 71 = .ok (.aload_n 0, 1) := by decide +kernel
theorem d111_72 : fet 111 72 = .ok (.getfield 43, 3) := by decide +kernel
theorem d111_75 : fet 111 75 = .ok (.iload_n 3, 1) := by decide +kernel
theorem d111_76 : fet 111 76 = .ok (.aload_n 0, 1) := by decide +kernel
theorem d111_77 : fet 111 77 = .ok (.getfield 52, 3) := by decide +kernel
theorem d111_80 : fet 111 80 = .ok (.iload_n 1, 1) := by decide +kernel
theorem d111_81 : fet 111 81 = .ok (.invokevirtual 297, 3) := by decide +kernel
theorem d111_84 : fet 111 84 = .ok (.invokevirtual 300, 3) := by decide +kernel
theorem d111_87 : fet 111 87 = .ok (.ireturn, 1) := by decide +kernel
theorem o112 : own 112 = RX11 := by decide +kernel
theorem d112_0 : fet 112 0 = .ok (.iload_n 0, 1) := by decide +kernel
theorem d112_1 : fet 112 1 = .ok (.iload_n 1, 1) := by decide +kernel
theorem d112_2 : fet 112 2 = .ok (.if_icmp .lt 13, 3) := by decide +kernel
theorem d112_5 : fet 112 5 = .ok (.iload_n 0, 1) := by decide +kernel
theorem d112_6 : fet 112 6 = .ok (.bipush 60, 2) := by decide +kernel
theorem d112_8 : fet 112 8 = .ok (.if_icmp .gt 7, 3) := by decide +kernel
theorem d112_11 : fet 112 11 = .ok (.iconst 1, 1) := by decide +kernel
theorem d112_12 : fet 112 12 = .ok (.goto 4, 3) := by decide +kernel
theorem d112_15 : fet 112 15 = .ok (.iconst 0, 1) := by decide +kernel
theorem d112_16 : fet 112 16 = .ok (.ireturn, 1) := by decide +kernel
end
section
theorem o113 : own 113 = RX11 := by decide +kernel
theorem d113_0 : fet 113 0 = .ok (.aload_n 0, 1) := by decide +kernel
theorem d113_1 : fet 113 1 = .ok (.getfield 43, 3) := by decide +kernel
theorem d113_4 : fet 113 4 = .ok (.aload_n 1, 1) := by decide +kernel
theorem d113_5 : fet 113 5 = .ok (.invokevirtual 303, 3) := by decide +kernel
theorem d113_8 : fet 113 8 = .ok (.iconst 0, 1) := by decide +kernel
theorem d113_9 : fet 113 9 = .ok (.istore_n 3, 1) := by decide +kernel
theorem d113_10 : fet 113 10 = .ok (.iload_n 3, 1) := by decide +kernel
theorem d113_11 : fet 113 11 = .ok (.iload_n 2, 1) := by decide +kernel
theorem d113_12 : fet 113 12 = .ok (.if_icmp .ge 21, 3) := by decide +kernel
theorem d113_15 : fet 113 15 = .ok (.aload_n 0, 1) := by decide +kernel
theorem d113_16 : fet 113 16 = .ok (.getfield 52, 3) := by decide +kernel
theorem d113_19 : fet 113 19 = .ok (.aload_n 0, 1) := by decide +kernel
theorem d113_20 : fet 113 20 = .ok (.getfield 43, 3) := by decide +kernel
theorem d113_23 : fet 113 23 = .ok (.iload_n 3, 1) := by decide +kernel
theorem d113_24 : fet 113 24 = .ok (.invokevirtual 307, 3) := by decide +kernel
theorem d113_27 : fet 113 27 = .ok (.iinc 3 1, 3) := by decide +kernel
theorem d113_30 : fet 113 30 = .ok (.goto (-20), 3) := by decide +kernel
theorem d113_33 : fet 113 33 = .ok (.return_, 1) := by decide +kernel
theorem o114 : own 114 = RX11 := by decide +kernel
theorem d114_0 : fet 114 0 = .ok (.aload_n 0, 1) := by decide +kernel
theorem d114_1 : fet 114 1 = .ok (.getfield 52, 3) := by decide +kernel
theorem d114_4 : fet 114 4 = .ok (.iload_n 1, 1) := by decide +kernel
theorem d114_5 : fet 114 5 = .ok (.invokevirtual 177, 3) := by decide +kernel
theorem d114_8 : fet 114 8 = .ok (.astore_n 2, 1) := by decide +kernel
theorem d114_9 : fet 114 9 = .ok (.aload_n 2, 1) := by decide +kernel
theorem d114_10 : fet 114 10 = .ok (.ifnonnull 6, 3) := by decide +kernel
theorem d114_13 : fet 114 13 = .ok (.ldc 100, 2) := by decide +kernel
theorem d114_15 : fet 114 15 = .ok (.ireturn, 1) := by decide +kernel
theorem d114_16 : fet 114 16 = .ok (.aload_n 2, 1) := by decide +kernel
theorem d114_17 : fet 114 17 = .ok (.invokevirtual 181, 3) := by decide +kernel
theorem d114_20 : fet 114 20 = .ok (.ifCond .eq 6, 3) := by decide +kernel
theorem d114_23 : fet 114 23 = .ok (.ldc 167, 2) := by decide +kernel
theorem d114_25 : fet 114 25 = .ok (.ireturn, 1) := by decide +kernel
theorem d114_26 : fet 114 26 = .ok (.aload_n 0, 1) := by decide +kernel
theorem d114_27 : fet 114 27 = .ok (.aload_n 2, 1) := by decide +kernel
theorem d114_28 : fet 114 28 = .ok (.aload_n 2, 1) := by decide +kernel
theorem d114_29 : fet 114 29 = .ok (.getfield 195, 3) := by decide +kernel
theorem d114_32 : fet 114 32 = .ok (.bipush 60, 2) := by decide +kernel
theorem d114_34 : fet 114 34 = .ok (.invokevirtual 310, 3) := by decide +kernel
theorem d114_37 : fet 114 37 = .ok (.ireturn, 1) := by decide +kernel
theorem o115 : own 115 = RX11 := by decide +kernel
theorem d115_0 : fet 115 0 = .ok (.aload_n 0, 1) := by decide +kernel
theorem d115_1 : fet 115 1 = .ok (.getfield 52, 3) := by decide +kernel
theorem d115_4 : fet 115 4 = .ok (.iload_n 1, 1) := by decide +kernel
theorem d115_5 : fet 115 5 = .ok (.invokevirtual 177, 3) := by decide +kernel
theorem d115_8 : fet 115 8 = .ok (.astore_n 2, 1) := by decide +kernel
theorem d115_9 : fet 115 9 = .ok (.aload_n 2, 1) := by decide +kernel
theorem d115_10 : fet 115 10 = .ok (.ifnonnull 6, 3) := by decide +kernel
theorem d115_13 : fet 115 13 = .ok (.ldc 100, 2) := by decide +kernel
theorem d115_15 : fet 115 15 = .ok (.ireturn, 1) := by decide +kernel
theorem d115_16 : fet 115 16 = .ok (.aload_n 2, 1) := by decide +kernel
theorem d115_17 : fet 115 17 = .ok (.invokevirtual 181, 3) := by decide +kernel
theorem d115_20 : fet 115 20 = .ok (.ifCond .eq 6, 3) := by decide +kernel
theorem d115_23 : fet 115 23 = .ok (.ldc 167, 2) := by decide +kernel
theorem d115_25 : fet 115 25 = .ok (.ireturn, 1) := by decide +kernel
theorem d115_26 : fet 115 26 = .ok (.ldc 243, 2) := by decide +kernel
theorem d115_28 : fet 115 28 = .ok (.istore_n 3, 1) := by decide +kernel
theorem d115_29 : fet 115 29 = .ok (.bipush 60, 2) := by decide +kernel
theorem d115_31 : fet 115 31 = .ok (.istore 4, 2) := by decide +kernel
theorem d115_33 : fet 115 33 = .ok (.iconst 0, 1) := by decide +kernel
theorem d115_34 : fet 115 34 = .ok (.istore 5, 2) := by decide +kernel
theorem d115_36 : fet 115 36 = .ok (.iload 5, 2) := by decide +kernel
theorem d115_38 : fet 115 38 = .ok (.bipush 12, 2) := by decide +kernel
theorem d115_40 : fet 115 40 = .ok (.if_icmp .ge 59, 3) := by decide +kernel
theorem d115_43 : fet 115 43 = .ok (.iload 4, 2) := by decide +kernel
theorem d115_45 : fet 115 45 = .ok (.ifCond .lt 54, 3) := by decide +kernel
theorem d115_48 : fet 115 48 = .ok (.aload_n 0, 1) := by decide +kernel
theorem d115_49 : fet 115 49 = .ok (.getfield 52, 3) := by decide +kernel
theorem d115_52 : fet 115 52 = .ok (.aload_n 2, 1) := by decide +kernel
theorem d115_53 : fet 115 53 = .ok (.iload 5, 2) := by decide +kernel
theorem d115_55 : fet 115 55 = .ok (.invokevirtual 191, 3) := by decide +kernel
theorem d115_58 : fet 115 58 = .ok (.ifCond .eq 15, 3) := by decide +kernel
theorem d115_61 : fet 115 61 = .ok (.aload_n 0, 1) := by decide +kernel
theorem d115_62 : fet 115 62 = .ok (.aload_n 2, 1) := by decide +kernel
theorem d115_63 : fet 115 63 = .ok (.iload 5, 2) := by decide +kernel
theorem d115_65 : fet 115 65 = .ok (.iload 4, 2) := by decide +kernel
theorem d115_67 : fet 115 67 = .ok (.invokevirtual 310, 3) := by decide +kernel
theorem d115_70 : fet 115 70 = .ok (.goto 5, 3) := by decide +kernel
theorem d115_73 : fet 115 73 = .ok (.ldc 243, 2) := by decide +kernel
theorem d115_75 : fet 115 75 = .ok (.istore 6, 2) := by decide +kernel
theorem d115_77 : fet 115 77 = .ok (.iload 6, 2) := by decide +kernel
theorem d115_79 : fet 115 79 = .ok (.ldc 243, 2) := by decide +kernel
theorem d115_81 : fet 115 81 = .ok (.if_icmp .eq 12, 3) := by decide +kernel
theorem d115_84 : fet 115 84 = .ok (.iload 5, 2) := by decide +kernel
theorem d115_86 : fet 115 86 = .ok (.istore_n 3, 1) := by decide +kernel
theorem d115_87 : fet 115 87 = .ok (.iload 6, 2) := by decide +kernel
theorem d115_89 : fet 115 89 = .ok (.iconst 1, 1) := by decide +kernel
theorem d115_90 : fet 115 90 = .ok (.isub, 1) := by decide +kernel
theorem d115_91 : fet 115 91 = .ok (.istore 4, 2) := by decide +kernel
theorem d115_93 : fet 115 93 = .ok (.iinc 5 1, 3) := by decide +kernel
theorem d115_96 : fet 115 96 = .ok (.goto (-60), 3) := by decide +kernel
theorem d115_99 : fet 115 99 = .ok (.iload_n 3, 1) := by decide +kernel
theorem d115_100 : fet 115 100 = .ok (.ireturn, 1) := by decide +kernel
theorem o116 : own 116 = RX11 := by decide +kernel
theorem d116_0 : fet 116 0 = .ok (.aload_n 0, 1) := by decide +kernel
theorem d116_1 : fet 116 1 = .ok (.getfield 52, 3) := by decide +kernel
theorem d116_4 : fet 116 4 = .ok (.iload_n 1, 1) := by decide +kernel
theorem d116_5 : fet 116 5 = .ok (.invokevirtual 177, 3) := by decide +kernel
theorem d116_8 : fet 116 8 = .ok (.astore_n 3, 1) := by decide +kernel
theorem d116_9 : fet 116 9 = .ok (.aload_n 3, 1) := by decide +kernel
theorem d116_10 : fet 116 10 = .ok (.ifnull 11, 3) := by decide +kernel
theorem d116_13 : fet 116 13 = .ok (.iload_n 2, 1) := by decide +kernel
theorem d116_14 : fet 116 14 = .ok (.iconst 0, 1) := by decide +kernel
theorem d116_15 : fet 116 15 = .ok (.invokestatic 278, 3) := by decide +kernel
theorem d116_18 : fet 116 18 = .ok (.ifCond .ne 6, 3) := by decide +kernel
theorem d116_21 : fet 116 21 = .ok (.ldc 100, 2) := by decide +kernel
theorem d116_23 : fet 116 23 = .ok (.ireturn, 1) := by decide +kernel
theorem d116_24 : fet 116 24 = .ok (.aload_n 3, 1) := by decide +kernel
theorem d116_25 : fet 116 25 = .ok (.invokevirtual 181, 3) := by decide +kernel
theorem d116_28 : fet 116 28 = .ok (.ifCond .eq 6, 3) := by decide +kernel
theorem d116_31 : fet 116 31 = .ok (.ldc 167, 2) := by decide +kernel
theorem d116_33 : fet 116 33 = .ok (.ireturn, 1) := by decide +kernel
theorem d116_34 : fet 116 34 = .ok (.iconst 0, 1) := by decide +kernel
theorem d116_35 : fet 116 35 = .ok (.istore 4, 2) := by decide +kernel
theorem d116_37 : fet 116 37 = .ok (.iconst 0, 1) := by decide +kernel
theorem d116_38 : fet 116 38 = .ok (.istore 5, 2) := by decide +kernel
theorem d116_40 : fet 116 40 = .ok (.iload 5, 2) := by decide +kernel
theorem d116_42 : fet 116 42 = .ok (.bipush 12, 2) := by decide +kernel
theorem d116_44 : fet 116 44 = .ok (.if_icmp .ge 44, 3) := by decide +kernel
theorem d116_47 : fet 116 47 = .ok (.aload_n 0, 1) := by decide +kernel
theorem d116_48 : fet 116 48 = .ok (.getfield 52, 3) := by decide +kernel
theorem d116_51 : fet 116 51 = .ok (.aload_n 3, 1) := by decide +kernel
theorem d116_52 : fet 116 52 = .ok (.iload 5, 2) := by decide +kernel
theorem d116_54 : fet 116 54 = .ok (.invokevirtual 191, 3) := by decide +kernel
theorem d116_57 : fet 116 57 = .ok (.ifCond .eq 25, 3) := by decide +kernel
theorem d116_60 : fet 116 60 = .ok (.aload_n 0, 1) := by decide +kernel
theorem d116_61 : fet 116 61 = .ok (.aload_n 3, 1) := by decide +kernel
theorem d116_62 : fet 116 62 = .ok (.iload 5, 2) := by decide +kernel
theorem d116_64 : fet 116 64 = .ok (.iload_n 2, 1) := by decide +kernel
theorem d116_65 : fet 116 65 = .ok (.invokevirtual 310, 3) := by decide +kernel
theorem d116_68 : fet 116 68 = .ok (.ldc 243, 2) := by decide +kernel
theorem d116_70 : fet 116 70 = .ok (.if_icmp .eq 12, 3) := by decide +kernel
theorem d116_73 : fet 116 73 = .ok (.iload 4, 2) := by decide +kernel
theorem d116_75 : fet 116 75 = .ok (.iconst 1, 1) := by decide +kernel
theorem d116_76 : fet 116 76 = .ok (.iload 5, 2) := by decide +kernel
theorem d116_78 : fet 116 78 = .ok (.ishl, 1) := by decide +kernel
theorem d116_79 : fet 116 79 = .ok (.ior, 1) := by decide +kernel
theorem d116_80 : fet 116 80 = .ok (.istore 4, 2) := by decide +kernel
theorem d116_82 : fet 116 82 = .ok (.iinc 5 1, 3) := by decide +kernel
theorem d116_85 : fet 116 85 = .ok (.goto (-45), 3) := by decide +kernel
theorem d116_88 : fet 116 88 = .ok (.iload 4, 2) := by decide +kernel
theorem d116_90 : fet 116 90 = .ok (.ireturn, 1) := by decide +kernel
theorem o117 : own 117 = RX11 := by decide +kernel
theorem d117_0 : fet 117 0 = .ok (.aload_n 0, 1) := by decide +kernel
theorem d117_1 : fet 117 1 = .ok (.getfield 43, 3) := by decide +kernel
theorem d117_4 : fet 117 4 = .ok (.aload_n 1, 1) := by decide +kernel
theorem d117_5 : fet 117 5 = .ok (.invokevirtual 303, 3) := by decide +kernel
theorem d117_8 : fet 117 8 = .ok (.aload_n 0, 1) := by decide +kernel
theorem d117_9 : fet 117 9 = .ok (.getfield 43, 3) := by decide +kernel
theorem d117_12 : fet 117 12 = .ok (.iload_n 2, 1) := by decide +kernel
theorem d117_13 : fet 117 13 = .ok (.putfield 195, 3) := by decide +kernel
theorem d117_16 : fet 117 16 = .ok (.iconst 0, 1) := by decide +kernel
theorem d117_17 : fet 117 17 = .ok (.istore 4, 2) := by decide +kernel
theorem d117_19 : fet 117 19 = .ok (.iload 4, 2) := by decide +kernel
theorem d117_21 : fet 117 21 = .ok (.iload_n 3, 1) := by decide +kernel
theorem d117_22 : fet 117 22 = .ok (.if_icmp .ge 57, 3) := by decide +kernel
theorem d117_25 : fet 117 25 = .ok (.aload_n 0, 1) := by decide +kernel
theorem d117_26 : fet 117 26 = .ok (.getfield 43, 3) := by decide +kernel
theorem d117_29 : fet 117 29 = .ok (.getfield 250, 3) := by decide +kernel
theorem d117_32 : fet 117 32 = .ok (.ifCond .ne 47, 3) := by decide +kernel
theorem d117_35 : fet 117 35 = .ok (.aload_n 0, 1) := by decide +kernel
theorem d117_36 : fet 117 36 = .ok (.getfield 43, 3) := by decide +kernel
theorem d117_39 : fet 117 39 = .ok (.invokevirtual 257, 3) := by decide +kernel
theorem d117_42 : fet 117 42 = .ok (.ifCond .ne 37, 3) := by decide +kernel
theorem d117_45 : fet 117 45 = .ok (.aload_n 0, 1) := by decide +kernel
theorem d117_46 : fet 117 46 = .ok (.getfield 52, 3) := by decide +kernel
theorem d117_49 : fet 117 49 = .ok (.aload_n 0, 1) := by decide +kernel
theorem d117_50 : fet 117 50 = .ok (.getfield 43, 3) := by decide +kernel
theorem d117_53 : fet 117 53 = .ok (.iload 4, 2) := by decide +kernel
theorem d117_55 : fet 117 55 = .ok (.invokevirtual 307, 3) := by decide +kernel
theorem d117_58 : fet 117 58 = .ok (.aload_n 0, 1) := by decide +kernel
theorem d117_59 : fet 117 59 = .ok (.getfield 43, 3) := by decide +kernel
theorem d117_62 : fet 117 62 = .ok (.invokevirtual 214, 3) := by decide +kernel
theorem d117_65 : fet 117 65 = .ok (.ifCond .eq 8, 3) := by decide +kernel
theorem d117_68 : fet 117 68 = .ok (.iload 4, 2) := by decide +kernel
theorem d117_70 : fet 117 70 = .ok (.iconst 1, 1) := by decide +kernel
theorem d117_71 : fet 117 71 = .ok (.iadd, 1) := by decide +kernel
theorem d117_72 : fet 117 72 = .ok (.ireturn, 1) := by decide +kernel
theorem d117_73 : fet 117 73 = .ok (.iinc 4 1, 3) := by decide +kernel
theorem d117_76 : fet 117 76 = .ok (.goto (-57), 3) := by decide +kernel
theorem d117_79 : fet 117 79 = .ok (.aload_n 1, 1) := by decide +kernel
theorem d117_80 : fet 117 80 = .ok (.invokevirtual 214, 3) := by decide +kernel
theorem d117_83 : fet 117 83 = .ok (.ifCond .eq 7, 3) := by decide +kernel
theorem d117_86 : fet 117 86 = .ok (.iconst 0, 1) := by decide +kernel
theorem d117_87 : fet 117 87 = .ok (.goto 5, 3) := by decide +kernel
theorem d117_90 : fet 117 90 = .ok (.ldc 243, 2) := by decide +kernel
theorem d117_92 : fet 117 92 = .ok (.ireturn, 1) := by decide +kernel
theorem o118 : own 118 = RX11 := by decide +kernel
theorem d118_0 : fet 118 0 = .ok (.aload_n 0, 1) := by decide +kernel
theorem d118_1 : fet 118 1 = .ok (.getfield 52, 3) := by decide +kernel
theorem d118_4 : fet 118 4 = .ok (.iload_n 1, 1) := by decide +kernel
theorem d118_5 : fet 118 5 = .ok (.invokevirtual 177, 3) := by decide +kernel
theorem d118_8 : fet 118 8 = .ok (.astore 4, 2) := by decide +kernel
theorem d118_10 : fet 118 10 = .ok (.aload 4, 2) := by decide +kernel
theorem d118_12 : fet 118 12 = .ok (.ifnull 23, 3) := by decide +kernel
theorem d118_15 : fet 118 15 = .ok (.iload_n 2, 1) := by decide +kernel
theorem d118_16 : fet 118 16 = .ok (.iconst 1, 1) := by decide +kernel
theorem d118_17 : fet 118 17 = .ok (.if_icmp .lt 18, 3) := by decide +kernel
theorem d118_20 : fet 118 20 = .ok (.iload_n 2, 1) := by decide +kernel
theorem d118_21 : fet 118 21 = .ok (.bipush 12, 2) := by decide +kernel
theorem d118_23 : fet 118 23 = .ok (.if_icmp .gt 12, 3) := by decide +kernel
theorem d118_26 : fet 118 26 = .ok (.iload_n 3, 1) := by decide +kernel
theorem d118_27 : fet 118 27 = .ok (.ifCond .lt 8, 3) := by decide +kernel
theorem d118_30 : fet 118 30 = .ok (.iload_n 3, 1) := by decide +kernel
theorem d118_31 : fet 118 31 = .ok (.iconst 1, 1) := by decide +kernel
theorem d118_32 : fet 118 32 = .ok (.if_icmp .le 6, 3) := by decide +kernel
theorem d118_35 : fet 118 35 = .ok (.ldc 100, 2) := by decide +kernel
theorem d118_37 : fet 118 37 = .ok (.ireturn, 1) := by decide +kernel
theorem d118_38 : fet 118 38 = .ok (.aload 4, 2) := by decide +kernel
theorem d118_40 : fet 118 40 = .ok (.getfield 195, 3) := by decide +kernel
theorem d118_43 : fet 118 43 = .ok (.invokestatic 198, 3) := by decide +kernel
theorem d118_46 : fet 118 46 = .ok (.ifCond .ne 6, 3) := by decide +kernel
theorem d118_49 : fet 118 49 = .ok (.ldc 167, 2) := by decide +kernel
theorem d118_51 : fet 118 51 = .ok (.ireturn, 1) := by decide +kernel
theorem d118_52 : fet 118 52 = .ok (.aload_n 0, 1) := by decide +kernel
theorem d118_53 : fet 118 53 = .ok (.aload 4, 2) := by decide +kernel
theorem d118_55 : fet 118 55 = .ok (.getfield 195, 3) := by decide +kernel
theorem d118_58 : fet 118 58 = .ok (.iload_n 2, 1) := by decide +kernel
theorem d118_59 : fet 118 59 = .ok (.invokevirtual 314, 3) := by decide +kernel
theorem d118_62 : fet 118 62 = .ok (.aload_n 0, 1) := by decide +kernel
theorem d118_63 : fet 118 63 = .ok (.getfield 43, 3) := by decide +kernel
theorem d118_66 : fet 118 66 = .ok (.aload 4, 2) := by decide +kernel
theorem d118_68 : fet 118 68 = .ok (.invokevirtual 303, 3) := by decide +kernel
theorem d118_71 : fet 118 71 = .ok (.aload_n 0, 1) := by decide +kernel
theorem d118_72 : fet 118 72 = .ok (.ldc 243, 2) := by decide +kernel
theorem d118_74 : fet 118 74 = .ok (.putfield 318, 3) := by decide +kernel
theorem d118_77 : fet 118 77 = .ok (.aload 4, 2) := by decide +kernel
theorem d118_79 : fet 118 79 = .ok (.getfield 250, 3) := by decide +kernel
theorem d118_82 : fet 118 82 = .ok (.ifCond .ne 25, 3) := by decide +kernel
theorem d118_85 : fet 118 85 = .ok (.aload_n 0, 1) := by decide +kernel
theorem d118_86 : fet 118 86 = .ok (.iconst 0, 1) := by decide +kernel
theorem d118_87 : fet 118 87 = .ok (.iload_n 2, 1) := by decide +kernel
theorem d118_88 : fet 118 88 = .ok (.iconst 0, 1) := by decide +kernel
theorem d118_89 : fet 118 89 = .ok (.aload 4, 2) := by decide +kernel
theorem d118_91 : fet 118 91 = .ok (.getfield 285, 3) := by decide +kernel
theorem d118_94 : fet 118 94 = .ok (.aload 4, 2) := by decide +kernel
theorem d118_96 : fet 118 96 = .ok (.getfield 288, 3) := by decide +kernel
theorem d118_99 : fet 118 99 = .ok (.aload 4, 2) := by decide +kernel
theorem d118_101 : fet 118 101 = .ok (.getfield 244, 3) := by decide +kernel
theorem d118_104 : fet 118 104 = .ok (.invokevirtual 321, 3) := by decide +kernel
theorem d118_107 : fet 118 107 = .ok (.iload_n 3, 1) := by decide +kernel
theorem d118_108 : fet 118 108 = .ok (.ifCond .ne 22, 3) := by decide +kernel
theorem d118_111 : fet 118 111 = .ok (.aload_n 0, 1) := by decide +kernel
theorem d118_112 : fet 118 112 = .ok (.getfield 318, 3) := by decide +kernel
theorem d118_115 : fet 118 115 = .ok (.ldc 243, 2) := by decide +kernel
theorem d118_117 : fet 118 117 = .ok (.if_icmp .eq 13, 3) := by decide +kernel
theorem d118_120 : fet 118 120 = .ok (.aload_n 0, 1) := by decide +kernel
theorem d118_121 : fet 118 121 = .ok (.getfield 318, 3) := by decide +kernel
theorem d118_124 : fet 118 124 = .ok (.invokestatic 325, 3) := by decide +kernel
theorem d118_127 : fet 118 127 = .ok (.goto 7, 3) := by decide +kernel
theorem d118_130 : fet 118 130 = .ok (.aload_n 0, 1) := by decide +kernel
theorem d118_131 : fet 118 131 = .ok (.getfield 318, 3) := by decide +kernel
theorem d118_134 : fet 118 134 = .ok (.ireturn, 1) := by decide +kernel
theorem o119 : own 119 = RX11 := by decide +kernel
theorem d119_0 : fet 119 0 = .ok (.iconst 0, 1) := by decide +kernel
theorem d119_1 : fet 119 1 = .ok (.istore_n 3, 1) := by decide +kernel
theorem d119_2 : fet 119 2 = .ok (.iload_n 3, 1) := by decide +kernel
theorem d119_3 : fet 119 3 = .ok (.iload_n 2, 1) := by decide +kernel
theorem d119_4 : fet 119 4 = .ok (.if_icmp .ge 33, 3) := by decide +kernel
theorem d119_7 : fet 119 7 = .ok (.iload_n 3, 1) := by decide +kernel
theorem d119_8 : fet 119 8 = .ok (.aload_n 0, 1) := by decide +kernel
theorem d119_9 : fet 119 9 = .ok (.getfield 73, 3) := by decide +kernel
theorem d119_12 : fet 119 12 = .ok (.arraylength, 1) := by decide +kernel
theorem d119_13 : fet 119 13 = .ok (.if_icmp .ge 24, 3) := by decide +kernel
theorem d119_16 : fet 119 16 = .ok (.aload_n 0, 1) := by decide +kernel
theorem d119_17 : fet 119 17 = .ok (.getfield 73, 3) := by decide +kernel
theorem d119_20 : fet 119 20 = .ok (.iload_n 3, 1) := by decide +kernel
theorem d119_21 : fet 119 21 = .ok (.aload_n 0, 1) := by decide +kernel
theorem d119_22 : fet 119 22 = .ok (.getfield 52, 3) := by decide +kernel
theorem d119_25 : fet 119 25 = .ok (.iload_n 1, 1) := by decide +kernel
theorem d119_26 : fet 119 26 = .ok (.iload_n 3, 1) := by decide +kernel
theorem d119_27 : fet 119 27 = .ok (.invokevirtual 291, 3) := by decide +kernel
theorem d119_30 : fet 119 30 = .ok (.iastore, 1) := by decide +kernel
theorem d119_31 : fet 119 31 = .ok (.iinc 3 1, 3) := by decide +kernel
theorem d119_34 : fet 119 34 = .ok (.goto (-32), 3) := by decide +kernel
theorem d119_37 : fet 119 37 = .ok (.return_, 1) := by decide +kernel
theorem o120 : own 120 = RX11 := by decide +kernel
theorem d120_0 : fet 120 0 = .ok (.aload_n 0, 1) := by decide +kernel
theorem d120_1 : fet 120 1 = .ok (.getfield 318, 3) := by decide +kernel
theorem d120_4 : fet 120 4 = .ok (.ldc 243, 2) := by decide +kernel
theorem d120_6 : fet 120 6 = .ok (.if_icmp .eq 12, 3) := by decide +kernel
theorem d120_9 : fet 120 9 = .ok (.aload_n 0, 1) := by decide +kernel
theorem d120_10 : fet 120 10 = .ok (.iload_n 3, 1) := by decide +kernel
theorem d120_11 : fet 120 11 = .ok (.invokevirtual 330, 3) := by decide +kernel
theorem d120_14 : fet 120 14 = .ok (.ifCond .ne 4, 3) := by decide +kernel
theorem d120_17 : fet 120 17 = .ok (.return_, 1) := by decide +kernel
theorem d120_18 : fet 120 18 = .ok (.iload_n 1, 1) := by decide +kernel
theorem d120_19 : fet 120 19 = .ok (.iload_n 2, 1) := by decide +kernel
theorem d120_20 : fet 120 20 = .ok (.if_icmp .ge 9, 3) := by decide +kernel
theorem d120_23 : fet 120 23 = .ok (.iload_n 1, 1) := by decide +kernel
theorem d120_24 : fet 120 24 = .ok (.bipush 12, 2) := by decide +kernel
theorem d120_26 : fet 120 26 = .ok (.if_icmp .lt 24, 3) := by decide +kernel
theorem d120_29 : fet 120 29 = .ok (.iload 6, 2) := by decide +kernel
theorem d120_31 : fet 120 31 = .ok (.aload_n 0, 1) := by decide +kernel
theorem d120_32 : fet 120 32 = .ok (.getfield 43, 3) := by decide +kernel
theorem d120_35 : fet 120 35 = .ok (.getfield 333, 3) := by decide +kernel
theorem d120_38 : fet 120 38 = .ok (.getfield 337, 3) := by decide +kernel
theorem d120_41 : fet 120 41 = .ok (.if_icmp .lt 8, 3) := by decide +kernel
theorem d120_44 : fet 120 44 = .ok (.aload_n 0, 1) := by decide +kernel
theorem d120_45 : fet 120 45 = .ok (.iload_n 3, 1) := by decide +kernel
theorem d120_46 : fet 120 46 = .ok (.putfield 318, 3) := by decide +kernel
theorem d120_49 : fet 120 49 = .ok (.return_, 1) := by decide +kernel
theorem d120_50 : fet 120 50 = .ok (.aload_n 0, 1) := by decide +kernel
theorem d120_51 : fet 120 51 = .ok (.iload_n 1, 1) := by decide +kernel
theorem d120_52 : fet 120 52 = .ok (.iload_n 2, 1) := by decide +kernel
theorem d120_53 : fet 120 53 = .ok (.iload_n 3, 1) := by decide +kernel
theorem d120_54 : fet 120 54 = .ok (.iload 4, 2) := by decide +kernel
theorem d120_56 : fet 120 56 = .ok (.iload 5, 2) := by decide +kernel
theorem d120_58 : fet 120 58 = .ok (.iload 6, 2) := by decide +kernel
theorem d120_60 : fet 120 60 = .ok (.invokevirtual 340, 3) := by decide +kernel
theorem d120_63 : fet 120 63 = .ok (.aload_n 0, 1) := by decide +kernel
theorem d120_64 : fet 120 64 = .ok (.iload_n 1, 1) := by decide +kernel
theorem d120_65 : fet 120 65 = .ok (.iload_n 2, 1) := by decide +kernel
theorem d120_66 : fet 120 66 = .ok (.iload_n 3, 1) := by decide +kernel
theorem d120_67 : fet 120 67 = .ok (.iconst 1, 1) := by decide +kernel
theorem d120_68 : fet 120 68 = .ok (.iload_n 1, 1) := by decide +kernel
theorem d120_69 : fet 120 69 = .ok (.ishl, 1) := by decide +kernel
theorem d120_70 : fet 120 70 = .ok (.ior, 1) := by decide +kernel
theorem d120_71 : fet 120 71 = .ok (.iload 5, 2) := by decide +kernel
theorem d120_73 : fet 120 73 = .ok (.iload 4, 2) := by decide +kernel
theorem d120_75 : fet 120 75 = .ok (.iload 6, 2) := by decide +kernel
theorem d120_77 : fet 120 77 = .ok (.invokevirtual 340, 3) := by decide +kernel
theorem d120_80 : fet 120 80 = .ok (.return_, 1) := by decide +kernel
theorem o121 : own 121 = RX11 := by decide +kernel
theorem d121_0 : fet 121 0 = .ok (.aload_n 0, 1) := by decide +kernel
theorem d121_1 : fet 121 1 = .ok (.getfield 43, 3) := by decide +kernel
theorem d121_4 : fet 121 4 = .ok (.iload 4, 2) := by decide +kernel
theorem d121_6 : fet 121 6 = .ok (.putfield 285, 3) := by decide +kernel
theorem d121_9 : fet 121 9 = .ok (.aload_n 0, 1) := by decide +kernel
theorem d121_10 : fet 121 10 = .ok (.getfield 43, 3) := by decide +kernel
theorem d121_13 : fet 121 13 = .ok (.iload 5, 2) := by decide +kernel
theorem d121_15 : fet 121 15 = .ok (.putfield 288, 3) := by decide +kernel
theorem d121_18 : fet 121 18 = .ok (.aload_n 0, 1) := by decide +kernel
theorem d121_19 : fet 121 19 = .ok (.getfield 43, 3) := by decide +kernel
theorem d121_22 : fet 121 22 = .ok (.iload 6, 2) := by decide +kernel
theorem d121_24 : fet 121 24 = .ok (.putfield 244, 3) := by decide +kernel
theorem d121_27 : fet 121 27 = .ok (.aload_n 0, 1) := by decide +kernel
theorem d121_28 : fet 121 28 = .ok (.getfield 43, 3) := by decide +kernel
theorem d121_31 : fet 121 31 = .ok (.aload_n 0, 1) := by decide +kernel
theorem d121_32 : fet 121 32 = .ok (.getfield 73, 3) := by decide +kernel
theorem d121_35 : fet 121 35 = .ok (.iload_n 1, 1) := by decide +kernel
theorem d121_36 : fet 121 36 = .ok (.iaload, 1) := by decide +kernel
theorem d121_37 : fet 121 37 = .ok (.aload_n 0, 1) := by decide +kernel
theorem d121_38 : fet 121 38 = .ok (.getfield 52, 3) := by decide +kernel
theorem d121_41 : fet 121 41 = .ok (.aload_n 0, 1) := by decide +kernel
theorem d121_42 : fet 121 42 = .ok (.getfield 43, 3) := by decide +kernel
theorem d121_45 : fet 121 45 = .ok (.getfield 195, 3) := by decide +kernel
theorem d121_48 : fet 121 48 = .ok (.invokevirtual 297, 3) := by decide +kernel
theorem d121_51 : fet 121 51 = .ok (.invokevirtual 343, 3) := by decide +kernel
theorem d121_54 : fet 121 54 = .ok (.aload_n 0, 1) := by decide +kernel
theorem d121_55 : fet 121 55 = .ok (.getfield 43, 3) := by decide +kernel
theorem d121_58 : fet 121 58 = .ok (.getfield 250, 3) := by decide +kernel
theorem d121_61 : fet 121 61 = .ok (.ifCond .eq 12, 3) := by decide +kernel
theorem d121_64 : fet 121 64 = .ok (.aload_n 0, 1) := by decide +kernel
theorem d121_65 : fet 121 65 = .ok (.getfield 43, 3) := by decide +kernel
theorem d121_68 : fet 121 68 = .ok (.iconst 0, 1) := by decide +kernel
theorem d121_69 : fet 121 69 = .ok (.putfield 250, 3) := by decide +kernel
theorem d121_72 : fet 121 72 = .ok (.return_, 1) := by decide +kernel
theorem d121_73 : fet 121 73 = .ok (.aload_n 0, 1) := by decide +kernel
theorem d121_74 : fet 121 74 = .ok (.iload_n 1, 1) := by decide +kernel
theorem d121_75 : fet 121 75 = .ok (.iconst 1, 1) := by decide +kernel
theorem d121_76 : fet 121 76 = .ok (.iadd, 1) := by decide +kernel
theorem d121_77 : fet 121 77 = .ok (.iload_n 2, 1) := by decide +kernel
theorem d121_78 : fet 121 78 = .ok (.iload_n 3, 1) := by decide +kernel
theorem d121_79 : fet 121 79 = .ok (.aload_n 0, 1) := by decide +kernel
theorem d121_80 : fet 121 80 = .ok (.getfield 43, 3) := by decide +kernel
theorem d121_83 : fet 121 83 = .ok (.getfield 285, 3) := by decide +kernel
theorem d121_86 : fet 121 86 = .ok (.aload_n 0, 1) := by decide +kernel
theorem d121_87 : fet 121 87 = .ok (.getfield 43, 3) := by decide +kernel
theorem d121_90 : fet 121 90 = .ok (.getfield 288, 3) := by decide +kernel
theorem d121_93 : fet 121 93 = .ok (.aload_n 0, 1) := by decide +kernel
theorem d121_94 : fet 121 94 = .ok (.getfield 43, 3) := by decide +kernel
theorem d121_97 : fet 121 97 = .ok (.getfield 244, 3) := by decide +kernel
theorem d121_100 : fet 121 100 = .ok (.invokevirtual 321, 3) := by decide +kernel
theorem d121_103 : fet 121 103 = .ok (.return_, 1) := by decide +kernel
theorem o122 : own 122 = RX11 := by decide +kernel
theorem d122_0 : fet 122 0 = .ok (.iload_n 1, 1) := by decide +kernel
theorem d122_1 : fet 122 1 = .ok (.invokestatic 325, 3) := by decide +kernel
theorem d122_4 : fet 122 4 = .ok (.aload_n 0, 1) := by decide +kernel
theorem d122_5 : fet 122 5 = .ok (.getfield 318, 3) := by decide +kernel
theorem d122_8 : fet 122 8 = .ok (.invokestatic 325, 3) := by decide +kernel
theorem d122_11 : fet 122 11 = .ok (.isub, 1) := by decide +kernel
theorem d122_12 : fet 122 12 = .ok (.istore_n 2, 1) := by decide +kernel
theorem d122_13 : fet 122 13 = .ok (.iload_n 2, 1) := by decide +kernel
theorem d122_14 : fet 122 14 = .ok (.ifCond .lt 15, 3) := by decide +kernel
theorem d122_17 : fet 122 17 = .ok (.iload_n 2, 1) := by decide +kernel
theorem d122_18 : fet 122 18 = .ok (.ifCond .ne 15, 3) := by decide +kernel
theorem d122_21 : fet 122 21 = .ok (.iload_n 1, 1) := by decide +kernel
theorem d122_22 : fet 122 22 = .ok (.aload_n 0, 1) := by decide +kernel
theorem d122_23 : fet 122 23 = .ok (.getfield 318, 3) := by decide +kernel
theorem d122_26 : fet 122 26 = .ok (.if_icmp .ge 7, 3) := by decide +kernel
theorem d122_29 : fet 122 29 = .ok (.iconst 1, 1) := by decide +kernel
theorem d122_30 : fet 122 30 = .ok (.goto 4, 3) := by decide +kernel
theorem d122_33 : fet 122 33 = .ok (.iconst 0, 1) := by decide +kernel
theorem d122_34 : fet 122 34 = .ok (.ireturn, 1) := by decide +kernel
theorem o123 : own 123 = RX11 := by decide +kernel
theorem d123_0 : fet 123 0 = .ok (.aload_n 0, 1) := by decide +kernel
theorem d123_1 : fet 123 1 = .ok (.getfield 52, 3) := by decide +kernel
theorem d123_4 : fet 123 4 = .ok (.iload_n 1, 1) := by decide +kernel
theorem d123_5 : fet 123 5 = .ok (.invokevirtual 177, 3) := by decide +kernel
theorem d123_8 : fet 123 8 = .ok (.astore 4, 2) := by decide +kernel
theorem d123_10 : fet 123 10 = .ok (.aload 4, 2) := by decide +kernel
theorem d123_12 : fet 123 12 = .ok (.ifnull 18, 3) := by decide +kernel
theorem d123_15 : fet 123 15 = .ok (.iload_n 2, 1) := by decide +kernel
theorem d123_16 : fet 123 16 = .ok (.invokestatic 198, 3) := by decide +kernel
theorem d123_19 : fet 123 19 = .ok (.ifCond .eq 11, 3) := by decide +kernel
theorem d123_22 : fet 123 22 = .ok (.iload_n 3, 1) := by decide +kernel
theorem d123_23 : fet 123 23 = .ok (.iconst 1, 1) := by decide +kernel
theorem d123_24 : fet 123 24 = .ok (.invokestatic 278, 3) := by decide +kernel
theorem d123_27 : fet 123 27 = .ok (.ifCond .ne 6, 3) := by decide +kernel
theorem d123_30 : fet 123 30 = .ok (.ldc 100, 2) := by decide +kernel
theorem d123_32 : fet 123 32 = .ok (.ireturn, 1) := by decide +kernel
theorem d123_33 : fet 123 33 = .ok (.aload 4, 2) := by decide +kernel
theorem d123_35 : fet 123 35 = .ok (.invokevirtual 181, 3) := by decide +kernel
theorem d123_38 : fet 123 38 = .ok (.ifCond .ne 16, 3) := by decide +kernel
theorem d123_41 : fet 123 41 = .ok (.aload_n 0, 1) := by decide +kernel
theorem d123_42 : fet 123 42 = .ok (.getfield 52, 3) := by decide +kernel
theorem d123_45 : fet 123 45 = .ok (.aload 4, 2) := by decide +kernel
theorem d123_47 : fet 123 47 = .ok (.iload_n 2, 1) := by decide +kernel
theorem d123_48 : fet 123 48 = .ok (.invokevirtual 191, 3) := by decide +kernel
theorem d123_51 : fet 123 51 = .ok (.ifCond .ne 6, 3) := by decide +kernel
theorem d123_54 : fet 123 54 = .ok (.ldc 167, 2) := by decide +kernel
theorem d123_56 : fet 123 56 = .ok (.ireturn, 1) := by decide +kernel
theorem d123_57 : fet 123 57 = .ok (.aload_n 0, 1) := by decide +kernel
theorem d123_58 : fet 123 58 = .ok (.iload_n 2, 1) := by decide +kernel
theorem d123_59 : fet 123 59 = .ok (.iload_n 3, 1) := by decide +kernel
theorem d123_60 : fet 123 60 = .ok (.invokevirtual 314, 3) := by decide +kernel
theorem d123_63 : fet 123 63 = .ok (.iload_n 3, 1) := by decide +kernel
theorem d123_64 : fet 123 64 = .ok (.istore 5, 2) := by decide +kernel
theorem d123_66 : fet 123 66 = .ok (.iload 5, 2) := by decide +kernel
theorem d123_68 : fet 123 68 = .ok (.ifCond .lt 25, 3) := by decide +kernel
theorem d123_71 : fet 123 71 = .ok (.aload_n 0, 1) := by decide +kernel
theorem d123_72 : fet 123 72 = .ok (.aload 4, 2) := by decide +kernel
theorem d123_74 : fet 123 74 = .ok (.iload_n 2, 1) := by decide +kernel
theorem d123_75 : fet 123 75 = .ok (.iload 5, 2) := by decide +kernel
theorem d123_77 : fet 123 77 = .ok (.iload_n 3, 1) := by decide +kernel
theorem d123_78 : fet 123 78 = .ok (.invokevirtual 346, 3) := by decide +kernel
theorem d123_81 : fet 123 81 = .ok (.ifCond .eq 6, 3) := by decide +kernel
theorem d123_84 : fet 123 84 = .ok (.iload 5, 2) := by decide +kernel
theorem d123_86 : fet 123 86 = .ok (.ireturn, 1) := by decide +kernel
theorem d123_87 : fet 123 87 = .ok (.iinc 5 (-1), 3) := by decide +kernel
theorem d123_90 : fet 123 90 = .ok (.goto (-24), 3) := by decide +kernel
theorem d123_93 : fet 123 93 = .ok (.ldc 243, 2) := by decide +kernel
theorem d123_95 : fet 123 95 = .ok (.ireturn, 1) := by decide +kernel
theorem o124 : own 124 = RX11 := by decide +kernel
theorem d124_0 : fet 124 0 = .ok (.aload_n 0, 1) := by decide +kernel
theorem d124_1 : fet 124 1 = .ok (.getfield 43, 3) := by decide +kernel
theorem d124_4 : fet 124 4 = .ok (.aload_n 1, 1) := by decide +kernel
theorem d124_5 : fet 124 5 = .ok (.invokevirtual 303, 3) := by decide +kernel
theorem d124_8 : fet 124 8 = .ok (.aload_n 0, 1) := by decide +kernel
theorem d124_9 : fet 124 9 = .ok (.getfield 43, 3) := by decide +kernel
theorem d124_12 : fet 124 12 = .ok (.iload_n 3, 1) := by decide +kernel
theorem d124_13 : fet 124 13 = .ok (.invokevirtual 350, 3) := by decide +kernel
theorem d124_16 : fet 124 16 = .ok (.iload_n 3, 1) := by decide +kernel
theorem d124_17 : fet 124 17 = .ok (.istore 5, 2) := by decide +kernel
theorem d124_19 : fet 124 19 = .ok (.iload 5, 2) := by decide +kernel
theorem d124_21 : fet 124 21 = .ok (.iload 4, 2) := by decide +kernel
theorem d124_23 : fet 124 23 = .ok (.if_icmp .ge 51, 3) := by decide +kernel
theorem d124_26 : fet 124 26 = .ok (.iload 5, 2) := by decide +kernel
theorem d124_28 : fet 124 28 = .ok (.aload_n 0, 1) := by decide +kernel
theorem d124_29 : fet 124 29 = .ok (.getfield 73, 3) := by decide +kernel
theorem d124_32 : fet 124 32 = .ok (.arraylength, 1) := by decide +kernel
theorem d124_33 : fet 124 33 = .ok (.if_icmp .ge 41, 3) := by decide +kernel
theorem d124_36 : fet 124 36 = .ok (.aload_n 0, 1) := by decide +kernel
theorem d124_37 : fet 124 37 = .ok (.getfield 43, 3) := by decide +kernel
theorem d124_40 : fet 124 40 = .ok (.getfield 250, 3) := by decide +kernel
theorem d124_43 : fet 124 43 = .ok (.ifCond .ne 31, 3) := by decide +kernel
theorem d124_46 : fet 124 46 = .ok (.aload_n 0, 1) := by decide +kernel
theorem d124_47 : fet 124 47 = .ok (.getfield 43, 3) := by decide +kernel
theorem d124_50 : fet 124 50 = .ok (.aload_n 0, 1) := by decide +kernel
theorem d124_51 : fet 124 51 = .ok (.getfield 73, 3) := by decide +kernel
theorem d124_54 : fet 124 54 = .ok (.iload 5, 2) := by decide +kernel
theorem d124_56 : fet 124 56 = .ok (.iaload, 1) := by decide +kernel
theorem d124_57 : fet 124 57 = .ok (.aload_n 0, 1) := by decide +kernel
theorem d124_58 : fet 124 58 = .ok (.getfield 52, 3) := by decide +kernel
theorem d124_61 : fet 124 61 = .ok (.iload_n 2, 1) := by decide +kernel
theorem d124_62 : fet 124 62 = .ok (.invokevirtual 297, 3) := by decide +kernel
theorem d124_65 : fet 124 65 = .ok (.invokevirtual 343, 3) := by decide +kernel
theorem d124_68 : fet 124 68 = .ok (.iinc 5 1, 3) := by decide +kernel
theorem d124_71 : fet 124 71 = .ok (.goto (-52), 3) := by decide +kernel
theorem d124_74 : fet 124 74 = .ok (.aload_n 0, 1) := by decide +kernel
theorem d124_75 : fet 124 75 = .ok (.getfield 43, 3) := by decide +kernel
theorem d124_78 : fet 124 78 = .ok (.invokevirtual 214, 3) := by decide +kernel
theorem d124_81 : fet 124 81 = .ok (.ireturn, 1) := by decide +kernel
theorem o125 : own 125 = RX11 := by decide +kernel
theorem d125_0 : fet 125 0 = .ok (.aload_n 0, 1) := by decide +kernel
theorem d125_1 : fet 125 1 = .ok (.getfield 52, 3) := by decide +kernel
theorem d125_4 : fet 125 4 = .ok (.iload_n 1, 1) := by decide +kernel
theorem d125_5 : fet 125 5 = .ok (.invokevirtual 177, 3) := by decide +kernel
theorem d125_8 : fet 125 8 = .ok (.astore_n 3, 1) := by decide +kernel
theorem d125_9 : fet 125 9 = .ok (.aload_n 3, 1) := by decide +kernel
theorem d125_10 : fet 125 10 = .ok (.ifnull 11, 3) := by decide +kernel
theorem d125_13 : fet 125 13 = .ok (.iload_n 2, 1) := by decide +kernel
theorem d125_14 : fet 125 14 = .ok (.iconst 1, 1) := by decide +kernel
theorem d125_15 : fet 125 15 = .ok (.invokestatic 278, 3) := by decide +kernel
theorem d125_18 : fet 125 18 = .ok (.ifCond .ne 6, 3) := by decide +kernel
theorem d125_21 : fet 125 21 = .ok (.ldc 100, 2) := by decide +kernel
theorem d125_23 : fet 125 23 = .ok (.ireturn, 1) := by decide +kernel
theorem d125_24 : fet 125 24 = .ok (.aload_n 3, 1) := by decide +kernel
theorem d125_25 : fet 125 25 = .ok (.getfield 195, 3) := by decide +kernel
theorem d125_28 : fet 125 28 = .ok (.invokestatic 198, 3) := by decide +kernel
theorem d125_31 : fet 125 31 = .ok (.ifCond .ne 6, 3) := by decide +kernel
theorem d125_34 : fet 125 34 = .ok (.ldc 167, 2) := by decide +kernel
theorem d125_36 : fet 125 36 = .ok (.ireturn, 1) := by decide +kernel
theorem d125_37 : fet 125 37 = .ok (.aload_n 0, 1) := by decide +kernel
theorem d125_38 : fet 125 38 = .ok (.getfield 52, 3) := by decide +kernel
theorem d125_41 : fet 125 41 = .ok (.getfield 201, 3) := by decide +kernel
theorem d125_44 : fet 125 44 = .ok (.bipush 8, 2) := by decide +kernel
theorem d125_46 : fet 125 46 = .ok (.if_icmp .lt 6, 3) := by decide +kernel
theorem d125_49 : fet 125 49 = .ok (.ldc 145, 2) := by decide +kernel
theorem d125_51 : fet 125 51 = .ok (.ireturn, 1) := by decide +kernel
theorem d125_52 : fet 125 52 = .ok (.aload_n 0, 1) := by decide +kernel
theorem d125_53 : fet 125 53 = .ok (.aload_n 3, 1) := by decide +kernel
theorem d125_54 : fet 125 54 = .ok (.getfield 195, 3) := by decide +kernel
theorem d125_57 : fet 125 57 = .ok (.iload_n 2, 1) := by decide +kernel
theorem d125_58 : fet 125 58 = .ok (.invokevirtual 314, 3) := by decide +kernel
theorem d125_61 : fet 125 61 = .ok (.iconst 0, 1) := by decide +kernel
theorem d125_62 : fet 125 62 = .ok (.istore 4, 2) := by decide +kernel
theorem d125_64 : fet 125 64 = .ok (.iload 4, 2) := by decide +kernel
theorem d125_66 : fet 125 66 = .ok (.bipush 30, 2) := by decide +kernel
theorem d125_68 : fet 125 68 = .ok (.if_icmp .gt 23, 3) := by decide +kernel
theorem d125_71 : fet 125 71 = .ok (.aload_n 0, 1) := by decide +kernel
theorem d125_72 : fet 125 72 = .ok (.aload_n 3, 1) := by decide +kernel
theorem d125_73 : fet 125 73 = .ok (.iload 4, 2) := by decide +kernel
theorem d125_75 : fet 125 75 = .ok (.iload_n 2, 1) := by decide +kernel
theorem d125_76 : fet 125 76 = .ok (.invokevirtual 354, 3) := by decide +kernel
theorem d125_79 : fet 125 79 = .ok (.ifCond .eq 6, 3) := by decide +kernel
theorem d125_82 : fet 125 82 = .ok (.iload 4, 2) := by decide +kernel
theorem d125_84 : fet 125 84 = .ok (.ireturn, 1) := by decide +kernel
theorem d125_85 : fet 125 85 = .ok (.iinc 4 1, 3) := by decide +kernel
theorem d125_88 : fet 125 88 = .ok (.goto (-24), 3) := by decide +kernel
theorem d125_91 : fet 125 91 = .ok (.ldc 243, 2) := by decide +kernel
theorem d125_93 : fet 125 93 = .ok (.ireturn, 1) := by decide +kernel
theorem o126 : own 126 = RX11 := by decide +kernel
theorem d126_0 : fet 126 0 = .ok (.aload_n 0, 1) := by decide +kernel
theorem d126_1 : fet 126 1 = .ok (.getfield 43, 3) := by decide +kernel
theorem d126_4 : fet 126 4 = .ok (.aload_n 1, 1) := by decide +kernel
theorem d126_5 : fet 126 5 = .ok (.invokevirtual 303, 3) := by decide +kernel
theorem d126_8 : fet 126 8 = .ok (.iconst 0, 1) := by decide +kernel
theorem d126_9 : fet 126 9 = .ok (.istore 4, 2) := by decide +kernel
theorem d126_11 : fet 126 11 = .ok (.iload 4, 2) := by decide +kernel
theorem d126_13 : fet 126 13 = .ok (.iload_n 3, 1) := by decide +kernel
theorem d126_14 : fet 126 14 = .ok (.if_icmp .ge 84, 3) := by decide +kernel
theorem d126_17 : fet 126 17 = .ok (.iload 4, 2) := by decide +kernel
theorem d126_19 : fet 126 19 = .ok (.aload_n 0, 1) := by decide +kernel
theorem d126_20 : fet 126 20 = .ok (.getfield 73, 3) := by decide +kernel
theorem d126_23 : fet 126 23 = .ok (.arraylength, 1) := by decide +kernel
theorem d126_24 : fet 126 24 = .ok (.if_icmp .ge 74, 3) := by decide +kernel
theorem d126_27 : fet 126 27 = .ok (.aload_n 0, 1) := by decide +kernel
theorem d126_28 : fet 126 28 = .ok (.getfield 43, 3) := by decide +kernel
theorem d126_31 : fet 126 31 = .ok (.getfield 250, 3) := by decide +kernel
theorem d126_34 : fet 126 34 = .ok (.ifCond .ne 64, 3) := by decide +kernel
theorem d126_37 : fet 126 37 = .ok (.iload 4, 2) := by decide +kernel
theorem d126_39 : fet 126 39 = .ok (.iconst 2, 1) := by decide +kernel
theorem d126_40 : fet 126 40 = .ok (.if_icmp .ge 7, 3) := by decide +kernel
theorem d126_43 : fet 126 43 = .ok (.iconst 0, 1) := by decide +kernel
theorem d126_44 : fet 126 44 = .ok (.goto 18, 3) := by decide +kernel
theorem d126_47 : fet 126 47 = .ok (.iconst 0, 1) := by decide +kernel
theorem d126_48 : fet 126 48 = .ok (.iload_n 2, 1) := by decide +kernel
theorem d126_49 : fet 126 49 = .ok (.aload_n 0, 1) := by decide +kernel
theorem d126_50 : fet 126 50 = .ok (.getfield 52, 3) := by decide +kernel
theorem d126_53 : fet 126 53 = .ok (.iload 4, 2) := by decide +kernel
theorem d126_55 : fet 126 55 = .ok (.invokevirtual 358, 3) := by decide +kernel
theorem d126_58 : fet 126 58 = .ok (.isub, 1) := by decide +kernel
theorem d126_59 : fet 126 59 = .ok (.invokestatic 361, 3) := by decide +kernel
theorem d126_62 : fet 126 62 = .ok (.istore 5, 2) := by decide +kernel
theorem d126_64 : fet 126 64 = .ok (.aload_n 0, 1) := by decide +kernel
theorem d126_65 : fet 126 65 = .ok (.getfield 43, 3) := by decide +kernel
theorem d126_68 : fet 126 68 = .ok (.aload_n 0, 1) := by decide +kernel
theorem d126_69 : fet 126 69 = .ok (.getfield 73, 3) := by decide +kernel
theorem d126_72 : fet 126 72 = .ok (.iload 4, 2) := by decide +kernel
theorem d126_74 : fet 126 74 = .ok (.iaload, 1) := by decide +kernel
theorem d126_75 : fet 126 75 = .ok (.iload 5, 2) := by decide +kernel
theorem d126_77 : fet 126 77 = .ok (.iadd, 1) := by decide +kernel
theorem d126_78 : fet 126 78 = .ok (.aload_n 0, 1) := by decide +kernel
theorem d126_79 : fet 126 79 = .ok (.getfield 52, 3) := by decide +kernel
theorem d126_82 : fet 126 82 = .ok (.aload_n 1, 1) := by decide +kernel
theorem d126_83 : fet 126 83 = .ok (.getfield 195, 3) := by decide +kernel
theorem d126_86 : fet 126 86 = .ok (.invokevirtual 297, 3) := by decide +kernel
theorem d126_89 : fet 126 89 = .ok (.invokevirtual 343, 3) := by decide +kernel
theorem d126_92 : fet 126 92 = .ok (.iinc 4 1, 3) := by decide +kernel
theorem d126_95 : fet 126 95 = .ok (.goto (-84), 3) := by decide +kernel
theorem d126_98 : fet 126 98 = .ok (.aload_n 0, 1) := by decide +kernel
theorem d126_99 : fet 126 99 = .ok (.getfield 43, 3) := by decide +kernel
theorem d126_102 : fet 126 102 = .ok (.invokevirtual 214, 3) := by decide +kernel
theorem d126_105 : fet 126 105 = .ok (.ireturn, 1) := by decide +kernel
theorem o127 : own 127 = RX11 := by decide +kernel
theorem d127_0 : fet 127 0 = .ok (.aload_n 0, 1) := by decide +kernel
theorem d127_1 : fet 127 1 = .ok (.getfield 154, 3) := by decide +kernel
theorem d127_4 : fet 127 4 = .ok (.ifCond .ne 6, 3) := by decide +kernel
theorem d127_7 : fet 127 7 = .ok (.ldc 167, 2) := by decide +kernel
theorem d127_9 : fet 127 9 = .ok (.ireturn, 1) := by decide +kernel
theorem d127_10 : fet 127 10 = .ok (.iload_n 1, 1) := by decide +kernel
theorem d127_11 : fet 127 11 = .ok (.iconst 0, 1) := by decide +kernel
theorem d127_12 : fet 127 12 = .ok (.invokestatic 278, 3) := by decide +kernel
theorem d127_15 : fet 127 15 = .ok (.ifCond .eq 19, 3) := by decide +kernel
theorem d127_18 : fet 127 18 = .ok (.iload_n 2, 1) := by decide +kernel
theorem d127_19 : fet 127 19 = .ok (.iconst (-1), 1) := by decide +kernel
theorem d127_20 : fet 127 20 = .ok (.if_icmp .eq 17, 3) := by decide +kernel
theorem d127_23 : fet 127 23 = .ok (.aload_n 0, 1) := by decide +kernel
theorem d127_24 : fet 127 24 = .ok (.getfield 52, 3) := by decide +kernel
theorem d127_27 : fet 127 27 = .ok (.iload_n 2, 1) := by decide +kernel
theorem d127_28 : fet 127 28 = .ok (.invokevirtual 211, 3) := by decide +kernel
theorem d127_31 : fet 127 31 = .ok (.ifCond .ne 6, 3) := by decide +kernel
theorem d127_34 : fet 127 34 = .ok (.ldc 100, 2) := by decide +kernel
theorem d127_36 : fet 127 36 = .ok (.ireturn, 1) := by decide +kernel
theorem d127_37 : fet 127 37 = .ok (.aload_n 0, 1) := by decide +kernel
theorem d127_38 : fet 127 38 = .ok (.iload_n 1, 1) := by decide +kernel
theorem d127_39 : fet 127 39 = .ok (.invokevirtual 364, 3) := by decide +kernel
theorem d127_42 : fet 127 42 = .ok (.istore_n 3, 1) := by decide +kernel
theorem d127_43 : fet 127 43 = .ok (.iconst 0, 1) := by decide +kernel
theorem d127_44 : fet 127 44 = .ok (.istore 4, 2) := by decide +kernel
theorem d127_46 : fet 127 46 = .ok (.iconst 0, 1) := by decide +kernel
theorem d127_47 : fet 127 47 = .ok (.istore 5, 2) := by decide +kernel
theorem d127_49 : fet 127 49 = .ok (.iload 5, 2) := by decide +kernel
theorem d127_51 : fet 127 51 = .ok (.aload_n 0, 1) := by decide +kernel
theorem d127_52 : fet 127 52 = .ok (.getfield 52, 3) := by decide +kernel
theorem d127_55 : fet 127 55 = .ok (.getfield 367, 3) := by decide +kernel
theorem d127_58 : fet 127 58 = .ok (.if_icmp .ge 47, 3) := by decide +kernel
theorem d127_61 : fet 127 61 = .ok (.aload_n 0, 1) := by decide +kernel
theorem d127_62 : fet 127 62 = .ok (.iload 5, 2) := by decide +kernel
theorem d127_64 : fet 127 64 = .ok (.iload_n 3, 1) := by decide +kernel
theorem d127_65 : fet 127 65 = .ok (.iload_n 1, 1) := by decide +kernel
theorem d127_66 : fet 127 66 = .ok (.invokevirtual 370, 3) := by decide +kernel
theorem d127_69 : fet 127 69 = .ok (.istore 6, 2) := by decide +kernel
theorem d127_71 : fet 127 71 = .ok (.iload 5, 2) := by decide +kernel
theorem d127_73 : fet 127 73 = .ok (.iload_n 2, 1) := by decide +kernel
theorem d127_74 : fet 127 74 = .ok (.if_icmp .ne 6, 3) := by decide +kernel
theorem d127_77 : fet 127 77 = .ok (.iload 6, 2) := by decide +kernel
theorem d127_79 : fet 127 79 = .ok (.ireturn, 1) := by decide +kernel
theorem d127_80 : fet 127 80 = .ok (.iload 6, 2) := by decide +kernel
theorem d127_82 : fet 127 82 = .ok (.ldc 243, 2) := by decide +kernel
theorem d127_84 : fet 127 84 = .ok (.if_icmp .eq 15, 3) := by decide +kernel
theorem d127_87 : fet 127 87 = .ok (.iload_n 3, 1) := by decide +kernel
theorem d127_88 : fet 127 88 = .ok (.iconst 1, 1) := by decide +kernel
theorem d127_89 : fet 127 89 = .ok (.iload 6, 2) := by decide +kernel
theorem d127_91 : fet 127 91 = .ok (.ishl, 1) := by decide +kernel
theorem d127_92 : fet 127 92 = .ok (.iconst (-1), 1) := by decide +kernel
theorem d127_93 : fet 127 93 = .ok (.ixor, 1) := by decide +kernel
theorem d127_94 : fet 127 94 = .ok (.iand, 1) := by decide +kernel
theorem d127_95 : fet 127 95 = .ok (.istore_n 3, 1) := by decide +kernel
theorem d127_96 : fet 127 96 = .ok (.iinc 4 1, 3) := by decide +kernel
theorem d127_99 : fet 127 99 = .ok (.iinc 5 1, 3) := by decide +kernel
theorem d127_102 : fet 127 102 = .ok (.goto (-53), 3) := by decide +kernel
theorem d127_105 : fet 127 105 = .ok (.iload 4, 2) := by decide +kernel
theorem d127_107 : fet 127 107 = .ok (.ireturn, 1) := by decide +kernel
theorem o128 : own 128 = RX11 := by decide +kernel
theorem d128_0 : fet 128 0 = .ok (.iconst 0, 1) := by decide +kernel
theorem d128_1 : fet 128 1 = .ok (.istore_n 2, 1) := by decide +kernel
theorem d128_2 : fet 128 2 = .ok (.iconst 0, 1) := by decide +kernel
theorem d128_3 : fet 128 3 = .ok (.istore_n 3, 1) := by decide +kernel
theorem d128_4 : fet 128 4 = .ok (.iload_n 3, 1) := by decide +kernel
theorem d128_5 : fet 128 5 = .ok (.aload_n 0, 1) := by decide +kernel
theorem d128_6 : fet 128 6 = .ok (.getfield 52, 3) := by decide +kernel
theorem d128_9 : fet 128 9 = .ok (.getfield 161, 3) := by decide +kernel
theorem d128_12 : fet 128 12 = .ok (.if_icmp .ge 53, 3) := by decide +kernel
theorem d128_15 : fet 128 15 = .ok (.aload_n 0, 1) := by decide +kernel
theorem d128_16 : fet 128 16 = .ok (.getfield 52, 3) := by decide +kernel
theorem d128_19 : fet 128 19 = .ok (.getfield 373, 3) := by decide +kernel
theorem d128_22 : fet 128 22 = .ok (.iload_n 3, 1) := by decide +kernel
theorem d128_23 : fet 128 23 = .ok (.aaload, 1) := by decide +kernel
theorem d128_24 : fet 128 24 = .ok (.invokevirtual 181, 3) := by decide +kernel
theorem d128_27 : fet 128 27 = .ok (.ifCond .ne 32, 3) := by decide +kernel
theorem d128_30 : fet 128 30 = .ok (.aload_n 0, 1) := by decide +kernel
theorem d128_31 : fet 128 31 = .ok (.aload_n 0, 1) := by decide +kernel
theorem d128_32 : fet 128 32 = .ok (.getfield 52, 3) := by decide +kernel
theorem d128_35 : fet 128 35 = .ok (.getfield 373, 3) := by decide +kernel
theorem d128_38 : fet 128 38 = .ok (.iload_n 3, 1) := by decide +kernel
theorem d128_39 : fet 128 39 = .ok (.aaload, 1) := by decide +kernel
theorem d128_40 : fet 128 40 = .ok (.iload_n 1, 1) := by decide +kernel
theorem d128_41 : fet 128 41 = .ok (.invokevirtual 281, 3) := by decide +kernel
theorem d128_44 : fet 128 44 = .ok (.iload_n 2, 1) := by decide +kernel
theorem d128_45 : fet 128 45 = .ok (.aload_n 0, 1) := by decide +kernel
theorem d128_46 : fet 128 46 = .ok (.getfield 43, 3) := by decide +kernel
theorem d128_49 : fet 128 49 = .ok (.invokevirtual 214, 3) := by decide +kernel
theorem d128_52 : fet 128 52 = .ok (.invokestatic 253, 3) := by decide +kernel
theorem d128_55 : fet 128 55 = .ok (.iload_n 3, 1) := by decide +kernel
theorem d128_56 : fet 128 56 = .ok (.ishl, 1) := by decide +kernel
theorem d128_57 : fet 128 57 = .ok (.ior, 1) := by decide +kernel
theorem d128_58 : fet 128 58 = .ok (.istore_n 2, 1) := by decide +kernel
theorem d128_59 : fet 128 59 = .ok (.iinc 3 1, 3) := by decide +kernel
theorem d128_62 : fet 128 62 = .ok (.goto (-58), 3) := by decide +kernel
theorem d128_65 : fet 128 65 = .ok (.iload_n 2, 1) := by decide +kernel
theorem d128_66 : fet 128 66 = .ok (.ireturn, 1) := by decide +kernel
theorem o129 : own 129 = RX11 := by decide +kernel
theorem d129_0 : fet 129 0 = .ok (.iconst 0, 1) := by decide +kernel
theorem d129_1 : fet 129 1 = .ok (.istore 4, 2) := by decide +kernel
theorem d129_3 : fet 129 3 = .ok (.iload 4, 2) := by decide +kernel
theorem d129_5 : fet 129 5 = .ok (.aload_n 0, 1) := by decide +kernel
theorem d129_6 : fet 129 6 = .ok (.getfield 52, 3) := by decide +kernel
theorem d129_9 : fet 129 9 = .ok (.getfield 161, 3) := by decide +kernel
theorem d129_12 : fet 129 12 = .ok (.if_icmp .ge 43, 3) := by decide +kernel
theorem d129_15 : fet 129 15 = .ok (.iload_n 2, 1) := by decide +kernel
theorem d129_16 : fet 129 16 = .ok (.iload 4, 2) := by decide +kernel
theorem d129_18 : fet 129 18 = .ok (.ishr, 1) := by decide +kernel
theorem d129_19 : fet 129 19 = .ok (.iconst 1, 1) := by decide +kernel
theorem d129_20 : fet 129 20 = .ok (.iand, 1) := by decide +kernel
theorem d129_21 : fet 129 21 = .ok (.ifCond .eq 28, 3) := by decide +kernel
theorem d129_24 : fet 129 24 = .ok (.aload_n 0, 1) := by decide +kernel
theorem d129_25 : fet 129 25 = .ok (.getfield 52, 3) := by decide +kernel
theorem d129_28 : fet 129 28 = .ok (.iload_n 1, 1) := by decide +kernel
theorem d129_29 : fet 129 29 = .ok (.aload_n 0, 1) := by decide +kernel
theorem d129_30 : fet 129 30 = .ok (.getfield 52, 3) := by decide +kernel
theorem d129_33 : fet 129 33 = .ok (.getfield 373, 3) := by decide +kernel
theorem d129_36 : fet 129 36 = .ok (.iload 4, 2) := by decide +kernel
theorem d129_38 : fet 129 38 = .ok (.aaload, 1) := by decide +kernel
theorem d129_39 : fet 129 39 = .ok (.iload_n 3, 1) := by decide +kernel
theorem d129_40 : fet 129 40 = .ok (.invokevirtual 217, 3) := by decide +kernel
theorem d129_43 : fet 129 43 = .ok (.ifCond .eq 6, 3) := by decide +kernel
theorem d129_46 : fet 129 46 = .ok (.iload 4, 2) := by decide +kernel
theorem d129_48 : fet 129 48 = .ok (.ireturn, 1) := by decide +kernel
theorem d129_49 : fet 129 49 = .ok (.iinc 4 1, 3) := by decide +kernel
theorem d129_52 : fet 129 52 = .ok (.goto (-49), 3) := by decide +kernel
theorem d129_55 : fet 129 55 = .ok (.ldc 243, 2) := by decide +kernel
theorem d129_57 : fet 129 57 = .ok (.ireturn, 1) := by decide +kernel
theorem o130 : own 130 = RX11 := by decide +kernel
theorem d130_0 : fet 130 0 = .ok (.aload_n 0, 1) := by decide +kernel
theorem d130_1 : fet 130 1 = .ok (.getfield 154, 3) := by decide +kernel
theorem d130_4 : fet 130 4 = .ok (.ifCond .ne 6, 3) := by decide +kernel
theorem d130_7 : fet 130 7 = .ok (.ldc 167, 2) := by decide +kernel
theorem d130_9 : fet 130 9 = .ok (.ireturn, 1) := by decide +kernel
theorem d130_10 : fet 130 10 = .ok (.iload_n 1, 1) := by decide +kernel
theorem d130_11 : fet 130 11 = .ok (.iconst 1, 1) := by decide +kernel
theorem d130_12 : fet 130 12 = .ok (.invokestatic 278, 3) := by decide +kernel
theorem d130_15 : fet 130 15 = .ok (.ifCond .eq 12, 3) := by decide +kernel
theorem d130_18 : fet 130 18 = .ok (.iload_n 2, 1) := by decide +kernel
theorem d130_19 : fet 130 19 = .ok (.ifCond .lt 8, 3) := by decide +kernel
theorem d130_22 : fet 130 22 = .ok (.iload_n 2, 1) := by decide +kernel
theorem d130_23 : fet 130 23 = .ok (.iconst 2, 1) := by decide +kernel
theorem d130_24 : fet 130 24 = .ok (.if_icmp .le 6, 3) := by decide +kernel
theorem d130_27 : fet 130 27 = .ok (.ldc 100, 2) := by decide +kernel
theorem d130_29 : fet 130 29 = .ok (.ireturn, 1) := by decide +kernel
theorem d130_30 : fet 130 30 = .ok (.aload_n 0, 1) := by decide +kernel
theorem d130_31 : fet 130 31 = .ok (.invokevirtual 377, 3) := by decide +kernel
theorem d130_34 : fet 130 34 = .ok (.iconst 0, 1) := by decide +kernel
theorem d130_35 : fet 130 35 = .ok (.istore_n 3, 1) := by decide +kernel
theorem d130_36 : fet 130 36 = .ok (.iconst 0, 1) := by decide +kernel
theorem d130_37 : fet 130 37 = .ok (.istore 4, 2) := by decide +kernel
theorem d130_39 : fet 130 39 = .ok (.iload 4, 2) := by decide +kernel
theorem d130_41 : fet 130 41 = .ok (.iload_n 1, 1) := by decide +kernel
theorem d130_42 : fet 130 42 = .ok (.if_icmp .ge 51, 3) := by decide +kernel
theorem d130_45 : fet 130 45 = .ok (.aload_n 0, 1) := by decide +kernel
theorem d130_46 : fet 130 46 = .ok (.getfield 56, 3) := by decide +kernel
theorem d130_49 : fet 130 49 = .ok (.invokevirtual 380, 3) := by decide +kernel
theorem d130_52 : fet 130 52 = .ok (.astore 5, 2) := by decide +kernel
theorem d130_54 : fet 130 54 = .ok (.aload 5, 2) := by decide +kernel
theorem d130_56 : fet 130 56 = .ok (.ifnull 24, 3) := by decide +kernel
theorem d130_59 : fet 130 59 = .ok (.aload 5, 2) := by decide +kernel
theorem d130_61 : fet 130 61 = .ok (.getfield 285, 3) := by decide +kernel
theorem d130_64 : fet 130 64 = .ok (.aload 5, 2) := by decide +kernel
theorem d130_66 : fet 130 66 = .ok (.getfield 288, 3) := by decide +kernel
theorem d130_69 : fet 130 69 = .ok (.if_icmp .le 11, 3) := by decide +kernel
theorem d130_72 : fet 130 72 = .ok (.aload 5, 2) := by decide +kernel
theorem d130_74 : fet 130 74 = .ok (.invokevirtual 185, 3) := by decide +kernel
theorem d130_77 : fet 130 77 = .ok (.iinc 3 1, 3) := by decide +kernel
theorem d130_80 : fet 130 80 = .ok (.aload_n 0, 1) := by decide +kernel
theorem d130_81 : fet 130 81 = .ok (.getfield 56, 3) := by decide +kernel
theorem d130_84 : fet 130 84 = .ok (.invokevirtual 174, 3) := by decide +kernel
theorem d130_87 : fet 130 87 = .ok (.iinc 4 1, 3) := by decide +kernel
theorem d130_90 : fet 130 90 = .ok (.goto (-51), 3) := by decide +kernel
theorem d130_93 : fet 130 93 = .ok (.iload_n 2, 1) := by decide +kernel
theorem d130_94 : fet 130 94 = .ok (.iconst 2, 1) := by decide +kernel
theorem d130_95 : fet 130 95 = .ok (.if_icmp .ne 5, 3) := by decide +kernel
theorem d130_98 : fet 130 98 = .ok (.iload_n 3, 1) := by decide +kernel
theorem d130_99 : fet 130 99 = .ok (.ireturn, 1) := by decide +kernel
theorem d130_100 : fet 130 100 = .ok (.iload_n 2, 1) := by decide +kernel
theorem d130_101 : fet 130 101 = .ok (.ifCond .ne 13, 3) := by decide +kernel
theorem d130_104 : fet 130 104 = .ok (.aload_n 0, 1) := by decide +kernel
theorem d130_105 : fet 130 105 = .ok (.getfield 56, 3) := by decide +kernel
theorem d130_108 : fet 130 108 = .ok (.invokevirtual 384, 3) := by decide +kernel
theorem d130_111 : fet 130 111 = .ok (.goto 10, 3) := by decide +kernel
theorem d130_114 : fet 130 114 = .ok (.aload_n 0, 1) := by decide +kernel
theorem d130_115 : fet 130 115 = .ok (.getfield 56, 3) := by decide +kernel
theorem d130_118 : fet 130 118 = .ok (.invokevirtual 387, 3) := by decide +kernel
theorem d130_121 : fet 130 121 = .ok (.ireturn, 1) := by decide +kernel
theorem o131 : own 131 = RX11 := by decide +kernel
theorem d131_0 : fet 131 0 = .ok (.aload_n 0, 1) := by decide +kernel
theorem d131_1 : fet 131 1 = .ok (.getfield 154, 3) := by decide +kernel
theorem d131_4 : fet 131 4 = .ok (.ifCond .ne 6, 3) := by decide +kernel
theorem d131_7 : fet 131 7 = .ok (.ldc 167, 2) := by decide +kernel
theorem d131_9 : fet 131 9 = .ok (.ireturn, 1) := by decide +kernel
theorem d131_10 : fet 131 10 = .ok (.aload_n 0, 1) := by decide +kernel
theorem d131_11 : fet 131 11 = .ok (.getfield 10, 3) := by decide +kernel
theorem d131_14 : fet 131 14 = .ok (.iload_n 1, 1) := by decide +kernel
theorem d131_15 : fet 131 15 = .ok (.invokevirtual 96, 3) := by decide +kernel
theorem d131_18 : fet 131 18 = .ok (.ifCond .eq 13, 3) := by decide +kernel
theorem d131_21 : fet 131 21 = .ok (.iload_n 3, 1) := by decide +kernel
theorem d131_22 : fet 131 22 = .ok (.ifCond .lt 9, 3) := by decide +kernel
theorem d131_25 : fet 131 25 = .ok (.iload_n 3, 1) := by decide +kernel
theorem d131_26 : fet 131 26 = .ok (.bipush 40, 2) := by decide +kernel
theorem d131_28 : fet 131 28 = .ok (.if_icmp .le 6, 3) := by decide +kernel
theorem d131_31 : fet 131 31 = .ok (.ldc 100, 2) := by decide +kernel
theorem d131_33 : fet 131 33 = .ok (.ireturn, 1) := by decide +kernel
theorem d131_34 : fet 131 34 = .ok (.aload_n 0, 1) := by decide +kernel
theorem d131_35 : fet 131 35 = .ok (.getfield 10, 3) := by decide +kernel
theorem d131_38 : fet 131 38 = .ok (.iload_n 1, 1) := by decide +kernel
theorem d131_39 : fet 131 39 = .ok (.invokevirtual 112, 3) := by decide +kernel
theorem d131_42 : fet 131 42 = .ok (.ifCond .eq 9, 3) := by decide +kernel
theorem d131_45 : fet 131 45 = .ok (.aload_n 0, 1) := by decide +kernel
theorem d131_46 : fet 131 46 = .ok (.iconst 1, 1) := by decide +kernel
theorem d131_47 : fet 131 47 = .ok (.invokevirtual 101, 3) := by decide +kernel
theorem d131_50 : fet 131 50 = .ok (.ireturn, 1) := by decide +kernel
theorem d131_51 : fet 131 51 = .ok (.aload_n 0, 1) := by decide +kernel
theorem d131_52 : fet 131 52 = .ok (.getfield 10, 3) := by decide +kernel
theorem d131_55 : fet 131 55 = .ok (.iload_n 1, 1) := by decide +kernel
theorem d131_56 : fet 131 56 = .ok (.iload_n 2, 1) := by decide +kernel
theorem d131_57 : fet 131 57 = .ok (.iload_n 3, 1) := by decide +kernel
theorem d131_58 : fet 131 58 = .ok (.invokevirtual 115, 3) := by decide +kernel
theorem d131_61 : fet 131 61 = .ok (.ifCond .ne 9, 3) := by decide +kernel
theorem d131_64 : fet 131 64 = .ok (.aload_n 0, 1) := by decide +kernel
theorem d131_65 : fet 131 65 = .ok (.iconst 2, 1) := by decide +kernel
theorem d131_66 : fet 131 66 = .ok (.invokevirtual 101, 3) := by decide +kernel
theorem d131_69 : fet 131 69 = .ok (.ireturn, 1) := by decide +kernel
theorem d131_70 : fet 131 70 = .ok (.aload_n 0, 1) := by decide +kernel
theorem d131_71 : fet 131 71 = .ok (.iload_n 1, 1) := by decide +kernel
theorem d131_72 : fet 131 72 = .ok (.iload_n 2, 1) := by decide +kernel
theorem d131_73 : fet 131 73 = .ok (.iload_n 3, 1) := by decide +kernel
theorem d131_74 : fet 131 74 = .ok (.invokevirtual 390, 3) := by decide +kernel
theorem d131_77 : fet 131 77 = .ok (.ifCond .ne 6, 3) := by decide +kernel
theorem d131_80 : fet 131 80 = .ok (.ldc 100, 2) := by decide +kernel
theorem d131_82 : fet 131 82 = .ok (.ireturn, 1) := by decide +kernel
theorem d131_83 : fet 131 83 = .ok (.aload_n 0, 1) := by decide +kernel
theorem d131_84 : fet 131 84 = .ok (.invokevirtual 377, 3) := by decide +kernel
theorem d131_87 : fet 131 87 = .ok (.iconst 0, 1) := by decide +kernel
theorem d131_88 : fet 131 88 = .ok (.istore 4, 2) := by decide +kernel
theorem d131_90 : fet 131 90 = .ok (.iload 4, 2) := by decide +kernel
theorem d131_92 : fet 131 92 = .ok (.iload_n 3, 1) := by decide +kernel
theorem d131_93 : fet 131 93 = .ok (.if_icmp .ge 47, 3) := by decide +kernel
theorem d131_96 : fet 131 96 = .ok (.aload_n 0, 1) := by decide +kernel
theorem d131_97 : fet 131 97 = .ok (.getfield 56, 3) := by decide +kernel
theorem d131_100 : fet 131 100 = .ok (.aload_n 0, 1) := by decide +kernel
theorem d131_101 : fet 131 101 = .ok (.getfield 10, 3) := by decide +kernel
theorem d131_104 : fet 131 104 = .ok (.iload_n 1, 1) := by decide +kernel
theorem d131_105 : fet 131 105 = .ok (.iload_n 2, 1) := by decide +kernel
theorem d131_106 : fet 131 106 = .ok (.iload 4, 2) := by decide +kernel
theorem d131_108 : fet 131 108 = .ok (.iadd, 1) := by decide +kernel
theorem d131_109 : fet 131 109 = .ok (.invokevirtual 393, 3) := by decide +kernel
theorem d131_112 : fet 131 112 = .ok (.invokevirtual 177, 3) := by decide +kernel
theorem d131_115 : fet 131 115 = .ok (.astore 5, 2) := by decide +kernel
theorem d131_117 : fet 131 117 = .ok (.aload 5, 2) := by decide +kernel
theorem d131_119 : fet 131 119 = .ok (.ifnull 8, 3) := by decide +kernel
theorem d131_122 : fet 131 122 = .ok (.aload 5, 2) := by decide +kernel
theorem d131_124 : fet 131 124 = .ok (.invokevirtual 185, 3) := by decide +kernel
theorem d131_127 : fet 131 127 = .ok (.aload_n 0, 1) := by decide +kernel
theorem d131_128 : fet 131 128 = .ok (.getfield 56, 3) := by decide +kernel
theorem d131_131 : fet 131 131 = .ok (.invokevirtual 174, 3) := by decide +kernel
theorem d131_134 : fet 131 134 = .ok (.iinc 4 1, 3) := by decide +kernel
theorem d131_137 : fet 131 137 = .ok (.goto (-47), 3) := by decide +kernel
theorem d131_140 : fet 131 140 = .ok (.aload_n 0, 1) := by decide +kernel
theorem d131_141 : fet 131 141 = .ok (.aload_n 0, 1) := by decide +kernel
theorem d131_142 : fet 131 142 = .ok (.getfield 56, 3) := by decide +kernel
theorem d131_145 : fet 131 145 = .ok (.invokevirtual 387, 3) := by decide +kernel
theorem d131_148 : fet 131 148 = .ok (.invokevirtual 109, 3) := by decide +kernel
theorem d131_151 : fet 131 151 = .ok (.ireturn, 1) := by decide +kernel
theorem o132 : own 132 = RX11 := by decide +kernel
theorem d132_0 : fet 132 0 = .ok (.iconst 0, 1) := by decide +kernel
theorem d132_1 : fet 132 1 = .ok (.istore 4, 2) := by decide +kernel
theorem d132_3 : fet 132 3 = .ok (.iload 4, 2) := by decide +kernel
theorem d132_5 : fet 132 5 = .ok (.iload_n 3, 1) := by decide +kernel
theorem d132_6 : fet 132 6 = .ok (.if_icmp .ge 55, 3) := by decide +kernel
theorem d132_9 : fet 132 9 = .ok (.aload_n 0, 1) := by decide +kernel
theorem d132_10 : fet 132 10 = .ok (.getfield 10, 3) := by decide +kernel
theorem d132_13 : fet 132 13 = .ok (.iload_n 1, 1) := by decide +kernel
theorem d132_14 : fet 132 14 = .ok (.iload_n 2, 1) := by decide +kernel
theorem d132_15 : fet 132 15 = .ok (.iload 4, 2) := by decide +kernel
theorem d132_17 : fet 132 17 = .ok (.iadd, 1) := by decide +kernel
theorem d132_18 : fet 132 18 = .ok (.invokevirtual 393, 3) := by decide +kernel
theorem d132_21 : fet 132 21 = .ok (.istore 5, 2) := by decide +kernel
theorem d132_23 : fet 132 23 = .ok (.aload_n 0, 1) := by decide +kernel
theorem d132_24 : fet 132 24 = .ok (.getfield 52, 3) := by decide +kernel
theorem d132_27 : fet 132 27 = .ok (.iload 5, 2) := by decide +kernel
theorem d132_29 : fet 132 29 = .ok (.invokevirtual 177, 3) := by decide +kernel
theorem d132_32 : fet 132 32 = .ok (.astore 6, 2) := by decide +kernel
theorem d132_34 : fet 132 34 = .ok (.iload 5, 2) := by decide +kernel
theorem d132_36 : fet 132 36 = .ok (.iconst (-1), 1) := by decide +kernel
theorem d132_37 : fet 132 37 = .ok (.if_icmp .eq 18, 3) := by decide +kernel
theorem d132_40 : fet 132 40 = .ok (.aload 6, 2) := by decide +kernel
theorem d132_42 : fet 132 42 = .ok (.ifnull 11, 3) := by decide +kernel
theorem d132_45 : fet 132 45 = .ok (.aload 6, 2) := by decide +kernel
theorem d132_47 : fet 132 47 = .ok (.invokevirtual 181, 3) := by decide +kernel
theorem d132_50 : fet 132 50 = .ok (.ifCond .eq 5, 3) := by decide +kernel
theorem d132_53 : fet 132 53 = .ok (.iconst 0, 1) := by decide +kernel
theorem d132_54 : fet 132 54 = .ok (.ireturn, 1) := by decide +kernel
theorem d132_55 : fet 132 55 = .ok (.iinc 4 1, 3) := by decide +kernel
theorem d132_58 : fet 132 58 = .ok (.goto (-55), 3) := by decide +kernel
theorem d132_61 : fet 132 61 = .ok (.iconst 1, 1) := by decide +kernel
theorem d132_62 : fet 132 62 = .ok (.ireturn, 1) := by decide +kernel
theorem o133 : own 133 = RX11 := by decide +kernel
theorem d133_0 : fet 133 0 = .ok (.aload_n 0, 1) := by decide +kernel
theorem d133_1 : fet 133 1 = .ok (.getfield 52, 3) := by decide +kernel
theorem d133_4 : fet 133 4 = .ok (.aload_n 0, 1) := by decide +kernel
theorem d133_5 : fet 133 5 = .ok (.getfield 70, 3) := by decide +kernel
theorem d133_8 : fet 133 8 = .ok (.iconst 0, 1) := by decide +kernel
theorem d133_9 : fet 133 9 = .ok (.invokevirtual 234, 3) := by decide +kernel
theorem d133_12 : fet 133 12 = .ok (.aload_n 0, 1) := by decide +kernel
theorem d133_13 : fet 133 13 = .ok (.getfield 56, 3) := by decide +kernel
theorem d133_16 : fet 133 16 = .ok (.aload_n 0, 1) := by decide +kernel
theorem d133_17 : fet 133 17 = .ok (.getfield 70, 3) := by decide +kernel
theorem d133_20 : fet 133 20 = .ok (.iconst 0, 1) := by decide +kernel
theorem d133_21 : fet 133 21 = .ok (.invokevirtual 230, 3) := by decide +kernel
theorem d133_24 : fet 133 24 = .ok (.return_, 1) := by decide +kernel
theorem o134 : own 134 = RX11 := by decide +kernel
theorem d134_0 : fet 134 0 = .ok (.aload_n 0, 1) := by decide +kernel
theorem d134_1 : fet 134 1 = .ok (.getfield 154, 3) := by decide +kernel
theorem d134_4 : fet 134 4 = .ok (.ifCond .ne 6, 3) := by decide +kernel
theorem d134_7 : fet 134 7 = .ok (.ldc 167, 2) := by decide +kernel
theorem d134_9 : fet 134 9 = .ok (.ireturn, 1) := by decide +kernel
theorem d134_10 : fet 134 10 = .ok (.aload_n 0, 1) := by decide +kernel
theorem d134_11 : fet 134 11 = .ok (.getfield 52, 3) := by decide +kernel
theorem d134_14 : fet 134 14 = .ok (.invokevirtual 396, 3) := by decide +kernel
theorem d134_17 : fet 134 17 = .ok (.istore_n 1, 1) := by decide +kernel
theorem d134_18 : fet 134 18 = .ok (.iload_n 1, 1) := by decide +kernel
theorem d134_19 : fet 134 19 = .ok (.sipush 200, 3) := by decide +kernel
theorem d134_22 : fet 134 22 = .ok (.if_icmp .le 8, 3) := by decide +kernel
theorem d134_25 : fet 134 25 = .ok (.ldc 243, 2) := by decide +kernel
theorem d134_27 : fet 134 27 = .ok (.goto 4, 3) := by decide +kernel
theorem d134_30 : fet 134 30 = .ok (.iload_n 1, 1) := by decide +kernel
theorem d134_31 : fet 134 31 = .ok (.ireturn, 1) := by decide +kernel
theorem o135 : own 135 = RX11 := by decide +kernel
theorem d135_0 : fet 135 0 = .ok (.iload_n 1, 1) := by decide +kernel
theorem d135_1 : fet 135 1 = .ok (.invokestatic 399, 3) := by decide +kernel
theorem d135_4 : fet 135 4 = .ok (.ifCond .ne 6, 3) := by decide +kernel
theorem d135_7 : fet 135 7 = .ok (.ldc 100, 2) := by decide +kernel
theorem d135_9 : fet 135 9 = .ok (.ireturn, 1) := by decide +kernel
theorem d135_10 : fet 135 10 = .ok (.aload_n 0, 1) := by decide +kernel
theorem d135_11 : fet 135 11 = .ok (.getfield 154, 3) := by decide +kernel
theorem d135_14 : fet 135 14 = .ok (.ifCond .ne 6, 3) := by decide +kernel
theorem d135_17 : fet 135 17 = .ok (.ldc 167, 2) := by decide +kernel
theorem d135_19 : fet 135 19 = .ok (.ireturn, 1) := by decide +kernel
theorem d135_20 : fet 135 20 = .ok (.aload_n 0, 1) := by decide +kernel
theorem d135_21 : fet 135 21 = .ok (.getfield 52, 3) := by decide +kernel
theorem d135_24 : fet 135 24 = .ok (.aload_n 0, 1) := by decide +kernel
theorem d135_25 : fet 135 25 = .ok (.getfield 63, 3) := by decide +kernel
theorem d135_28 : fet 135 28 = .ok (.iload_n 1, 1) := by decide +kernel
theorem d135_29 : fet 135 29 = .ok (.bipush 84, 2) := by decide +kernel
theorem d135_31 : fet 135 31 = .ok (.imul, 1) := by decide +kernel
theorem d135_32 : fet 135 32 = .ok (.invokevirtual 234, 3) := by decide +kernel
theorem d135_35 : fet 135 35 = .ok (.aload_n 0, 1) := by decide +kernel
theorem d135_36 : fet 135 36 = .ok (.getfield 66, 3) := by decide +kernel
theorem d135_39 : fet 135 39 = .ok (.iload_n 1, 1) := by decide +kernel
theorem d135_40 : fet 135 40 = .ok (.iconst 1, 1) := by decide +kernel
theorem d135_41 : fet 135 41 = .ok (.bastore, 1) := by decide +kernel
theorem d135_42 : fet 135 42 = .ok (.iconst 1, 1) := by decide +kernel
theorem d135_43 : fet 135 43 = .ok (.ireturn, 1) := by decide +kernel
theorem o136 : own 136 = RX11 := by decide +kernel
theorem d136_0 : fet 136 0 = .ok (.iload_n 1, 1) := by decide +kernel
theorem d136_1 : fet 136 1 = .ok (.invokestatic 399, 3) := by decide +kernel
theorem d136_4 : fet 136 4 = .ok (.ifCond .ne 6, 3) := by decide +kernel
theorem d136_7 : fet 136 7 = .ok (.ldc 100, 2) := by decide +kernel
theorem d136_9 : fet 136 9 = .ok (.ireturn, 1) := by decide +kernel
theorem d136_10 : fet 136 10 = .ok (.aload_n 0, 1) := by decide +kernel
theorem d136_11 : fet 136 11 = .ok (.getfield 66, 3) := by decide +kernel
theorem d136_14 : fet 136 14 = .ok (.iload_n 1, 1) := by decide +kernel
theorem d136_15 : fet 136 15 = .ok (.baload, 1) := by decide +kernel
theorem d136_16 : fet 136 16 = .ok (.ifCond .ne 6, 3) := by decide +kernel
theorem d136_19 : fet 136 19 = .ok (.ldc 167, 2) := by decide +kernel
theorem d136_21 : fet 136 21 = .ok (.ireturn, 1) := by decide +kernel
theorem d136_22 : fet 136 22 = .ok (.aload_n 0, 1) := by decide +kernel
theorem d136_23 : fet 136 23 = .ok (.getfield 52, 3) := by decide +kernel
theorem d136_26 : fet 136 26 = .ok (.aload_n 0, 1) := by decide +kernel
theorem d136_27 : fet 136 27 = .ok (.getfield 63, 3) := by decide +kernel
theorem d136_30 : fet 136 30 = .ok (.iload_n 1, 1) := by decide +kernel
theorem d136_31 : fet 136 31 = .ok (.bipush 84, 2) := by decide +kernel
theorem d136_33 : fet 136 33 = .ok (.imul, 1) := by decide +kernel
theorem d136_34 : fet 136 34 = .ok (.invokevirtual 230, 3) := by decide +kernel
theorem d136_37 : fet 136 37 = .ok (.aload_n 0, 1) := by decide +kernel
theorem d136_38 : fet 136 38 = .ok (.iconst 0, 1) := by decide +kernel
theorem d136_39 : fet 136 39 = .ok (.putfield 158, 3) := by decide +kernel
theorem d136_42 : fet 136 42 = .ok (.iconst 1, 1) := by decide +kernel
theorem d136_43 : fet 136 43 = .ok (.ireturn, 1) := by decide +kernel
theorem o137 : own 137 = RX11 := by decide +kernel
theorem d137_0 : fet 137 0 = .ok (.iload_n 0, 1) := by decide +kernel
theorem d137_1 : fet 137 1 = .ok (.ifCond .lt 12, 3) := by decide +kernel
theorem d137_4 : fet 137 4 = .ok (.iload_n 0, 1) := by decide +kernel
theorem d137_5 : fet 137 5 = .ok (.iconst 2, 1) := by decide +kernel
theorem d137_6 : fet 137 6 = .ok (.if_icmp .ge 7, 3) := by decide +kernel
theorem d137_9 : fet 137 9 = .ok (.iconst 1, 1) := by decide +kernel
theorem d137_10 : fet 137 10 = .ok (.goto 4, 3) := by decide +kernel
theorem d137_13 : fet 137 13 = .ok (.iconst 0, 1) := by decide +kernel
theorem d137_14 : fet 137 14 = .ok (.ireturn, 1) := by decide +kernel
theorem o138 : own 138 = RX11 := by decide +kernel
theorem d138_0 : fet 138 0 = .ok (.aload_n 0, 1) := by decide +kernel
theorem d138_1 : fet 138 1 = .ok (.getfield 52, 3) := by decide +kernel
theorem d138_4 : fet 138 4 = .ok (.iload_n 1, 1) := by decide +kernel
theorem d138_5 : fet 138 5 = .ok (.invokevirtual 177, 3) := by decide +kernel
theorem d138_8 : fet 138 8 = .ok (.astore_n 2, 1) := by decide +kernel
theorem d138_9 : fet 138 9 = .ok (.aload_n 2, 1) := by decide +kernel
theorem d138_10 : fet 138 10 = .ok (.ifnonnull 8, 3) := by decide +kernel
theorem d138_13 : fet 138 13 = .ok (.ldc 100, 2) := by decide +kernel
theorem d138_15 : fet 138 15 = .ok (.goto 10, 3) := by decide +kernel
theorem d138_18 : fet 138 18 = .ok (.aload_n 2, 1) := by decide +kernel
theorem d138_19 : fet 138 19 = .ok (.getfield 333, 3) := by decide +kernel
theorem d138_22 : fet 138 22 = .ok (.getfield 402, 3) := by decide +kernel
theorem d138_25 : fet 138 25 = .ok (.ireturn, 1) := by decide +kernel
theorem o139 : own 139 = RX11 := by decide +kernel
theorem d139_0 : fet 139 0 = .ok (.aload_n 0, 1) := by decide +kernel
theorem d139_1 : fet 139 1 = .ok (.getfield 52, 3) := by decide +kernel
theorem d139_4 : fet 139 4 = .ok (.iload_n 1, 1) := by decide +kernel
theorem d139_5 : fet 139 5 = .ok (.invokevirtual 177, 3) := by decide +kernel
theorem d139_8 : fet 139 8 = .ok (.astore_n 3, 1) := by decide +kernel
theorem d139_9 : fet 139 9 = .ok (.aload_n 3, 1) := by decide +kernel
theorem d139_10 : fet 139 10 = .ok (.ifnull 16, 3) := by decide +kernel
theorem d139_13 : fet 139 13 = .ok (.iload_n 2, 1) := by decide +kernel
theorem d139_14 : fet 139 14 = .ok (.ifCond .lt 12, 3) := by decide +kernel
theorem d139_17 : fet 139 17 = .ok (.iload_n 2, 1) := by decide +kernel
theorem d139_18 : fet 139 18 = .ok (.aload_n 0, 1) := by decide +kernel
theorem d139_19 : fet 139 19 = .ok (.getfield 34, 3) := by decide +kernel
theorem d139_22 : fet 139 22 = .ok (.arraylength, 1) := by decide +kernel
theorem d139_23 : fet 139 23 = .ok (.if_icmp .lt 6, 3) := by decide +kernel
theorem d139_26 : fet 139 26 = .ok (.ldc 100, 2) := by decide +kernel
theorem d139_28 : fet 139 28 = .ok (.ireturn, 1) := by decide +kernel
theorem d139_29 : fet 139 29 = .ok (.aload_n 3, 1) := by decide +kernel
theorem d139_30 : fet 139 30 = .ok (.getfield 333, 3) := by decide +kernel
theorem d139_33 : fet 139 33 = .ok (.iload_n 2, 1) := by decide +kernel
theorem d139_34 : fet 139 34 = .ok (.invokestatic 405, 3) := by decide +kernel
theorem d139_37 : fet 139 37 = .ok (.ifCond .eq 11, 3) := by decide +kernel
theorem d139_40 : fet 139 40 = .ok (.aload_n 0, 1) := by decide +kernel
theorem d139_41 : fet 139 41 = .ok (.iload_n 1, 1) := by decide +kernel
theorem d139_42 : fet 139 42 = .ok (.invokevirtual 109, 3) := by decide +kernel
theorem d139_45 : fet 139 45 = .ok (.goto 8, 3) := by decide +kernel
theorem d139_48 : fet 139 48 = .ok (.aload_n 0, 1) := by decide +kernel
theorem d139_49 : fet 139 49 = .ok (.iconst 3, 1) := by decide +kernel
theorem d139_50 : fet 139 50 = .ok (.invokevirtual 101, 3) := by decide +kernel
theorem d139_53 : fet 139 53 = .ok (.ireturn, 1) := by decide +kernel
theorem o140 : own 140 = RX11 := by decide +kernel
theorem d140_0 : fet 140 0 = .ok (.iload_n 1, 1) := by decide +kernel
theorem d140_1 : fet 140 1 = .ok (.tableswitch 66 0 5 #[39, 41, 46, 51, 56, 61], 39) := by decide +kernel
theorem d140_40 : fet 140 40 = .ok (.iconst 1, 1) := by decide +kernel
theorem d140_41 : fet 140 41 = .ok (.ireturn, 1) := by decide +kernel
theorem d140_42 : fet 140 42 = .ok (.aload_n 0, 1) := by decide +kernel
theorem d140_43 : fet 140 43 = .ok (.instanceof 81, 3) := by decide +kernel
theorem d140_46 : fet 140 46 = .ok (.ireturn, 1) := by decide +kernel
theorem d140_47 : fet 140 47 = .ok (.aload_n 0, 1) := by decide +kernel
theorem d140_48 : fet 140 48 = .ok (.instanceof 84, 3) := by decide +kernel
theorem d140_51 : fet 140 51 = .ok (.ireturn, 1) := by decide +kernel
theorem d140_52 : fet 140 52 = .ok (.aload_n 0, 1) := by decide +kernel
theorem d140_53 : fet 140 53 = .ok (.instanceof 87, 3) := by decide +kernel
theorem d140_56 : fet 140 56 = .ok (.ireturn, 1) := by decide +kernel
theorem d140_57 : fet 140 57 = .ok (.aload_n 0, 1) := by decide +kernel
theorem d140_58 : fet 140 58 = .ok (.instanceof 90, 3) := by decide +kernel
theorem d140_61 : fet 140 61 = .ok (.ireturn, 1) := by decide +kernel
theorem d140_62 : fet 140 62 = .ok (.aload_n 0, 1) := by decide +kernel
theorem d140_63 : fet 140 63 = .ok (.instanceof 93, 3) := by decide +kernel
theorem d140_66 : fet 140 66 = .ok (.ireturn, 1) := by decide +kernel
theorem d140_67 : fet 140 67 = .ok (.iconst 0, 1) := by decide +kernel
theorem d140_68 : fet 140 68 = .ok (.ireturn, 1) := by decide +kernel
theorem o141 : own 141 = RX11 := by decide +kernel
theorem d141_0 : fet 141 0 = .ok (.aload_n 0, 1) := by decide +kernel
theorem d141_1 : fet 141 1 = .ok (.getfield 52, 3) := by decide +kernel
theorem d141_4 : fet 141 4 = .ok (.iload_n 1, 1) := by decide +kernel
theorem d141_5 : fet 141 5 = .ok (.invokevirtual 177, 3) := by decide +kernel
theorem d141_8 : fet 141 8 = .ok (.astore_n 3, 1) := by decide +kernel
theorem d141_9 : fet 141 9 = .ok (.aload_n 3, 1) := by decide +kernel
theorem d141_10 : fet 141 10 = .ok (.ifnull 12, 3) := by decide +kernel
theorem d141_13 : fet 141 13 = .ok (.iload_n 2, 1) := by decide +kernel
theorem d141_14 : fet 141 14 = .ok (.ifCond .lt 8, 3) := by decide +kernel
theorem d141_17 : fet 141 17 = .ok (.iload_n 2, 1) := by decide +kernel
theorem d141_18 : fet 141 18 = .ok (.iconst 1, 1) := by decide +kernel
theorem d141_19 : fet 141 19 = .ok (.if_icmp .le 6, 3) := by decide +kernel
theorem d141_22 : fet 141 22 = .ok (.ldc 100, 2) := by decide +kernel
theorem d141_24 : fet 141 24 = .ok (.ireturn, 1) := by decide +kernel
theorem d141_25 : fet 141 25 = .ok (.aload_n 0, 1) := by decide +kernel
theorem d141_26 : fet 141 26 = .ok (.getfield 26, 3) := by decide +kernel
theorem d141_29 : fet 141 29 = .ok (.iconst 0, 1) := by decide +kernel
theorem d141_30 : fet 141 30 = .ok (.putfield 409, 3) := by decide +kernel
theorem d141_33 : fet 141 33 = .ok (.iload_n 2, 1) := by decide +kernel
theorem d141_34 : fet 141 34 = .ok (.ifCond .ne 18, 3) := by decide +kernel
theorem d141_37 : fet 141 37 = .ok (.aload_n 3, 1) := by decide +kernel
theorem d141_38 : fet 141 38 = .ok (.getfield 333, 3) := by decide +kernel
theorem d141_41 : fet 141 41 = .ok (.aload_n 3, 1) := by decide +kernel
theorem d141_42 : fet 141 42 = .ok (.aload_n 0, 1) := by decide +kernel
theorem d141_43 : fet 141 43 = .ok (.getfield 26, 3) := by decide +kernel
theorem d141_46 : fet 141 46 = .ok (.invokevirtual 410, 3) := by decide +kernel
theorem d141_49 : fet 141 49 = .ok (.goto 15, 3) := by decide +kernel
theorem d141_52 : fet 141 52 = .ok (.aload_n 3, 1) := by decide +kernel
theorem d141_53 : fet 141 53 = .ok (.getfield 333, 3) := by decide +kernel
theorem d141_56 : fet 141 56 = .ok (.aload_n 3, 1) := by decide +kernel
theorem d141_57 : fet 141 57 = .ok (.aload_n 0, 1) := by decide +kernel
theorem d141_58 : fet 141 58 = .ok (.getfield 26, 3) := by decide +kernel
theorem d141_61 : fet 141 61 = .ok (.invokevirtual 414, 3) := by decide +kernel
theorem d141_64 : fet 141 64 = .ok (.ireturn, 1) := by decide +kernel
theorem o142 : own 142 = RX11 := by decide +kernel
theorem d142_0 : fet 142 0 = .ok (.iload_n 1, 1) := by decide +kernel
theorem d142_1 : fet 142 1 = .ok (.ifCond .lt 26, 3) := by decide +kernel
theorem d142_4 : fet 142 4 = .ok (.iload_n 1, 1) := by decide +kernel
theorem d142_5 : fet 142 5 = .ok (.aload_n 0, 1) := by decide +kernel
theorem d142_6 : fet 142 6 = .ok (.getfield 26, 3) := by decide +kernel
theorem d142_9 : fet 142 9 = .ok (.getfield 409, 3) := by decide +kernel
theorem d142_12 : fet 142 12 = .ok (.if_icmp .ge 15, 3) := by decide +kernel
theorem d142_15 : fet 142 15 = .ok (.aload_n 0, 1) := by decide +kernel
theorem d142_16 : fet 142 16 = .ok (.getfield 26, 3) := by decide +kernel
theorem d142_19 : fet 142 19 = .ok (.getfield 417, 3) := by decide +kernel
theorem d142_22 : fet 142 22 = .ok (.iload_n 1, 1) := by decide +kernel
theorem d142_23 : fet 142 23 = .ok (.iaload, 1) := by decide +kernel
theorem d142_24 : fet 142 24 = .ok (.goto 5, 3) := by decide +kernel
theorem d142_27 : fet 142 27 = .ok (.ldc 243, 2) := by decide +kernel
theorem d142_29 : fet 142 29 = .ok (.ireturn, 1) := by decide +kernel
theorem o143 : own 143 = RX11 := by decide +kernel
theorem d143_0 : fet 143 0 = .ok (.iload_n 1, 1) := by decide +kernel
theorem d143_1 : fet 143 1 = .ok (.tableswitch 120 0 8 #[51, 59, 67, 75, 83, 91, 99, 107, 112], 51) := by decide +kernel
theorem d143_52 : fet 143 52 = .ok (.aload_n 0, 1) := by decide +kernel
theorem d143_53 : fet 143 53 = .ok (.getfield 10, 3) := by decide +kernel
theorem d143_56 : fet 143 56 = .ok (.invokevirtual 420, 3) := by decide +kernel
theorem d143_59 : fet 143 59 = .ok (.ireturn, 1) := by decide +kernel
theorem d143_60 : fet 143 60 = .ok (.aload_n 0, 1) := by decide +kernel
theorem d143_61 : fet 143 61 = .ok (.getfield 52, 3) := by decide +kernel
theorem d143_64 : fet 143 64 = .ok (.getfield 161, 3) := by decide +kernel
theorem d143_67 : fet 143 67 = .ok (.ireturn, 1) := by decide +kernel
theorem d143_68 : fet 143 68 = .ok (.aload_n 0, 1) := by decide +kernel
theorem d143_69 : fet 143 69 = .ok (.getfield 52, 3) := by decide +kernel
theorem d143_72 : fet 143 72 = .ok (.getfield 201, 3) := by decide +kernel
theorem d143_75 : fet 143 75 = .ok (.ireturn, 1) := by decide +kernel
theorem d143_76 : fet 143 76 = .ok (.aload_n 0, 1) := by decide +kernel
theorem d143_77 : fet 143 77 = .ok (.getfield 52, 3) := by decide +kernel
theorem d143_80 : fet 143 80 = .ok (.getfield 367, 3) := by decide +kernel
theorem d143_83 : fet 143 83 = .ok (.ireturn, 1) := by decide +kernel
theorem d143_84 : fet 143 84 = .ok (.aload_n 0, 1) := by decide +kernel
theorem d143_85 : fet 143 85 = .ok (.getfield 52, 3) := by decide +kernel
theorem d143_88 : fet 143 88 = .ok (.getfield 168, 3) := by decide +kernel
theorem d143_91 : fet 143 91 = .ok (.ireturn, 1) := by decide +kernel
theorem d143_92 : fet 143 92 = .ok (.aload_n 0, 1) := by decide +kernel
theorem d143_93 : fet 143 93 = .ok (.getfield 52, 3) := by decide +kernel
theorem d143_96 : fet 143 96 = .ok (.invokevirtual 224, 3) := by decide +kernel
theorem d143_99 : fet 143 99 = .ok (.ireturn, 1) := by decide +kernel
theorem d143_100 : fet 143 100 = .ok (.aload_n 0, 1) := by decide +kernel
theorem d143_101 : fet 143 101 = .ok (.getfield 52, 3) := by decide +kernel
theorem d143_104 : fet 143 104 = .ok (.invokevirtual 423, 3) := by decide +kernel
theorem d143_107 : fet 143 107 = .ok (.ireturn, 1) := by decide +kernel
theorem d143_108 : fet 143 108 = .ok (.aload_n 0, 1) := by decide +kernel
theorem d143_109 : fet 143 109 = .ok (.getfield 158, 3) := by decide +kernel
theorem d143_112 : fet 143 112 = .ok (.ireturn, 1) := by decide +kernel
theorem d143_113 : fet 143 113 = .ok (.aload_n 0, 1) := by decide +kernel
theorem d143_114 : fet 143 114 = .ok (.getfield 19, 3) := by decide +kernel
theorem d143_117 : fet 143 117 = .ok (.getfield 142, 3) := by decide +kernel
theorem d143_120 : fet 143 120 = .ok (.ireturn, 1) := by decide +kernel
theorem d143_121 : fet 143 121 = .ok (.ldc 100, 2) := by decide +kernel
theorem d143_123 : fet 143 123 = .ok (.ireturn, 1) := by decide +kernel
theorem o144 : own 144 = RX11 := by decide +kernel
theorem d144_0 : fet 144 0 = .ok (.aload_n 0, 1) := by decide +kernel
theorem d144_1 : fet 144 1 = .ok (.getfield 134, 3) := by decide +kernel
theorem d144_4 : fet 144 4 = .ok (.ireturn, 1) := by decide +kernel
theorem o145 : own 145 = RX12 := by decide +kernel
theorem d145_0 : fet 145 0 = .ok (.aload_n 0, 1) := by decide +kernel
theorem d145_1 : fet 145 1 = .ok (.invokespecial 1, 3) := by decide +kernel
theorem d145_4 : fet 145 4 = .ok (.aload_n 0, 1) := by decide +kernel
theorem d145_5 : fet 145 5 = .ok (.bipush 85, 2) := by decide +kernel
theorem d145_7 : fet 145 7 = .ok (.newarray .int, 2) := by decide +kernel
theorem d145_9 : fet 145 9 = .ok (.putfield 7, 3) := by decide +kernel
theorem d145_12 : fet 145 12 = .ok (.aload_n 0, 1) := by decide +kernel
theorem d145_13 : fet 145 13 = .ok (.sipush 170, 3) := by decide +kernel
theorem d145_16 : fet 145 16 = .ok (.newarray .int, 2) := by decide +kernel
theorem d145_18 : fet 145 18 = .ok (.putfield 13, 3) := by decide +kernel
theorem d145_21 : fet 145 21 = .ok (.aload_n 0, 1) := by decide +kernel
theorem d145_22 : fet 145 22 = .ok (.iconst 2, 1) := by decide +kernel
theorem d145_23 : fet 145 23 = .ok (.newarray .boolean, 2) := by decide +kernel
theorem d145_25 : fet 145 25 = .ok (.putfield 16, 3) := by decide +kernel
theorem d145_28 : fet 145 28 = .ok (.aload_n 0, 1) := by decide +kernel
theorem d145_29 : fet 145 29 = .ok (.sipush 1584, 3) := by decide +kernel
theorem d145_32 : fet 145 32 = .ok (.newarray .int, 2) := by decide +kernel
theorem d145_34 : fet 145 34 = .ok (.putfield 20, 3) := by decide +kernel
theorem d145_37 : fet 145 37 = .ok (.aload_n 0, 1) := by decide +kernel
theorem d145_38 : fet 145 38 = .ok (.bipush 8, 2) := by decide +kernel
theorem d145_40 : fet 145 40 = .ok (.newarray .int, 2) := by decide +kernel
theorem d145_42 : fet 145 42 = .ok (.putfield 23, 3) := by decide +kernel
theorem d145_45 : fet 145 45 = .ok (.aload_n 0, 1) := by decide +kernel
theorem d145_46 : fet 145 46 = .ok (.bipush 8, 2) := by decide +kernel
theorem d145_48 : fet 145 48 = .ok (.newarray .int, 2) := by decide +kernel
theorem d145_50 : fet 145 50 = .ok (.putfield 26, 3) := by decide +kernel
theorem d145_53 : fet 145 53 = .ok (.aload_n 0, 1) := by decide +kernel
theorem d145_54 : fet 145 54 = .ok (.sipush 320, 3) := by decide +kernel
theorem d145_57 : fet 145 57 = .ok (.newarray .int, 2) := by decide +kernel
theorem d145_59 : fet 145 59 = .ok (.putfield 29, 3) := by decide +kernel
theorem d145_62 : fet 145 62 = .ok (.aload_n 0, 1) := by decide +kernel
theorem d145_63 : fet 145 63 = .ok (.sipush 160, 3) := by decide +kernel
theorem d145_66 : fet 145 66 = .ok (.newarray .int, 2) := by decide +kernel
theorem d145_68 : fet 145 68 = .ok (.putfield 32, 3) := by decide +kernel
theorem d145_71 : fet 145 71 = .ok (.aload_n 0, 1) := by decide +kernel
theorem d145_72 : fet 145 72 = .ok (.bipush 85, 2) := by decide +kernel
theorem d145_74 : fet 145 74 = .ok (.newarray .int, 2) := by decide +kernel
theorem d145_76 : fet 145 76 = .ok (.putfield 35, 3) := by decide +kernel
theorem d145_79 : fet 145 79 = .ok (.aload_n 0, 1) := by decide +kernel
theorem d145_80 : fet 145 80 = .ok (.bipush 6, 2) := by decide +kernel
theorem d145_82 : fet 145 82 = .ok (.newarray .int, 2) := by decide +kernel
theorem d145_84 : fet 145 84 = .ok (.putfield 38, 3) := by decide +kernel
theorem d145_87 : fet 145 87 = .ok (.aload_n 0, 1) := by decide +kernel
theorem d145_88 : fet 145 88 = .ok (.bipush 66, 2) := by decide +kernel
theorem d145_90 : fet 145 90 = .ok (.newarray .int, 2) := by decide +kernel
theorem d145_92 : fet 145 92 = .ok (.putfield 41, 3) := by decide +kernel
theorem d145_95 : fet 145 95 = .ok (.aload_n 0, 1) := by decide +kernel
theorem d145_96 : fet 145 96 = .ok (.bipush 6, 2) := by decide +kernel
theorem d145_98 : fet 145 98 = .ok (.newarray .boolean, 2) := by decide +kernel
theorem d145_100 : fet 145 100 = .ok (.putfield 44, 3) := by decide +kernel
theorem d145_103 : fet 145 103 = .ok (.aload_n 0, 1) := by decide +kernel
theorem d145_104 : fet 145 104 = .ok (.iconst 4, 1) := by decide +kernel
theorem d145_105 : fet 145 105 = .ok (.newarray .int, 2) := by decide +kernel
theorem d145_107 : fet 145 107 = .ok (.putfield 47, 3) := by decide +kernel
theorem d145_110 : fet 145 110 = .ok (.aload_n 0, 1) := by decide +kernel
theorem d145_111 : fet 145 111 = .ok (.bipush 16, 2) := by decide +kernel
theorem d145_113 : fet 145 113 = .ok (.newarray .int, 2) := by decide +kernel
theorem d145_115 : fet 145 115 = .ok (.putfield 50, 3) := by decide +kernel
theorem d145_118 : fet 145 118 = .ok (.iconst 0, 1) := by decide +kernel
theorem d145_119 : fet 145 119 = .ok (.istore_n 1, 1) := by decide +kernel
theorem d145_120 : fet 145 120 = .ok (.iload_n 1, 1) := by decide +kernel
theorem d145_121 : fet 145 121 = .ok (.bipush 8, 2) := by decide +kernel
theorem d145_123 : fet 145 123 = .ok (.if_icmp .ge 17, 3) := by decide +kernel
theorem d145_126 : fet 145 126 = .ok (.aload_n 0, 1) := by decide +kernel
theorem d145_127 : fet 145 127 = .ok (.getfield 23, 3) := by decide +kernel
theorem d145_130 : fet 145 130 = .ok (.iload_n 1, 1) := by decide +kernel
theorem d145_131 : fet 145 131 = .ok (.ldc 53, 2) := by decide +kernel
theorem d145_133 : fet 145 133 = .ok (.iastore, 1) := by decide +kernel
theorem d145_134 : fet 145 134 = .ok (.iinc 1 1, 3) := by decide +kernel
theorem d145_137 : fet 145 137 = .ok (.goto (-17), 3) := by decide +kernel
theorem d145_140 : fet 145 140 = .ok (.return_, 1) := by decide +kernel
theorem o146 : own 146 = RX12 := by decide +kernel
theorem d146_0 : fet 146 0 = .ok (.iload_n 0, 1) := by decide +kernel
theorem d146_1 : fet 146 1 = .ok (.iload_n 1, 1) := by decide +kernel
theorem d146_2 : fet 146 2 = .ok (.if_icmp .lt 12, 3) := by decide +kernel
theorem d146_5 : fet 146 5 = .ok (.iload_n 0, 1) := by decide +kernel
theorem d146_6 : fet 146 6 = .ok (.iload_n 2, 1) := by decide +kernel
theorem d146_7 : fet 146 7 = .ok (.if_icmp .gt 7, 3) := by decide +kernel
theorem d146_10 : fet 146 10 = .ok (.iconst 1, 1) := by decide +kernel
theorem d146_11 : fet 146 11 = .ok (.goto 4, 3) := by decide +kernel
theorem d146_14 : fet 146 14 = .ok (.iconst 0, 1) := by decide +kernel
theorem d146_15 : fet 146 15 = .ok (.ireturn, 1) := by decide +kernel
theorem o147 : own 147 = RX12 := by decide +kernel
theorem d147_0 : fet 147 0 = .ok (.iload_n 0, 1) := by decide +kernel
theorem d147_1 : fet 147 1 = .ok (.iload_n 1, 1) := by decide +kernel
theorem d147_2 : fet 147 2 = .ok (.ishr, 1) := by decide +kernel
theorem d147_3 : fet 147 3 = .ok (.iconst 1, 1) := by decide +kernel
theorem d147_4 : fet 147 4 = .ok (.iand, 1) := by decide +kernel
theorem d147_5 : fet 147 5 = .ok (.iconst 1, 1) := by decide +kernel
theorem d147_6 : fet 147 6 = .ok (.if_icmp .ne 7, 3) := by decide +kernel
theorem d147_9 : fet 147 9 = .ok (.iconst 1, 1) := by decide +kernel
theorem d147_10 : fet 147 10 = .ok (.goto 4, 3) := by decide +kernel
theorem d147_13 : fet 147 13 = .ok (.iconst 0, 1) := by decide +kernel
theorem d147_14 : fet 147 14 = .ok (.ireturn, 1) := by decide +kernel
theorem o148 : own 148 = RX12 := by decide +kernel
theorem d148_0 : fet 148 0 = .ok (.aload_n 0, 1) := by decide +kernel
theorem d148_1 : fet 148 1 = .ok (.iload_n 1, 1) := by decide +kernel
theorem d148_2 : fet 148 2 = .ok (.putfield 54, 3) := by decide +kernel
theorem d148_5 : fet 148 5 = .ok (.ldc 58, 2) := by decide +kernel
theorem d148_7 : fet 148 7 = .ok (.iload_n 1, 1) := by decide +kernel
theorem d148_8 : fet 148 8 = .ok (.isub, 1) := by decide +kernel
theorem d148_9 : fet 148 9 = .ok (.ireturn, 1) := by decide +kernel
theorem o149 : own 149 = RX12 := by decide +kernel
theorem d149_0 : fet 149 0 = .ok (.aload_n 0, 1) := by decide +kernel
theorem d149_1 : fet 149 1 = .ok (.iconst 0, 1) := by decide +kernel
theorem d149_2 : fet 149 2 = .ok (.putfield 54, 3) := by decide +kernel
theorem d149_5 : fet 149 5 = .ok (.iload_n 1, 1) := by decide +kernel
theorem d149_6 : fet 149 6 = .ok (.ireturn, 1) := by decide +kernel
theorem o150 : own 150 = RX12 := by decide +kernel
theorem d150_0 : fet 150 0 = .ok (.iload_n 0, 1) := by decide +kernel
theorem d150_1 : fet 150 1 = .ok (.iconst 0, 1) := by decide +kernel
theorem d150_2 : fet 150 2 = .ok (.bipush 7, 2) := by decide +kernel
theorem d150_4 : fet 150 4 = .ok (.invokestatic 59, 3) := by decide +kernel
theorem d150_7 : fet 150 7 = .ok (.ireturn, 1) := by decide +kernel
theorem o151 : own 151 = RX12 := by decide +kernel
theorem d151_0 : fet 151 0 = .ok (.iload_n 1, 1) := by decide +kernel
theorem d151_1 : fet 151 1 = .ok (.invokestatic 63, 3) := by decide +kernel
theorem d151_4 : fet 151 4 = .ok (.ifCond .eq 18, 3) := by decide +kernel
theorem d151_7 : fet 151 7 = .ok (.iload_n 2, 1) := by decide +kernel
theorem d151_8 : fet 151 8 = .ok (.iconst 0, 1) := by decide +kernel
theorem d151_9 : fet 151 9 = .ok (.iconst 2, 1) := by decide +kernel
theorem d151_10 : fet 151 10 = .ok (.invokestatic 59, 3) := by decide +kernel
theorem d151_13 : fet 151 13 = .ok (.ifCond .eq 9, 3) := by decide +kernel
theorem d151_16 : fet 151 16 = .ok (.iload_n 3, 1) := by decide +kernel
theorem d151_17 : fet 151 17 = .ok (.bipush 40, 2) := by decide +kernel
theorem d151_19 : fet 151 19 = .ok (.if_icmp .le 6, 3) := by decide +kernel
theorem d151_22 : fet 151 22 = .ok (.ldc 67, 2) := by decide +kernel
theorem d151_24 : fet 151 24 = .ok (.ireturn, 1) := by decide +kernel
theorem d151_25 : fet 151 25 = .ok (.iload_n 3, 1) := by decide +kernel
theorem d151_26 : fet 151 26 = .ok (.ifCond .ge 9, 3) := by decide +kernel
theorem d151_29 : fet 151 29 = .ok (.aload_n 0, 1) := by decide +kernel
theorem d151_30 : fet 151 30 = .ok (.iconst 4, 1) := by decide +kernel
theorem d151_31 : fet 151 31 = .ok (.invokevirtual 68, 3) := by decide +kernel
theorem d151_34 : fet 151 34 = .ok (.ireturn, 1) := by decide +kernel
theorem d151_35 : fet 151 35 = .ok (.aload_n 0, 1) := by decide +kernel
theorem d151_36 : fet 151 36 = .ok (.getfield 23, 3) := by decide +kernel
theorem d151_39 : fet 151 39 = .ok (.iload_n 1, 1) := by decide +kernel
theorem d151_40 : fet 151 40 = .ok (.iload_n 2, 1) := by decide +kernel
theorem d151_41 : fet 151 41 = .ok (.iastore, 1) := by decide +kernel
theorem d151_42 : fet 151 42 = .ok (.aload_n 0, 1) := by decide +kernel
theorem d151_43 : fet 151 43 = .ok (.getfield 26, 3) := by decide +kernel
theorem d151_46 : fet 151 46 = .ok (.iload_n 1, 1) := by decide +kernel
theorem d151_47 : fet 151 47 = .ok (.iload_n 3, 1) := by decide +kernel
theorem d151_48 : fet 151 48 = .ok (.iastore, 1) := by decide +kernel
theorem d151_49 : fet 151 49 = .ok (.iconst 0, 1) := by decide +kernel
theorem d151_50 : fet 151 50 = .ok (.istore 4, 2) := by decide +kernel
theorem d151_52 : fet 151 52 = .ok (.iload 4, 2) := by decide +kernel
theorem d151_54 : fet 151 54 = .ok (.bipush 40, 2) := by decide +kernel
theorem d151_56 : fet 151 56 = .ok (.if_icmp .ge 22, 3) := by decide +kernel
theorem d151_59 : fet 151 59 = .ok (.aload_n 0, 1) := by decide +kernel
theorem d151_60 : fet 151 60 = .ok (.getfield 29, 3) := by decide +kernel
theorem d151_63 : fet 151 63 = .ok (.bipush 40, 2) := by decide +kernel
theorem d151_65 : fet 151 65 = .ok (.iload_n 1, 1) := by decide +kernel
theorem d151_66 : fet 151 66 = .ok (.imul, 1) := by decide +kernel
theorem d151_67 : fet 151 67 = .ok (.iload 4, 2) := by decide +kernel
theorem d151_69 : fet 151 69 = .ok (.iadd, 1) := by decide +kernel
theorem d151_70 : fet 151 70 = .ok (.iconst 0, 1) := by decide +kernel
theorem d151_71 : fet 151 71 = .ok (.iastore, 1) := by decide +kernel
theorem d151_72 : fet 151 72 = .ok (.iinc 4 1, 3) := by decide +kernel
theorem d151_75 : fet 151 75 = .ok (.goto (-23), 3) := by decide +kernel
theorem d151_78 : fet 151 78 = .ok (.aload_n 0, 1) := by decide +kernel
theorem d151_79 : fet 151 79 = .ok (.iload_n 3, 1) := by decide +kernel
theorem d151_80 : fet 151 80 = .ok (.invokevirtual 72, 3) := by decide +kernel
theorem d151_83 : fet 151 83 = .ok (.ireturn, 1) := by decide +kernel
theorem o152 : own 152 = RX12 := by decide +kernel
theorem d152_0 : fet 152 0 = .ok (.iload_n 1, 1) := by decide +kernel
theorem d152_1 : fet 152 1 = .ok (.invokestatic 63, 3) := by decide +kernel
theorem d152_4 : fet 152 4 = .ok (.ifCond .ne 6, 3) := by decide +kernel
theorem d152_7 : fet 152 7 = .ok (.ldc 67, 2) := by decide +kernel
theorem d152_9 : fet 152 9 = .ok (.ireturn, 1) := by decide +kernel
theorem d152_10 : fet 152 10 = .ok (.aload_n 0, 1) := by decide +kernel
theorem d152_11 : fet 152 11 = .ok (.getfield 23, 3) := by decide +kernel
theorem d152_14 : fet 152 14 = .ok (.iload_n 1, 1) := by decide +kernel
theorem d152_15 : fet 152 15 = .ok (.iaload, 1) := by decide +kernel
theorem d152_16 : fet 152 16 = .ok (.ldc 53, 2) := by decide +kernel
theorem d152_18 : fet 152 18 = .ok (.if_icmp .ne 9, 3) := by decide +kernel
theorem d152_21 : fet 152 21 = .ok (.aload_n 0, 1) := by decide +kernel
theorem d152_22 : fet 152 22 = .ok (.iconst 1, 1) := by decide +kernel
theorem d152_23 : fet 152 23 = .ok (.invokevirtual 68, 3) := by decide +kernel
theorem d152_26 : fet 152 26 = .ok (.ireturn, 1) := by decide +kernel
theorem d152_27 : fet 152 27 = .ok (.iload_n 2, 1) := by decide +kernel
theorem d152_28 : fet 152 28 = .ok (.iconst 0, 1) := by decide +kernel
theorem d152_29 : fet 152 29 = .ok (.aload_n 0, 1) := by decide +kernel
theorem d152_30 : fet 152 30 = .ok (.getfield 26, 3) := by decide +kernel
theorem d152_33 : fet 152 33 = .ok (.iload_n 1, 1) := by decide +kernel
theorem d152_34 : fet 152 34 = .ok (.iaload, 1) := by decide +kernel
theorem d152_35 : fet 152 35 = .ok (.iconst 1, 1) := by decide +kernel
theorem d152_36 : fet 152 36 = .ok (.isub, 1) := by decide +kernel
theorem d152_37 : fet 152 37 = .ok (.invokestatic 59, 3) := by decide +kernel
theorem d152_40 : fet 152 40 = .ok (.ifCond .ne 9, 3) := by decide +kernel
theorem d152_43 : fet 152 43 = .ok (.aload_n 0, 1) := by decide +kernel
theorem d152_44 : fet 152 44 = .ok (.iconst 2, 1) := by decide +kernel
theorem d152_45 : fet 152 45 = .ok (.invokevirtual 68, 3) := by decide +kernel
theorem d152_48 : fet 152 48 = .ok (.ireturn, 1) := by decide +kernel
theorem d152_49 : fet 152 49 = .ok (.aload_n 0, 1) := by decide +kernel
theorem d152_50 : fet 152 50 = .ok (.getfield 23, 3) := by decide +kernel
theorem d152_53 : fet 152 53 = .ok (.iload_n 1, 1) := by decide +kernel
theorem d152_54 : fet 152 54 = .ok (.iaload, 1) := by decide +kernel
theorem d152_55 : fet 152 55 = .ok (.ifCond .ne 8, 3) := by decide +kernel
theorem d152_58 : fet 152 58 = .ok (.iload_n 3, 1) := by decide +kernel
theorem d152_59 : fet 152 59 = .ok (.i2b, 1) := by decide +kernel
theorem d152_60 : fet 152 60 = .ok (.goto 19, 3) := by decide +kernel
theorem d152_63 : fet 152 63 = .ok (.aload_n 0, 1) := by decide +kernel
theorem d152_64 : fet 152 64 = .ok (.getfield 23, 3) := by decide +kernel
theorem d152_67 : fet 152 67 = .ok (.iload_n 1, 1) := by decide +kernel
theorem d152_68 : fet 152 68 = .ok (.iaload, 1) := by decide +kernel
theorem d152_69 : fet 152 69 = .ok (.iconst 1, 1) := by decide +kernel
theorem d152_70 : fet 152 70 = .ok (.if_icmp .ne 8, 3) := by decide +kernel
theorem d152_73 : fet 152 73 = .ok (.iload_n 3, 1) := by decide +kernel
theorem d152_74 : fet 152 74 = .ok (.i2s, 1) := by decide +kernel
theorem d152_75 : fet 152 75 = .ok (.goto 4, 3) := by decide +kernel
theorem d152_78 : fet 152 78 = .ok (.iload_n 3, 1) := by decide +kernel
theorem d152_79 : fet 152 79 = .ok (.istore 4, 2) := by decide +kernel
theorem d152_81 : fet 152 81 = .ok (.aload_n 0, 1) := by decide +kernel
theorem d152_82 : fet 152 82 = .ok (.getfield 29, 3) := by decide +kernel
theorem d152_85 : fet 152 85 = .ok (.bipush 40, 2) := by decide +kernel
theorem d152_87 : fet 152 87 = .ok (.iload_n 1, 1) := by decide +kernel
theorem d152_88 : fet 152 88 = .ok (.imul, 1) := by decide +kernel
theorem d152_89 : fet 152 89 = .ok (.iload_n 2, 1) := by decide +kernel
theorem d152_90 : fet 152 90 = .ok (.iadd, 1) := by decide +kernel
theorem d152_91 : fet 152 91 = .ok (.iload 4, 2) := by decide +kernel
theorem d152_93 : fet 152 93 = .ok (.iastore, 1) := by decide +kernel
theorem d152_94 : fet 152 94 = .ok (.aload_n 0, 1) := by decide +kernel
theorem d152_95 : fet 152 95 = .ok (.iload 4, 2) := by decide +kernel
theorem d152_97 : fet 152 97 = .ok (.invokevirtual 72, 3) := by decide +kernel
theorem d152_100 : fet 152 100 = .ok (.ireturn, 1) := by decide +kernel
theorem o153 : own 153 = RX12 := by decide +kernel
theorem d153_0 : fet 153 0 = .ok (.iload_n 2, 1) := by decide +kernel
theorem d153_1 : fet 153 1 = .ok (.ifCond .lt 27, 3) := by decide +kernel
theorem d153_4 : fet 153 4 = .ok (.iload_n 3, 1) := by decide +kernel
theorem d153_5 : fet 153 5 = .ok (.ifCond .lt 23, 3) := by decide +kernel
theorem d153_8 : fet 153 8 = .ok (.iload_n 2, 1) := by decide +kernel
theorem d153_9 : fet 153 9 = .ok (.i2l, 1) := by decide +kernel
theorem d153_10 : fet 153 10 = .ok (.iload_n 3, 1) := by decide +kernel
theorem d153_11 : fet 153 11 = .ok (.i2l, 1) := by decide +kernel
theorem d153_12 : fet 153 12 = .ok (.ladd, 1) := by decide +kernel
theorem d153_13 : fet 153 13 = .ok (.aload_n 0, 1) := by decide +kernel
theorem d153_14 : fet 153 14 = .ok (.getfield 26, 3) := by decide +kernel
theorem d153_17 : fet 153 17 = .ok (.iload_n 1, 1) := by decide +kernel
theorem d153_18 : fet 153 18 = .ok (.iaload, 1) := by decide +kernel
theorem d153_19 : fet 153 19 = .ok (.i2l, 1) := by decide +kernel
theorem d153_20 : fet 153 20 = .ok (.lcmp, 1) := by decide +kernel
theorem d153_21 : fet 153 21 = .ok (.ifCond .gt 7, 3) := by decide +kernel
theorem d153_24 : fet 153 24 = .ok (.iconst 1, 1) := by decide +kernel
theorem d153_25 : fet 153 25 = .ok (.goto 4, 3) := by decide +kernel
theorem d153_28 : fet 153 28 = .ok (.iconst 0, 1) := by decide +kernel
theorem d153_29 : fet 153 29 = .ok (.ireturn, 1) := by decide +kernel
theorem o154 : own 154 = RX12 := by decide +kernel
theorem d154_0 : fet 154 0 = .ok (.iload_n 1, 1) := by decide +kernel
theorem d154_1 : fet 154 1 = .ok (.invokestatic 63, 3) := by decide +kernel
theorem d154_4 : fet 154 4 = .ok (.ifCond .eq 10, 3) := by decide +kernel
theorem d154_7 : fet 154 7 = .ok (.iload_n 3, 1) := by decide +kernel
theorem d154_8 : fet 154 8 = .ok (.invokestatic 63, 3) := by decide +kernel
theorem d154_11 : fet 154 11 = .ok (.ifCond .ne 6, 3) := by decide +kernel
theorem d154_14 : fet 154 14 = .ok (.ldc 67, 2) := by decide +kernel
theorem d154_16 : fet 154 16 = .ok (.ireturn, 1) := by decide +kernel
theorem d154_17 : fet 154 17 = .ok (.aload_n 0, 1) := by decide +kernel
theorem d154_18 : fet 154 18 = .ok (.getfield 23, 3) := by decide +kernel
theorem d154_21 : fet 154 21 = .ok (.iload_n 1, 1) := by decide +kernel
theorem d154_22 : fet 154 22 = .ok (.iaload, 1) := by decide +kernel
theorem d154_23 : fet 154 23 = .ok (.ldc 53, 2) := by decide +kernel
theorem d154_25 : fet 154 25 = .ok (.if_icmp .eq 14, 3) := by decide +kernel
theorem d154_28 : fet 154 28 = .ok (.aload_n 0, 1) := by decide +kernel
theorem d154_29 : fet 154 29 = .ok (.getfield 23, 3) := by decide +kernel
theorem d154_32 : fet 154 32 = .ok (.iload_n 3, 1) := by decide +kernel
theorem d154_33 : fet 154 33 = .ok (.iaload, 1) := by decide +kernel
theorem d154_34 : fet 154 34 = .ok (.ldc 53, 2) := by decide +kernel
theorem d154_36 : fet 154 36 = .ok (.if_icmp .ne 9, 3) := by decide +kernel
theorem d154_39 : fet 154 39 = .ok (.aload_n 0, 1) := by decide +kernel
theorem d154_40 : fet 154 40 = .ok (.iconst 1, 1) := by decide +kernel
theorem d154_41 : fet 154 41 = .ok (.invokevirtual 68, 3) := by decide +kernel
theorem d154_44 : fet 154 44 = .ok (.ireturn, 1) := by decide +kernel
theorem d154_45 : fet 154 45 = .ok (.aload_n 0, 1) := by decide +kernel
theorem d154_46 : fet 154 46 = .ok (.getfield 23, 3) := by decide +kernel
theorem d154_49 : fet 154 49 = .ok (.iload_n 1, 1) := by decide +kernel
theorem d154_50 : fet 154 50 = .ok (.iaload, 1) := by decide +kernel
theorem d154_51 : fet 154 51 = .ok (.aload_n 0, 1) := by decide +kernel
theorem d154_52 : fet 154 52 = .ok (.getfield 23, 3) := by decide +kernel
theorem d154_55 : fet 154 55 = .ok (.iload_n 3, 1) := by decide +kernel
theorem d154_56 : fet 154 56 = .ok (.iaload, 1) := by decide +kernel
theorem d154_57 : fet 154 57 = .ok (.if_icmp .eq 9, 3) := by decide +kernel
theorem d154_60 : fet 154 60 = .ok (.aload_n 0, 1) := by decide +kernel
theorem d154_61 : fet 154 61 = .ok (.iconst 5, 1) := by decide +kernel
theorem d154_62 : fet 154 62 = .ok (.invokevirtual 68, 3) := by decide +kernel
theorem d154_65 : fet 154 65 = .ok (.ireturn, 1) := by decide +kernel
theorem d154_66 : fet 154 66 = .ok (.aload_n 0, 1) := by decide +kernel
theorem d154_67 : fet 154 67 = .ok (.iload_n 1, 1) := by decide +kernel
theorem d154_68 : fet 154 68 = .ok (.iload_n 2, 1) := by decide +kernel
theorem d154_69 : fet 154 69 = .ok (.iload 5, 2) := by decide +kernel
theorem d154_71 : fet 154 71 = .ok (.invokevirtual 75, 3) := by decide +kernel
theorem d154_74 : fet 154 74 = .ok (.ifCond .eq 15, 3) := by decide +kernel
theorem d154_77 : fet 154 77 = .ok (.aload_n 0, 1) := by decide +kernel
theorem d154_78 : fet 154 78 = .ok (.iload_n 3, 1) := by decide +kernel
theorem d154_79 : fet 154 79 = .ok (.iload 4, 2) := by decide +kernel
theorem d154_81 : fet 154 81 = .ok (.iload 5, 2) := by decide +kernel
theorem d154_83 : fet 154 83 = .ok (.invokevirtual 75, 3) := by decide +kernel
theorem d154_86 : fet 154 86 = .ok (.ifCond .ne 9, 3) := by decide +kernel
theorem d154_89 : fet 154 89 = .ok (.aload_n 0, 1) := by decide +kernel
theorem d154_90 : fet 154 90 = .ok (.iconst 2, 1) := by decide +kernel
theorem d154_91 : fet 154 91 = .ok (.invokevirtual 68, 3) := by decide +kernel
theorem d154_94 : fet 154 94 = .ok (.ireturn, 1) := by decide +kernel
theorem d154_95 : fet 154 95 = .ok (.iconst 0, 1) := by decide +kernel
theorem d154_96 : fet 154 96 = .ok (.istore 6, 2) := by decide +kernel
theorem d154_98 : fet 154 98 = .ok (.iload 6, 2) := by decide +kernel
theorem d154_100 : fet 154 100 = .ok (.iload 5, 2) := by decide +kernel
theorem d154_102 : fet 154 102 = .ok (.if_icmp .ge 58, 3) := by decide +kernel
theorem d154_105 : fet 154 105 = .ok (.iload_n 2, 1) := by decide +kernel
theorem d154_106 : fet 154 106 = .ok (.iload 4, 2) := by decide +kernel
theorem d154_108 : fet 154 108 = .ok (.if_icmp .le 8, 3) := by decide +kernel
theorem d154_111 : fet 154 111 = .ok (.iload 6, 2) := by decide +kernel
theorem d154_113 : fet 154 113 = .ok (.goto 10, 3) := by decide +kernel
theorem d154_116 : fet 154 116 = .ok (.iload 5, 2) := by decide +kernel
theorem d154_118 : fet 154 118 = .ok (.iconst 1, 1) := by decide +kernel
theorem d154_119 : fet 154 119 = .ok (.isub, 1) := by decide +kernel
theorem d154_120 : fet 154 120 = .ok (.iload 6, 2) := by decide +kernel
theorem d154_122 : fet 154 122 = .ok (.isub, 1) := by decide +kernel
theorem d154_123 : fet 154 123 = .ok (.istore 7, 2) := by decide +kernel
theorem d154_125 : fet 154 125 = .ok (.aload_n 0, 1) := by decide +kernel
theorem d154_126 : fet 154 126 = .ok (.getfield 29, 3) := by decide +kernel
theorem d154_129 : fet 154 129 = .ok (.bipush 40, 2) := by decide +kernel
theorem d154_131 : fet 154 131 = .ok (.iload_n 3, 1) := by decide +kernel
theorem d154_132 : fet 154 132 = .ok (.imul, 1) := by decide +kernel
theorem d154_133 : fet 154 133 = .ok (.iload 4, 2) := by decide +kernel
theorem d154_135 : fet 154 135 = .ok (.iadd, 1) := by decide +kernel
theorem d154_136 : fet 154 136 = .ok (.iload 7, 2) := by decide +kernel
theorem d154_138 : fet 154 138 = .ok (.iadd, 1) := by decide +kernel
theorem d154_139 : fet 154 139 = .ok (.aload_n 0, 1) := by decide +kernel
theorem d154_140 : fet 154 140 = .ok (.getfield 29, 3) := by decide +kernel
theorem d154_143 : fet 154 143 = .ok (.bipush 40, 2) := by decide +kernel
theorem d154_145 : fet 154 145 = .ok (.iload_n 1, 1) := by decide +kernel
theorem d154_146 : fet 154 146 = .ok (.imul, 1) := by decide +kernel
theorem d154_147 : fet 154 147 = .ok (.iload_n 2, 1) := by decide +kernel
theorem d154_148 : fet 154 148 = .ok (.iadd, 1) := by decide +kernel
theorem d154_149 : fet 154 149 = .ok (.iload 7, 2) := by decide +kernel
theorem d154_151 : fet 154 151 = .ok (.iadd, 1) := by decide +kernel
theorem d154_152 : fet 154 152 = .ok (.iaload, 1) := by decide +kernel
theorem d154_153 : fet 154 153 = .ok (.iastore, 1) := by decide +kernel
theorem d154_154 : fet 154 154 = .ok (.iinc 6 1, 3) := by decide +kernel
theorem d154_157 : fet 154 157 = .ok (.goto (-59), 3) := by decide +kernel
theorem d154_160 : fet 154 160 = .ok (.aload_n 0, 1) := by decide +kernel
theorem d154_161 : fet 154 161 = .ok (.iload 5, 2) := by decide +kernel
theorem d154_163 : fet 154 163 = .ok (.invokevirtual 72, 3) := by decide +kernel
theorem d154_166 : fet 154 166 = .ok (.ireturn, 1) := by decide +kernel
end
section
theorem o155 : own 155 = RX12 := by decide +kernel
theorem d155_0 : fet 155 0 = .ok (.iload_n 1, 1) := by decide +kernel
theorem d155_1 : fet 155 1 = .ok (.invokestatic 63, 3) := by decide +kernel
theorem d155_4 : fet 155 4 = .ok (.ifCond .ne 6, 3) := by decide +kernel
theorem d155_7 : fet 155 7 = .ok (.ldc 67, 2) := by decide +kernel
theorem d155_9 : fet 155 9 = .ok (.ireturn, 1) := by decide +kernel
theorem d155_10 : fet 155 10 = .ok (.aload_n 0, 1) := by decide +kernel
theorem d155_11 : fet 155 11 = .ok (.getfield 23, 3) := by decide +kernel
theorem d155_14 : fet 155 14 = .ok (.iload_n 1, 1) := by decide +kernel
theorem d155_15 : fet 155 15 = .ok (.iaload, 1) := by decide +kernel
theorem d155_16 : fet 155 16 = .ok (.ldc 53, 2) := by decide +kernel
theorem d155_18 : fet 155 18 = .ok (.if_icmp .ne 9, 3) := by decide +kernel
theorem d155_21 : fet 155 21 = .ok (.aload_n 0, 1) := by decide +kernel
theorem d155_22 : fet 155 22 = .ok (.iconst 1, 1) := by decide +kernel
theorem d155_23 : fet 155 23 = .ok (.invokevirtual 68, 3) := by decide +kernel
theorem d155_26 : fet 155 26 = .ok (.ireturn, 1) := by decide +kernel
theorem d155_27 : fet 155 27 = .ok (.aload_n 0, 1) := by decide +kernel
theorem d155_28 : fet 155 28 = .ok (.getfield 23, 3) := by decide +kernel
theorem d155_31 : fet 155 31 = .ok (.iload_n 1, 1) := by decide +kernel
theorem d155_32 : fet 155 32 = .ok (.ldc 53, 2) := by decide +kernel
theorem d155_34 : fet 155 34 = .ok (.iastore, 1) := by decide +kernel
theorem d155_35 : fet 155 35 = .ok (.aload_n 0, 1) := by decide +kernel
theorem d155_36 : fet 155 36 = .ok (.aload_n 0, 1) := by decide +kernel
theorem d155_37 : fet 155 37 = .ok (.getfield 26, 3) := by decide +kernel
theorem d155_40 : fet 155 40 = .ok (.iload_n 1, 1) := by decide +kernel
theorem d155_41 : fet 155 41 = .ok (.iaload, 1) := by decide +kernel
theorem d155_42 : fet 155 42 = .ok (.invokevirtual 72, 3) := by decide +kernel
theorem d155_45 : fet 155 45 = .ok (.ireturn, 1) := by decide +kernel
theorem o156 : own 156 = RX12 := by decide +kernel
theorem d156_0 : fet 156 0 = .ok (.iload_n 1, 1) := by decide +kernel
theorem d156_1 : fet 156 1 = .ok (.iconst 0, 1) := by decide +kernel
theorem d156_2 : fet 156 2 = .ok (.sipush 255, 3) := by decide +kernel
theorem d156_5 : fet 156 5 = .ok (.invokestatic 59, 3) := by decide +kernel
theorem d156_8 : fet 156 8 = .ok (.ifCond .ne 6, 3) := by decide +kernel
theorem d156_11 : fet 156 11 = .ok (.ldc 67, 2) := by decide +kernel
theorem d156_13 : fet 156 13 = .ok (.ireturn, 1) := by decide +kernel
theorem d156_14 : fet 156 14 = .ok (.aload_n 0, 1) := by decide +kernel
theorem d156_15 : fet 156 15 = .ok (.getfield 78, 3) := by decide +kernel
theorem d156_18 : fet 156 18 = .ok (.sipush 160, 3) := by decide +kernel
theorem d156_21 : fet 156 21 = .ok (.if_icmp .ne 6, 3) := by decide +kernel
theorem d156_24 : fet 156 24 = .ok (.ldc 81, 2) := by decide +kernel
theorem d156_26 : fet 156 26 = .ok (.ireturn, 1) := by decide +kernel
theorem d156_27 : fet 156 27 = .ok (.aload_n 0, 1) := by decide +kernel
theorem d156_28 : fet 156 28 = .ok (.getfield 32, 3) := by decide +kernel
theorem d156_31 : fet 156 31 = .ok (.aload_n 0, 1) := by decide +kernel
theorem d156_32 : fet 156 32 = .ok (.getfield 78, 3) := by decide +kernel
theorem d156_35 : fet 156 35 = .ok (.iload_n 1, 1) := by decide +kernel
theorem d156_36 : fet 156 36 = .ok (.iastore, 1) := by decide +kernel
theorem d156_37 : fet 156 37 = .ok (.aload_n 0, 1) := by decide +kernel
theorem d156_38 : fet 156 38 = .ok (.dup, 1) := by decide +kernel
theorem d156_39 : fet 156 39 = .ok (.getfield 78, 3) := by decide +kernel
theorem d156_42 : fet 156 42 = .ok (.iconst 1, 1) := by decide +kernel
theorem d156_43 : fet 156 43 = .ok (.iadd, 1) := by decide +kernel
theorem d156_44 : fet 156 44 = .ok (.putfield 78, 3) := by decide +kernel
theorem d156_47 : fet 156 47 = .ok (.aload_n 0, 1) := by decide +kernel
theorem d156_48 : fet 156 48 = .ok (.getfield 78, 3) := by decide +kernel
theorem d156_51 : fet 156 51 = .ok (.ireturn, 1) := by decide +kernel
theorem o157 : own 157 = RX12 := by decide +kernel
theorem d157_0 : fet 157 0 = .ok (.iload_n 1, 1) := by decide +kernel
theorem d157_1 : fet 157 1 = .ok (.aload_n 0, 1) := by decide +kernel
theorem d157_2 : fet 157 2 = .ok (.getfield 78, 3) := by decide +kernel
theorem d157_5 : fet 157 5 = .ok (.if_icmp .ge 12, 3) := by decide +kernel
theorem d157_8 : fet 157 8 = .ok (.aload_n 0, 1) := by decide +kernel
theorem d157_9 : fet 157 9 = .ok (.getfield 32, 3) := by decide +kernel
theorem d157_12 : fet 157 12 = .ok (.iload_n 1, 1) := by decide +kernel
theorem d157_13 : fet 157 13 = .ok (.iaload, 1) := by decide +kernel
theorem d157_14 : fet 157 14 = .ok (.goto 4, 3) := by decide +kernel
theorem d157_17 : fet 157 17 = .ok (.iconst (-1), 1) := by decide +kernel
theorem d157_18 : fet 157 18 = .ok (.ireturn, 1) := by decide +kernel
theorem o158 : own 158 = RX12 := by decide +kernel
theorem d158_0 : fet 158 0 = .ok (.aload_n 0, 1) := by decide +kernel
theorem d158_1 : fet 158 1 = .ok (.aload_n 0, 1) := by decide +kernel
theorem d158_2 : fet 158 2 = .ok (.getfield 82, 3) := by decide +kernel
theorem d158_5 : fet 158 5 = .ok (.putfield 85, 3) := by decide +kernel
theorem d158_8 : fet 158 8 = .ok (.aload_n 0, 1) := by decide +kernel
theorem d158_9 : fet 158 9 = .ok (.aload_n 0, 1) := by decide +kernel
theorem d158_10 : fet 158 10 = .ok (.getfield 82, 3) := by decide +kernel
theorem d158_13 : fet 158 13 = .ok (.invokevirtual 88, 3) := by decide +kernel
theorem d158_16 : fet 158 16 = .ok (.istore_n 1, 1) := by decide +kernel
theorem d158_17 : fet 158 17 = .ok (.iload_n 1, 1) := by decide +kernel
theorem d158_18 : fet 158 18 = .ok (.ifCond .ge 9, 3) := by decide +kernel
theorem d158_21 : fet 158 21 = .ok (.aload_n 0, 1) := by decide +kernel
theorem d158_22 : fet 158 22 = .ok (.iconst 0, 1) := by decide +kernel
theorem d158_23 : fet 158 23 = .ok (.putfield 91, 3) := by decide +kernel
theorem d158_26 : fet 158 26 = .ok (.return_, 1) := by decide +kernel
theorem d158_27 : fet 158 27 = .ok (.aload_n 0, 1) := by decide +kernel
theorem d158_28 : fet 158 28 = .ok (.dup, 1) := by decide +kernel
theorem d158_29 : fet 158 29 = .ok (.getfield 82, 3) := by decide +kernel
theorem d158_32 : fet 158 32 = .ok (.iconst 1, 1) := by decide +kernel
theorem d158_33 : fet 158 33 = .ok (.iadd, 1) := by decide +kernel
theorem d158_34 : fet 158 34 = .ok (.putfield 82, 3) := by decide +kernel
theorem d158_37 : fet 158 37 = .ok (.aload_n 0, 1) := by decide +kernel
theorem d158_38 : fet 158 38 = .ok (.iload_n 1, 1) := by decide +kernel
theorem d158_39 : fet 158 39 = .ok (.putfield 94, 3) := by decide +kernel
theorem d158_42 : fet 158 42 = .ok (.aload_n 0, 1) := by decide +kernel
theorem d158_43 : fet 158 43 = .ok (.iload_n 1, 1) := by decide +kernel
theorem d158_44 : fet 158 44 = .ok (.bipush 97, 2) := by decide +kernel
theorem d158_46 : fet 158 46 = .ok (.bipush 122, 2) := by decide +kernel
theorem d158_48 : fet 158 48 = .ok (.invokestatic 59, 3) := by decide +kernel
theorem d158_51 : fet 158 51 = .ok (.ifCond .eq 7, 3) := by decide +kernel
theorem d158_54 : fet 158 54 = .ok (.iconst 1, 1) := by decide +kernel
theorem d158_55 : fet 158 55 = .ok (.goto 20, 3) := by decide +kernel
theorem d158_58 : fet 158 58 = .ok (.iload_n 1, 1) := by decide +kernel
theorem d158_59 : fet 158 59 = .ok (.bipush 44, 2) := by decide +kernel
theorem d158_61 : fet 158 61 = .ok (.if_icmp .eq 9, 3) := by decide +kernel
theorem d158_64 : fet 158 64 = .ok (.iload_n 1, 1) := by decide +kernel
theorem d158_65 : fet 158 65 = .ok (.bipush 59, 2) := by decide +kernel
theorem d158_67 : fet 158 67 = .ok (.if_icmp .ne 7, 3) := by decide +kernel
theorem d158_70 : fet 158 70 = .ok (.iconst 3, 1) := by decide +kernel
theorem d158_71 : fet 158 71 = .ok (.goto 4, 3) := by decide +kernel
theorem d158_74 : fet 158 74 = .ok (.iconst 4, 1) := by decide +kernel
theorem d158_75 : fet 158 75 = .ok (.putfield 91, 3) := by decide +kernel
theorem d158_78 : fet 158 78 = .ok (.iload_n 1, 1) := by decide +kernel
theorem d158_79 : fet 158 79 = .ok (.bipush 48, 2) := by decide +kernel
theorem d158_81 : fet 158 81 = .ok (.bipush 57, 2) := by decide +kernel
theorem d158_83 : fet 158 83 = .ok (.invokestatic 59, 3) := by decide +kernel
theorem d158_86 : fet 158 86 = .ok (.ifCond .eq 107, 3) := by decide +kernel
theorem d158_89 : fet 158 89 = .ok (.aload_n 0, 1) := by decide +kernel
theorem d158_90 : fet 158 90 = .ok (.iload_n 1, 1) := by decide +kernel
theorem d158_91 : fet 158 91 = .ok (.bipush 48, 2) := by decide +kernel
theorem d158_93 : fet 158 93 = .ok (.isub, 1) := by decide +kernel
theorem d158_94 : fet 158 94 = .ok (.putfield 94, 3) := by decide +kernel
theorem d158_97 : fet 158 97 = .ok (.aload_n 0, 1) := by decide +kernel
theorem d158_98 : fet 158 98 = .ok (.aload_n 0, 1) := by decide +kernel
theorem d158_99 : fet 158 99 = .ok (.getfield 82, 3) := by decide +kernel
theorem d158_102 : fet 158 102 = .ok (.invokevirtual 88, 3) := by decide +kernel
theorem d158_105 : fet 158 105 = .ok (.bipush 48, 2) := by decide +kernel
theorem d158_107 : fet 158 107 = .ok (.bipush 57, 2) := by decide +kernel
theorem d158_109 : fet 158 109 = .ok (.invokestatic 59, 3) := by decide +kernel
theorem d158_112 : fet 158 112 = .ok (.ifCond .eq 59, 3) := by decide +kernel
theorem d158_115 : fet 158 115 = .ok (.aload_n 0, 1) := by decide +kernel
theorem d158_116 : fet 158 116 = .ok (.aload_n 0, 1) := by decide +kernel
theorem d158_117 : fet 158 117 = .ok (.getfield 82, 3) := by decide +kernel
theorem d158_120 : fet 158 120 = .ok (.aload_n 0, 1) := by decide +kernel
theorem d158_121 : fet 158 121 = .ok (.getfield 85, 3) := by decide +kernel
theorem d158_124 : fet 158 124 = .ok (.isub, 1) := by decide +kernel
theorem d158_125 : fet 158 125 = .ok (.iconst 2, 1) := by decide +kernel
theorem d158_126 : fet 158 126 = .ok (.if_icmp .ge 25, 3) := by decide +kernel
theorem d158_129 : fet 158 129 = .ok (.bipush 10, 2) := by decide +kernel
theorem d158_131 : fet 158 131 = .ok (.aload_n 0, 1) := by decide +kernel
theorem d158_132 : fet 158 132 = .ok (.getfield 94, 3) := by decide +kernel
theorem d158_135 : fet 158 135 = .ok (.imul, 1) := by decide +kernel
theorem d158_136 : fet 158 136 = .ok (.aload_n 0, 1) := by decide +kernel
theorem d158_137 : fet 158 137 = .ok (.aload_n 0, 1) := by decide +kernel
theorem d158_138 : fet 158 138 = .ok (.getfield 82, 3) := by decide +kernel
theorem d158_141 : fet 158 141 = .ok (.invokevirtual 88, 3) := by decide +kernel
theorem d158_144 : fet 158 144 = .ok (.iadd, 1) := by decide +kernel
theorem d158_145 : fet 158 145 = .ok (.bipush 48, 2) := by decide +kernel
theorem d158_147 : fet 158 147 = .ok (.isub, 1) := by decide +kernel
theorem d158_148 : fet 158 148 = .ok (.goto 7, 3) := by decide +kernel
theorem d158_151 : fet 158 151 = .ok (.aload_n 0, 1) := by decide +kernel
theorem d158_152 : fet 158 152 = .ok (.getfield 94, 3) := by decide +kernel
theorem d158_155 : fet 158 155 = .ok (.putfield 94, 3) := by decide +kernel
theorem d158_158 : fet 158 158 = .ok (.aload_n 0, 1) := by decide +kernel
theorem d158_159 : fet 158 159 = .ok (.dup, 1) := by decide +kernel
theorem d158_160 : fet 158 160 = .ok (.getfield 82, 3) := by decide +kernel
theorem d158_163 : fet 158 163 = .ok (.iconst 1, 1) := by decide +kernel
theorem d158_164 : fet 158 164 = .ok (.iadd, 1) := by decide +kernel
theorem d158_165 : fet 158 165 = .ok (.putfield 82, 3) := by decide +kernel
theorem d158_168 : fet 158 168 = .ok (.goto (-71), 3) := by decide +kernel
theorem d158_171 : fet 158 171 = .ok (.aload_n 0, 1) := by decide +kernel
theorem d158_172 : fet 158 172 = .ok (.aload_n 0, 1) := by decide +kernel
theorem d158_173 : fet 158 173 = .ok (.getfield 82, 3) := by decide +kernel
theorem d158_176 : fet 158 176 = .ok (.aload_n 0, 1) := by decide +kernel
theorem d158_177 : fet 158 177 = .ok (.getfield 85, 3) := by decide +kernel
theorem d158_180 : fet 158 180 = .ok (.isub, 1) := by decide +kernel
theorem d158_181 : fet 158 181 = .ok (.iconst 3, 1) := by decide +kernel
theorem d158_182 : fet 158 182 = .ok (.if_icmp .ge 7, 3) := by decide +kernel
theorem d158_185 : fet 158 185 = .ok (.iconst 2, 1) := by decide +kernel
theorem d158_186 : fet 158 186 = .ok (.goto 4, 3) := by decide +kernel
theorem d158_189 : fet 158 189 = .ok (.iconst 4, 1) := by decide +kernel
theorem d158_190 : fet 158 190 = .ok (.putfield 91, 3) := by decide +kernel
theorem d158_193 : fet 158 193 = .ok (.return_, 1) := by decide +kernel
theorem o159 : own 159 = RX12 := by decide +kernel
theorem d159_0 : fet 159 0 = .ok (.aload_n 0, 1) := by decide +kernel
theorem d159_1 : fet 159 1 = .ok (.getfield 97, 3) := by decide +kernel
theorem d159_4 : fet 159 4 = .ok (.ifCond .ne 12, 3) := by decide +kernel
theorem d159_7 : fet 159 7 = .ok (.iload_n 1, 1) := by decide +kernel
theorem d159_8 : fet 159 8 = .ok (.ifCond .ne 8, 3) := by decide +kernel
theorem d159_11 : fet 159 11 = .ok (.aload_n 0, 1) := by decide +kernel
theorem d159_12 : fet 159 12 = .ok (.iload_n 2, 1) := by decide +kernel
theorem d159_13 : fet 159 13 = .ok (.putfield 97, 3) := by decide +kernel
theorem d159_16 : fet 159 16 = .ok (.return_, 1) := by decide +kernel
theorem o160 : own 160 = RX12 := by decide +kernel
theorem d160_0 : fet 160 0 = .ok (.aload_n 0, 1) := by decide +kernel
theorem d160_1 : fet 160 1 = .ok (.getfield 97, 3) := by decide +kernel
theorem d160_4 : fet 160 4 = .ok (.ifCond .ne 7, 3) := by decide +kernel
theorem d160_7 : fet 160 7 = .ok (.aload_n 0, 1) := by decide +kernel
theorem d160_8 : fet 160 8 = .ok (.invokevirtual 100, 3) := by decide +kernel
theorem d160_11 : fet 160 11 = .ok (.return_, 1) := by decide +kernel
theorem o161 : own 161 = RX12 := by decide +kernel
theorem d161_0 : fet 161 0 = .ok (.aload_n 0, 1) := by decide +kernel
theorem d161_1 : fet 161 1 = .ok (.getfield 97, 3) := by decide +kernel
theorem d161_4 : fet 161 4 = .ok (.ifCond .ne 23, 3) := by decide +kernel
theorem d161_7 : fet 161 7 = .ok (.aload_n 0, 1) := by decide +kernel
theorem d161_8 : fet 161 8 = .ok (.getfield 91, 3) := by decide +kernel
theorem d161_11 : fet 161 11 = .ok (.iconst 1, 1) := by decide +kernel
theorem d161_12 : fet 161 12 = .ok (.if_icmp .ne 15, 3) := by decide +kernel
theorem d161_15 : fet 161 15 = .ok (.aload_n 0, 1) := by decide +kernel
theorem d161_16 : fet 161 16 = .ok (.getfield 94, 3) := by decide +kernel
theorem d161_19 : fet 161 19 = .ok (.iload_n 1, 1) := by decide +kernel
theorem d161_20 : fet 161 20 = .ok (.if_icmp .ne 7, 3) := by decide +kernel
theorem d161_23 : fet 161 23 = .ok (.iconst 1, 1) := by decide +kernel
theorem d161_24 : fet 161 24 = .ok (.goto 4, 3) := by decide +kernel
theorem d161_27 : fet 161 27 = .ok (.iconst 0, 1) := by decide +kernel
theorem d161_28 : fet 161 28 = .ok (.ireturn, 1) := by decide +kernel
theorem o162 : own 162 = RX12 := by decide +kernel
theorem d162_0 : fet 162 0 = .ok (.aload_n 0, 1) := by decide +kernel
theorem d162_1 : fet 162 1 = .ok (.aload_n 0, 1) := by decide +kernel
theorem d162_2 : fet 162 2 = .ok (.getfield 91, 3) := by decide +kernel
theorem d162_5 : fet 162 5 = .ok (.iconst 3, 1) := by decide +kernel
theorem d162_6 : fet 162 6 = .ok (.if_icmp .ne 15, 3) := by decide +kernel
theorem d162_9 : fet 162 9 = .ok (.aload_n 0, 1) := by decide +kernel
theorem d162_10 : fet 162 10 = .ok (.getfield 94, 3) := by decide +kernel
theorem d162_13 : fet 162 13 = .ok (.iload_n 1, 1) := by decide +kernel
theorem d162_14 : fet 162 14 = .ok (.if_icmp .ne 7, 3) := by decide +kernel
theorem d162_17 : fet 162 17 = .ok (.iconst 1, 1) := by decide +kernel
theorem d162_18 : fet 162 18 = .ok (.goto 4, 3) := by decide +kernel
theorem d162_21 : fet 162 21 = .ok (.iconst 0, 1) := by decide +kernel
theorem d162_22 : fet 162 22 = .ok (.iconst 1, 1) := by decide +kernel
theorem d162_23 : fet 162 23 = .ok (.invokevirtual 103, 3) := by decide +kernel
theorem d162_26 : fet 162 26 = .ok (.aload_n 0, 1) := by decide +kernel
theorem d162_27 : fet 162 27 = .ok (.invokevirtual 107, 3) := by decide +kernel
theorem d162_30 : fet 162 30 = .ok (.return_, 1) := by decide +kernel
theorem o163 : own 163 = RX12 := by decide +kernel
theorem d163_0 : fet 163 0 = .ok (.aload_n 0, 1) := by decide +kernel
theorem d163_1 : fet 163 1 = .ok (.aload_n 0, 1) := by decide +kernel
theorem d163_2 : fet 163 2 = .ok (.getfield 91, 3) := by decide +kernel
theorem d163_5 : fet 163 5 = .ok (.iconst 2, 1) := by decide +kernel
theorem d163_6 : fet 163 6 = .ok (.if_icmp .ne 7, 3) := by decide +kernel
theorem d163_9 : fet 163 9 = .ok (.iconst 1, 1) := by decide +kernel
theorem d163_10 : fet 163 10 = .ok (.goto 4, 3) := by decide +kernel
theorem d163_13 : fet 163 13 = .ok (.iconst 0, 1) := by decide +kernel
theorem d163_14 : fet 163 14 = .ok (.iconst 1, 1) := by decide +kernel
theorem d163_15 : fet 163 15 = .ok (.invokevirtual 103, 3) := by decide +kernel
theorem d163_18 : fet 163 18 = .ok (.aload_n 0, 1) := by decide +kernel
theorem d163_19 : fet 163 19 = .ok (.aload_n 0, 1) := by decide +kernel
theorem d163_20 : fet 163 20 = .ok (.getfield 94, 3) := by decide +kernel
theorem d163_23 : fet 163 23 = .ok (.iload_n 1, 1) := by decide +kernel
theorem d163_24 : fet 163 24 = .ok (.iload_n 2, 1) := by decide +kernel
theorem d163_25 : fet 163 25 = .ok (.invokestatic 59, 3) := by decide +kernel
theorem d163_28 : fet 163 28 = .ok (.iconst 2, 1) := by decide +kernel
theorem d163_29 : fet 163 29 = .ok (.invokevirtual 103, 3) := by decide +kernel
theorem d163_32 : fet 163 32 = .ok (.aload_n 0, 1) := by decide +kernel
theorem d163_33 : fet 163 33 = .ok (.getfield 94, 3) := by decide +kernel
theorem d163_36 : fet 163 36 = .ok (.istore_n 3, 1) := by decide +kernel
theorem d163_37 : fet 163 37 = .ok (.aload_n 0, 1) := by decide +kernel
theorem d163_38 : fet 163 38 = .ok (.invokevirtual 107, 3) := by decide +kernel
theorem d163_41 : fet 163 41 = .ok (.iload_n 3, 1) := by decide +kernel
theorem d163_42 : fet 163 42 = .ok (.ireturn, 1) := by decide +kernel
theorem o164 : own 164 = RX12 := by decide +kernel
theorem d164_0 : fet 164 0 = .ok (.iload_n 1, 1) := by decide +kernel
theorem d164_1 : fet 164 1 = .ok (.lookupswitch 61 #[(100, 55), (104, 57), (107, 53), (109, 59), (119, 51)], 51) := by decide +kernel
theorem d164_52 : fet 164 52 = .ok (.iconst 1, 1) := by decide +kernel
theorem d164_53 : fet 164 53 = .ok (.ireturn, 1) := by decide +kernel
theorem d164_54 : fet 164 54 = .ok (.iconst 2, 1) := by decide +kernel
theorem d164_55 : fet 164 55 = .ok (.ireturn, 1) := by decide +kernel
theorem d164_56 : fet 164 56 = .ok (.iconst 3, 1) := by decide +kernel
theorem d164_57 : fet 164 57 = .ok (.ireturn, 1) := by decide +kernel
theorem d164_58 : fet 164 58 = .ok (.iconst 4, 1) := by decide +kernel
theorem d164_59 : fet 164 59 = .ok (.ireturn, 1) := by decide +kernel
theorem d164_60 : fet 164 60 = .ok (.iconst 5, 1) := by decide +kernel
theorem d164_61 : fet 164 61 = .ok (.ireturn, 1) := by decide +kernel
theorem d164_62 : fet 164 62 = .ok (.ldc 53, 2) := by decide +kernel
theorem d164_64 : fet 164 64 = .ok (.ireturn, 1) := by decide +kernel
theorem o165 : own 165 = RX12 := by decide +kernel
theorem d165_0 : fet 165 0 = .ok (.aload_n 0, 1) := by decide +kernel
theorem d165_1 : fet 165 1 = .ok (.getfield 97, 3) := by decide +kernel
theorem d165_4 : fet 165 4 = .ok (.ifCond .ne 28, 3) := by decide +kernel
theorem d165_7 : fet 165 7 = .ok (.aload_n 0, 1) := by decide +kernel
theorem d165_8 : fet 165 8 = .ok (.getfield 91, 3) := by decide +kernel
theorem d165_11 : fet 165 11 = .ok (.iconst 1, 1) := by decide +kernel
theorem d165_12 : fet 165 12 = .ok (.if_icmp .ne 20, 3) := by decide +kernel
theorem d165_15 : fet 165 15 = .ok (.aload_n 0, 1) := by decide +kernel
theorem d165_16 : fet 165 16 = .ok (.aload_n 0, 1) := by decide +kernel
theorem d165_17 : fet 165 17 = .ok (.getfield 94, 3) := by decide +kernel
theorem d165_20 : fet 165 20 = .ok (.invokevirtual 110, 3) := by decide +kernel
theorem d165_23 : fet 165 23 = .ok (.ldc 53, 2) := by decide +kernel
theorem d165_25 : fet 165 25 = .ok (.if_icmp .eq 7, 3) := by decide +kernel
theorem d165_28 : fet 165 28 = .ok (.iconst 1, 1) := by decide +kernel
theorem d165_29 : fet 165 29 = .ok (.goto 4, 3) := by decide +kernel
theorem d165_32 : fet 165 32 = .ok (.iconst 0, 1) := by decide +kernel
theorem d165_33 : fet 165 33 = .ok (.ireturn, 1) := by decide +kernel
theorem o166 : own 166 = RX12 := by decide +kernel
theorem d166_0 : fet 166 0 = .ok (.aload_n 0, 1) := by decide +kernel
theorem d166_1 : fet 166 1 = .ok (.aload_n 0, 1) := by decide +kernel
theorem d166_2 : fet 166 2 = .ok (.getfield 91, 3) := by decide +kernel
theorem d166_5 : fet 166 5 = .ok (.iconst 1, 1) := by decide +kernel
theorem d166_6 : fet 166 6 = .ok (.if_icmp .ne 16, 3) := by decide +kernel
theorem d166_9 : fet 166 9 = .ok (.aload_n 0, 1) := by decide +kernel
theorem d166_10 : fet 166 10 = .ok (.getfield 94, 3) := by decide +kernel
theorem d166_13 : fet 166 13 = .ok (.bipush 103, 2) := by decide +kernel
theorem d166_15 : fet 166 15 = .ok (.if_icmp .ne 7, 3) := by decide +kernel
theorem d166_18 : fet 166 18 = .ok (.iconst 1, 1) := by decide +kernel
theorem d166_19 : fet 166 19 = .ok (.goto 4, 3) := by decide +kernel
theorem d166_22 : fet 166 22 = .ok (.iconst 0, 1) := by decide +kernel
theorem d166_23 : fet 166 23 = .ok (.iconst 1, 1) := by decide +kernel
theorem d166_24 : fet 166 24 = .ok (.invokevirtual 103, 3) := by decide +kernel
theorem d166_27 : fet 166 27 = .ok (.aload_n 0, 1) := by decide +kernel
theorem d166_28 : fet 166 28 = .ok (.invokevirtual 107, 3) := by decide +kernel
theorem d166_31 : fet 166 31 = .ok (.aload_n 0, 1) := by decide +kernel
theorem d166_32 : fet 166 32 = .ok (.getfield 35, 3) := by decide +kernel
theorem d166_35 : fet 166 35 = .ok (.iconst 3, 1) := by decide +kernel
theorem d166_36 : fet 166 36 = .ok (.aload_n 0, 1) := by decide +kernel
theorem d166_37 : fet 166 37 = .ok (.iconst 1, 1) := by decide +kernel
theorem d166_38 : fet 166 38 = .ok (.bipush 30, 2) := by decide +kernel
theorem d166_40 : fet 166 40 = .ok (.invokevirtual 113, 3) := by decide +kernel
theorem d166_43 : fet 166 43 = .ok (.iastore, 1) := by decide +kernel
theorem d166_44 : fet 166 44 = .ok (.aload_n 0, 1) := by decide +kernel
theorem d166_45 : fet 166 45 = .ok (.bipush 44, 2) := by decide +kernel
theorem d166_47 : fet 166 47 = .ok (.invokevirtual 117, 3) := by decide +kernel
theorem d166_50 : fet 166 50 = .ok (.aload_n 0, 1) := by decide +kernel
theorem d166_51 : fet 166 51 = .ok (.getfield 35, 3) := by decide +kernel
theorem d166_54 : fet 166 54 = .ok (.iconst 4, 1) := by decide +kernel
theorem d166_55 : fet 166 55 = .ok (.aload_n 0, 1) := by decide +kernel
theorem d166_56 : fet 166 56 = .ok (.iconst 0, 1) := by decide +kernel
theorem d166_57 : fet 166 57 = .ok (.bipush 9, 2) := by decide +kernel
theorem d166_59 : fet 166 59 = .ok (.invokevirtual 113, 3) := by decide +kernel
theorem d166_62 : fet 166 62 = .ok (.iastore, 1) := by decide +kernel
theorem d166_63 : fet 166 63 = .ok (.aload_n 0, 1) := by decide +kernel
theorem d166_64 : fet 166 64 = .ok (.bipush 59, 2) := by decide +kernel
theorem d166_66 : fet 166 66 = .ok (.invokevirtual 117, 3) := by decide +kernel
theorem d166_69 : fet 166 69 = .ok (.return_, 1) := by decide +kernel
theorem o167 : own 167 = RX12 := by decide +kernel
theorem d167_0 : fet 167 0 = .ok (.aload_n 0, 1) := by decide +kernel
theorem d167_1 : fet 167 1 = .ok (.aload_n 0, 1) := by decide +kernel
theorem d167_2 : fet 167 2 = .ok (.getfield 35, 3) := by decide +kernel
theorem d167_5 : fet 167 5 = .ok (.bipush 20, 2) := by decide +kernel
theorem d167_7 : fet 167 7 = .ok (.iaload, 1) := by decide +kernel
theorem d167_8 : fet 167 8 = .ok (.bipush 8, 2) := by decide +kernel
theorem d167_10 : fet 167 10 = .ok (.if_icmp .ge 7, 3) := by decide +kernel
theorem d167_13 : fet 167 13 = .ok (.iconst 1, 1) := by decide +kernel
theorem d167_14 : fet 167 14 = .ok (.goto 4, 3) := by decide +kernel
theorem d167_17 : fet 167 17 = .ok (.iconst 0, 1) := by decide +kernel
theorem d167_18 : fet 167 18 = .ok (.iconst 3, 1) := by decide +kernel
theorem d167_19 : fet 167 19 = .ok (.invokevirtual 103, 3) := by decide +kernel
theorem d167_22 : fet 167 22 = .ok (.aload_n 0, 1) := by decide +kernel
theorem d167_23 : fet 167 23 = .ok (.invokevirtual 107, 3) := by decide +kernel
theorem d167_26 : fet 167 26 = .ok (.aload_n 0, 1) := by decide +kernel
theorem d167_27 : fet 167 27 = .ok (.iconst 0, 1) := by decide +kernel
theorem d167_28 : fet 167 28 = .ok (.bipush 11, 2) := by decide +kernel
theorem d167_30 : fet 167 30 = .ok (.invokevirtual 113, 3) := by decide +kernel
theorem d167_33 : fet 167 33 = .ok (.istore_n 1, 1) := by decide +kernel
theorem d167_34 : fet 167 34 = .ok (.aload_n 0, 1) := by decide +kernel
theorem d167_35 : fet 167 35 = .ok (.bipush 44, 2) := by decide +kernel
theorem d167_37 : fet 167 37 = .ok (.invokevirtual 117, 3) := by decide +kernel
theorem d167_40 : fet 167 40 = .ok (.aload_n 0, 1) := by decide +kernel
theorem d167_41 : fet 167 41 = .ok (.iconst 1, 1) := by decide +kernel
theorem d167_42 : fet 167 42 = .ok (.bipush 30, 2) := by decide +kernel
theorem d167_44 : fet 167 44 = .ok (.invokevirtual 113, 3) := by decide +kernel
theorem d167_47 : fet 167 47 = .ok (.istore_n 2, 1) := by decide +kernel
theorem d167_48 : fet 167 48 = .ok (.aload_n 0, 1) := by decide +kernel
theorem d167_49 : fet 167 49 = .ok (.bipush 59, 2) := by decide +kernel
theorem d167_51 : fet 167 51 = .ok (.invokevirtual 117, 3) := by decide +kernel
theorem d167_54 : fet 167 54 = .ok (.aload_n 0, 1) := by decide +kernel
theorem d167_55 : fet 167 55 = .ok (.getfield 97, 3) := by decide +kernel
theorem d167_58 : fet 167 58 = .ok (.ifCond .ne 46, 3) := by decide +kernel
theorem d167_61 : fet 167 61 = .ok (.aload_n 0, 1) := by decide +kernel
theorem d167_62 : fet 167 62 = .ok (.getfield 35, 3) := by decide +kernel
theorem d167_65 : fet 167 65 = .ok (.bipush 21, 2) := by decide +kernel
theorem d167_67 : fet 167 67 = .ok (.aload_n 0, 1) := by decide +kernel
theorem d167_68 : fet 167 68 = .ok (.getfield 35, 3) := by decide +kernel
theorem d167_71 : fet 167 71 = .ok (.bipush 20, 2) := by decide +kernel
theorem d167_73 : fet 167 73 = .ok (.iaload, 1) := by decide +kernel
theorem d167_74 : fet 167 74 = .ok (.iadd, 1) := by decide +kernel
theorem d167_75 : fet 167 75 = .ok (.iload_n 1, 1) := by decide +kernel
theorem d167_76 : fet 167 76 = .ok (.iastore, 1) := by decide +kernel
theorem d167_77 : fet 167 77 = .ok (.aload_n 0, 1) := by decide +kernel
theorem d167_78 : fet 167 78 = .ok (.getfield 35, 3) := by decide +kernel
theorem d167_81 : fet 167 81 = .ok (.bipush 29, 2) := by decide +kernel
theorem d167_83 : fet 167 83 = .ok (.aload_n 0, 1) := by decide +kernel
theorem d167_84 : fet 167 84 = .ok (.getfield 35, 3) := by decide +kernel
theorem d167_87 : fet 167 87 = .ok (.bipush 20, 2) := by decide +kernel
theorem d167_89 : fet 167 89 = .ok (.iaload, 1) := by decide +kernel
theorem d167_90 : fet 167 90 = .ok (.iadd, 1) := by decide +kernel
theorem d167_91 : fet 167 91 = .ok (.iload_n 2, 1) := by decide +kernel
theorem d167_92 : fet 167 92 = .ok (.iastore, 1) := by decide +kernel
theorem d167_93 : fet 167 93 = .ok (.aload_n 0, 1) := by decide +kernel
theorem d167_94 : fet 167 94 = .ok (.getfield 35, 3) := by decide +kernel
theorem d167_97 : fet 167 97 = .ok (.bipush 20, 2) := by decide +kernel
theorem d167_99 : fet 167 99 = .ok (.dup2, 1) := by decide +kernel
theorem d167_100 : fet 167 100 = .ok (.iaload, 1) := by decide +kernel
theorem d167_101 : fet 167 101 = .ok (.iconst 1, 1) := by decide +kernel
theorem d167_102 : fet 167 102 = .ok (.iadd, 1) := by decide +kernel
theorem d167_103 : fet 167 103 = .ok (.iastore, 1) := by decide +kernel
theorem d167_104 : fet 167 104 = .ok (.return_, 1) := by decide +kernel
theorem o168 : own 168 = RX12 := by decide +kernel
theorem d168_0 : fet 168 0 = .ok (.iconst 0, 1) := by decide +kernel
theorem d168_1 : fet 168 1 = .ok (.istore_n 2, 1) := by decide +kernel
theorem d168_2 : fet 168 2 = .ok (.iconst 0, 1) := by decide +kernel
theorem d168_3 : fet 168 3 = .ok (.istore_n 3, 1) := by decide +kernel
theorem d168_4 : fet 168 4 = .ok (.iload_n 3, 1) := by decide +kernel
theorem d168_5 : fet 168 5 = .ok (.aload_n 0, 1) := by decide +kernel
theorem d168_6 : fet 168 6 = .ok (.getfield 35, 3) := by decide +kernel
theorem d168_9 : fet 168 9 = .ok (.iconst 1, 1) := by decide +kernel
theorem d168_10 : fet 168 10 = .ok (.iaload, 1) := by decide +kernel
theorem d168_11 : fet 168 11 = .ok (.if_icmp .ge 32, 3) := by decide +kernel
theorem d168_14 : fet 168 14 = .ok (.iload_n 2, 1) := by decide +kernel
theorem d168_15 : fet 168 15 = .ok (.ifCond .ne 16, 3) := by decide +kernel
theorem d168_18 : fet 168 18 = .ok (.aload_n 0, 1) := by decide +kernel
theorem d168_19 : fet 168 19 = .ok (.getfield 35, 3) := by decide +kernel
theorem d168_22 : fet 168 22 = .ok (.bipush 45, 2) := by decide +kernel
theorem d168_24 : fet 168 24 = .ok (.iload_n 3, 1) := by decide +kernel
theorem d168_25 : fet 168 25 = .ok (.iadd, 1) := by decide +kernel
theorem d168_26 : fet 168 26 = .ok (.iaload, 1) := by decide +kernel
theorem d168_27 : fet 168 27 = .ok (.iload_n 1, 1) := by decide +kernel
theorem d168_28 : fet 168 28 = .ok (.if_icmp .ne 7, 3) := by decide +kernel
theorem d168_31 : fet 168 31 = .ok (.iconst 1, 1) := by decide +kernel
theorem d168_32 : fet 168 32 = .ok (.goto 4, 3) := by decide +kernel
theorem d168_35 : fet 168 35 = .ok (.iconst 0, 1) := by decide +kernel
theorem d168_36 : fet 168 36 = .ok (.istore_n 2, 1) := by decide +kernel
theorem d168_37 : fet 168 37 = .ok (.iinc 3 1, 3) := by decide +kernel
theorem d168_40 : fet 168 40 = .ok (.goto (-36), 3) := by decide +kernel
theorem d168_43 : fet 168 43 = .ok (.iload_n 2, 1) := by decide +kernel
theorem d168_44 : fet 168 44 = .ok (.ifCond .eq 13, 3) := by decide +kernel
theorem d168_47 : fet 168 47 = .ok (.iload_n 1, 1) := by decide +kernel
theorem d168_48 : fet 168 48 = .ok (.bipush 12, 2) := by decide +kernel
theorem d168_50 : fet 168 50 = .ok (.if_icmp .eq 7, 3) := by decide +kernel
theorem d168_53 : fet 168 53 = .ok (.iconst 1, 1) := by decide +kernel
theorem d168_54 : fet 168 54 = .ok (.goto 4, 3) := by decide +kernel
theorem d168_57 : fet 168 57 = .ok (.iconst 0, 1) := by decide +kernel
theorem d168_58 : fet 168 58 = .ok (.ireturn, 1) := by decide +kernel
theorem o169 : own 169 = RX12 := by decide +kernel
theorem d169_0 : fet 169 0 = .ok (.aload_n 0, 1) := by decide +kernel
theorem d169_1 : fet 169 1 = .ok (.aload_n 0, 1) := by decide +kernel
theorem d169_2 : fet 169 2 = .ok (.getfield 94, 3) := by decide +kernel
theorem d169_5 : fet 169 5 = .ok (.invokevirtual 110, 3) := by decide +kernel
theorem d169_8 : fet 169 8 = .ok (.istore_n 1, 1) := by decide +kernel
theorem d169_9 : fet 169 9 = .ok (.aload_n 0, 1) := by decide +kernel
theorem d169_10 : fet 169 10 = .ok (.aload_n 0, 1) := by decide +kernel
theorem d169_11 : fet 169 11 = .ok (.getfield 35, 3) := by decide +kernel
theorem d169_14 : fet 169 14 = .ok (.iconst 1, 1) := by decide +kernel
theorem d169_15 : fet 169 15 = .ok (.iaload, 1) := by decide +kernel
theorem d169_16 : fet 169 16 = .ok (.bipush 6, 2) := by decide +kernel
theorem d169_18 : fet 169 18 = .ok (.if_icmp .ge 7, 3) := by decide +kernel
theorem d169_21 : fet 169 21 = .ok (.iconst 1, 1) := by decide +kernel
theorem d169_22 : fet 169 22 = .ok (.goto 4, 3) := by decide +kernel
theorem d169_25 : fet 169 25 = .ok (.iconst 0, 1) := by decide +kernel
theorem d169_26 : fet 169 26 = .ok (.iconst 3, 1) := by decide +kernel
theorem d169_27 : fet 169 27 = .ok (.invokevirtual 103, 3) := by decide +kernel
theorem d169_30 : fet 169 30 = .ok (.aload_n 0, 1) := by decide +kernel
theorem d169_31 : fet 169 31 = .ok (.invokevirtual 107, 3) := by decide +kernel
theorem d169_34 : fet 169 34 = .ok (.aload_n 0, 1) := by decide +kernel
theorem d169_35 : fet 169 35 = .ok (.getfield 97, 3) := by decide +kernel
theorem d169_38 : fet 169 38 = .ok (.ifCond .ne 55, 3) := by decide +kernel
theorem d169_41 : fet 169 41 = .ok (.aload_n 0, 1) := by decide +kernel
theorem d169_42 : fet 169 42 = .ok (.aload_n 0, 1) := by decide +kernel
theorem d169_43 : fet 169 43 = .ok (.getfield 91, 3) := by decide +kernel
theorem d169_46 : fet 169 46 = .ok (.iconst 2, 1) := by decide +kernel
theorem d169_47 : fet 169 47 = .ok (.if_icmp .ne 7, 3) := by decide +kernel
theorem d169_50 : fet 169 50 = .ok (.iconst 1, 1) := by decide +kernel
theorem d169_51 : fet 169 51 = .ok (.goto 4, 3) := by decide +kernel
theorem d169_54 : fet 169 54 = .ok (.iconst 0, 1) := by decide +kernel
theorem d169_55 : fet 169 55 = .ok (.iconst 1, 1) := by decide +kernel
theorem d169_56 : fet 169 56 = .ok (.invokevirtual 103, 3) := by decide +kernel
theorem d169_59 : fet 169 59 = .ok (.aload_n 0, 1) := by decide +kernel
theorem d169_60 : fet 169 60 = .ok (.aload_n 0, 1) := by decide +kernel
theorem d169_61 : fet 169 61 = .ok (.getfield 94, 3) := by decide +kernel
theorem d169_64 : fet 169 64 = .ok (.iconst 0, 1) := by decide +kernel
theorem d169_65 : fet 169 65 = .ok (.bipush 12, 2) := by decide +kernel
theorem d169_67 : fet 169 67 = .ok (.invokestatic 59, 3) := by decide +kernel
theorem d169_70 : fet 169 70 = .ok (.ifCond .eq 18, 3) := by decide +kernel
theorem d169_73 : fet 169 73 = .ok (.aload_n 0, 1) := by decide +kernel
theorem d169_74 : fet 169 74 = .ok (.aload_n 0, 1) := by decide +kernel
theorem d169_75 : fet 169 75 = .ok (.getfield 94, 3) := by decide +kernel
theorem d169_78 : fet 169 78 = .ok (.invokevirtual 121, 3) := by decide +kernel
theorem d169_81 : fet 169 81 = .ok (.ifCond .ne 7, 3) := by decide +kernel
theorem d169_84 : fet 169 84 = .ok (.iconst 1, 1) := by decide +kernel
theorem d169_85 : fet 169 85 = .ok (.goto 4, 3) := by decide +kernel
theorem d169_88 : fet 169 88 = .ok (.iconst 0, 1) := by decide +kernel
theorem d169_89 : fet 169 89 = .ok (.iconst 2, 1) := by decide +kernel
theorem d169_90 : fet 169 90 = .ok (.invokevirtual 103, 3) := by decide +kernel
theorem d169_93 : fet 169 93 = .ok (.aload_n 0, 1) := by decide +kernel
theorem d169_94 : fet 169 94 = .ok (.getfield 94, 3) := by decide +kernel
theorem d169_97 : fet 169 97 = .ok (.istore_n 2, 1) := by decide +kernel
theorem d169_98 : fet 169 98 = .ok (.aload_n 0, 1) := by decide +kernel
theorem d169_99 : fet 169 99 = .ok (.invokevirtual 107, 3) := by decide +kernel
theorem d169_102 : fet 169 102 = .ok (.aload_n 0, 1) := by decide +kernel
theorem d169_103 : fet 169 103 = .ok (.bipush 59, 2) := by decide +kernel
theorem d169_105 : fet 169 105 = .ok (.invokevirtual 117, 3) := by decide +kernel
theorem d169_108 : fet 169 108 = .ok (.aload_n 0, 1) := by decide +kernel
theorem d169_109 : fet 169 109 = .ok (.getfield 97, 3) := by decide +kernel
theorem d169_112 : fet 169 112 = .ok (.ifCond .ne 42, 3) := by decide +kernel
theorem d169_115 : fet 169 115 = .ok (.aload_n 0, 1) := by decide +kernel
theorem d169_116 : fet 169 116 = .ok (.getfield 35, 3) := by decide +kernel
theorem d169_119 : fet 169 119 = .ok (.iconst 5, 1) := by decide +kernel
theorem d169_120 : fet 169 120 = .ok (.aload_n 0, 1) := by decide +kernel
theorem d169_121 : fet 169 121 = .ok (.getfield 35, 3) := by decide +kernel
theorem d169_124 : fet 169 124 = .ok (.iconst 1, 1) := by decide +kernel
theorem d169_125 : fet 169 125 = .ok (.iaload, 1) := by decide +kernel
theorem d169_126 : fet 169 126 = .ok (.iadd, 1) := by decide +kernel
theorem d169_127 : fet 169 127 = .ok (.iload_n 1, 1) := by decide +kernel
theorem d169_128 : fet 169 128 = .ok (.iastore, 1) := by decide +kernel
theorem d169_129 : fet 169 129 = .ok (.aload_n 0, 1) := by decide +kernel
theorem d169_130 : fet 169 130 = .ok (.getfield 35, 3) := by decide +kernel
theorem d169_133 : fet 169 133 = .ok (.bipush 45, 2) := by decide +kernel
theorem d169_135 : fet 169 135 = .ok (.aload_n 0, 1) := by decide +kernel
theorem d169_136 : fet 169 136 = .ok (.getfield 35, 3) := by decide +kernel
theorem d169_139 : fet 169 139 = .ok (.iconst 1, 1) := by decide +kernel
theorem d169_140 : fet 169 140 = .ok (.iaload, 1) := by decide +kernel
theorem d169_141 : fet 169 141 = .ok (.iadd, 1) := by decide +kernel
theorem d169_142 : fet 169 142 = .ok (.iload_n 2, 1) := by decide +kernel
theorem d169_143 : fet 169 143 = .ok (.iastore, 1) := by decide +kernel
theorem d169_144 : fet 169 144 = .ok (.aload_n 0, 1) := by decide +kernel
theorem d169_145 : fet 169 145 = .ok (.getfield 35, 3) := by decide +kernel
theorem d169_148 : fet 169 148 = .ok (.iconst 1, 1) := by decide +kernel
theorem d169_149 : fet 169 149 = .ok (.dup2, 1) := by decide +kernel
theorem d169_150 : fet 169 150 = .ok (.iaload, 1) := by decide +kernel
theorem d169_151 : fet 169 151 = .ok (.iconst 1, 1) := by decide +kernel
theorem d169_152 : fet 169 152 = .ok (.iadd, 1) := by decide +kernel
theorem d169_153 : fet 169 153 = .ok (.iastore, 1) := by decide +kernel
theorem d169_154 : fet 169 154 = .ok (.return_, 1) := by decide +kernel
theorem o170 : own 170 = RX12 := by decide +kernel
theorem d170_0 : fet 170 0 = .ok (.aload_n 0, 1) := by decide +kernel
theorem d170_1 : fet 170 1 = .ok (.aload_n 0, 1) := by decide +kernel
theorem d170_2 : fet 170 2 = .ok (.getfield 35, 3) := by decide +kernel
theorem d170_5 : fet 170 5 = .ok (.iconst 2, 1) := by decide +kernel
theorem d170_6 : fet 170 6 = .ok (.iaload, 1) := by decide +kernel
theorem d170_7 : fet 170 7 = .ok (.iconst 4, 1) := by decide +kernel
theorem d170_8 : fet 170 8 = .ok (.if_icmp .ge 7, 3) := by decide +kernel
theorem d170_11 : fet 170 11 = .ok (.iconst 1, 1) := by decide +kernel
theorem d170_12 : fet 170 12 = .ok (.goto 4, 3) := by decide +kernel
theorem d170_15 : fet 170 15 = .ok (.iconst 0, 1) := by decide +kernel
theorem d170_16 : fet 170 16 = .ok (.iconst 3, 1) := by decide +kernel
theorem d170_17 : fet 170 17 = .ok (.invokevirtual 103, 3) := by decide +kernel
theorem d170_20 : fet 170 20 = .ok (.aload_n 0, 1) := by decide +kernel
theorem d170_21 : fet 170 21 = .ok (.invokevirtual 107, 3) := by decide +kernel
theorem d170_24 : fet 170 24 = .ok (.aload_n 0, 1) := by decide +kernel
theorem d170_25 : fet 170 25 = .ok (.aload_n 0, 1) := by decide +kernel
theorem d170_26 : fet 170 26 = .ok (.invokevirtual 124, 3) := by decide +kernel
theorem d170_29 : fet 170 29 = .ok (.iconst 1, 1) := by decide +kernel
theorem d170_30 : fet 170 30 = .ok (.invokevirtual 103, 3) := by decide +kernel
theorem d170_33 : fet 170 33 = .ok (.aload_n 0, 1) := by decide +kernel
theorem d170_34 : fet 170 34 = .ok (.getfield 97, 3) := by decide +kernel
theorem d170_37 : fet 170 37 = .ok (.ifCond .ne 14, 3) := by decide +kernel
theorem d170_40 : fet 170 40 = .ok (.aload_n 0, 1) := by decide +kernel
theorem d170_41 : fet 170 41 = .ok (.aload_n 0, 1) := by decide +kernel
theorem d170_42 : fet 170 42 = .ok (.getfield 94, 3) := by decide +kernel
theorem d170_45 : fet 170 45 = .ok (.invokevirtual 110, 3) := by decide +kernel
theorem d170_48 : fet 170 48 = .ok (.goto 5, 3) := by decide +kernel
theorem d170_51 : fet 170 51 = .ok (.ldc 53, 2) := by decide +kernel
theorem d170_53 : fet 170 53 = .ok (.istore_n 1, 1) := by decide +kernel
theorem d170_54 : fet 170 54 = .ok (.aload_n 0, 1) := by decide +kernel
theorem d170_55 : fet 170 55 = .ok (.invokevirtual 107, 3) := by decide +kernel
theorem d170_58 : fet 170 58 = .ok (.aload_n 0, 1) := by decide +kernel
theorem d170_59 : fet 170 59 = .ok (.iconst 0, 1) := by decide +kernel
theorem d170_60 : fet 170 60 = .ok (.bipush 60, 2) := by decide +kernel
theorem d170_62 : fet 170 62 = .ok (.invokevirtual 113, 3) := by decide +kernel
theorem d170_65 : fet 170 65 = .ok (.istore_n 2, 1) := by decide +kernel
theorem d170_66 : fet 170 66 = .ok (.aload_n 0, 1) := by decide +kernel
theorem d170_67 : fet 170 67 = .ok (.bipush 59, 2) := by decide +kernel
theorem d170_69 : fet 170 69 = .ok (.invokevirtual 117, 3) := by decide +kernel
theorem d170_72 : fet 170 72 = .ok (.aload_n 0, 1) := by decide +kernel
theorem d170_73 : fet 170 73 = .ok (.getfield 97, 3) := by decide +kernel
theorem d170_76 : fet 170 76 = .ok (.ifCond .ne 59, 3) := by decide +kernel
theorem d170_79 : fet 170 79 = .ok (.aload_n 0, 1) := by decide +kernel
theorem d170_80 : fet 170 80 = .ok (.getfield 35, 3) := by decide +kernel
theorem d170_83 : fet 170 83 = .ok (.bipush 11, 2) := by decide +kernel
theorem d170_85 : fet 170 85 = .ok (.aload_n 0, 1) := by decide +kernel
theorem d170_86 : fet 170 86 = .ok (.getfield 35, 3) := by decide +kernel
theorem d170_89 : fet 170 89 = .ok (.iconst 2, 1) := by decide +kernel
theorem d170_90 : fet 170 90 = .ok (.iaload, 1) := by decide +kernel
theorem d170_91 : fet 170 91 = .ok (.iadd, 1) := by decide +kernel
theorem d170_92 : fet 170 92 = .ok (.iload_n 1, 1) := by decide +kernel
theorem d170_93 : fet 170 93 = .ok (.iastore, 1) := by decide +kernel
theorem d170_94 : fet 170 94 = .ok (.aload_n 0, 1) := by decide +kernel
theorem d170_95 : fet 170 95 = .ok (.getfield 35, 3) := by decide +kernel
theorem d170_98 : fet 170 98 = .ok (.bipush 15, 2) := by decide +kernel
theorem d170_100 : fet 170 100 = .ok (.aload_n 0, 1) := by decide +kernel
theorem d170_101 : fet 170 101 = .ok (.getfield 35, 3) := by decide +kernel
theorem d170_104 : fet 170 104 = .ok (.iconst 2, 1) := by decide +kernel
theorem d170_105 : fet 170 105 = .ok (.iaload, 1) := by decide +kernel
theorem d170_106 : fet 170 106 = .ok (.iadd, 1) := by decide +kernel
theorem d170_107 : fet 170 107 = .ok (.iload_n 2, 1) := by decide +kernel
theorem d170_108 : fet 170 108 = .ok (.iastore, 1) := by decide +kernel
theorem d170_109 : fet 170 109 = .ok (.aload_n 0, 1) := by decide +kernel
theorem d170_110 : fet 170 110 = .ok (.getfield 35, 3) := by decide +kernel
theorem d170_113 : fet 170 113 = .ok (.bipush 81, 2) := by decide +kernel
theorem d170_115 : fet 170 115 = .ok (.aload_n 0, 1) := by decide +kernel
theorem d170_116 : fet 170 116 = .ok (.getfield 35, 3) := by decide +kernel
theorem d170_119 : fet 170 119 = .ok (.iconst 2, 1) := by decide +kernel
theorem d170_120 : fet 170 120 = .ok (.iaload, 1) := by decide +kernel
theorem d170_121 : fet 170 121 = .ok (.iadd, 1) := by decide +kernel
theorem d170_122 : fet 170 122 = .ok (.ldc 53, 2) := by decide +kernel
theorem d170_124 : fet 170 124 = .ok (.iastore, 1) := by decide +kernel
theorem d170_125 : fet 170 125 = .ok (.aload_n 0, 1) := by decide +kernel
theorem d170_126 : fet 170 126 = .ok (.getfield 35, 3) := by decide +kernel
theorem d170_129 : fet 170 129 = .ok (.iconst 2, 1) := by decide +kernel
theorem d170_130 : fet 170 130 = .ok (.dup2, 1) := by decide +kernel
theorem d170_131 : fet 170 131 = .ok (.iaload, 1) := by decide +kernel
theorem d170_132 : fet 170 132 = .ok (.iconst 1, 1) := by decide +kernel
theorem d170_133 : fet 170 133 = .ok (.iadd, 1) := by decide +kernel
theorem d170_134 : fet 170 134 = .ok (.iastore, 1) := by decide +kernel
theorem d170_135 : fet 170 135 = .ok (.return_, 1) := by decide +kernel
theorem o171 : own 171 = RX12 := by decide +kernel
theorem d171_0 : fet 171 0 = .ok (.iconst 0, 1) := by decide +kernel
theorem d171_1 : fet 171 1 = .ok (.istore_n 1, 1) := by decide +kernel
theorem d171_2 : fet 171 2 = .ok (.iload_n 1, 1) := by decide +kernel
theorem d171_3 : fet 171 3 = .ok (.bipush 85, 2) := by decide +kernel
theorem d171_5 : fet 171 5 = .ok (.if_icmp .ge 16, 3) := by decide +kernel
theorem d171_8 : fet 171 8 = .ok (.aload_n 0, 1) := by decide +kernel
theorem d171_9 : fet 171 9 = .ok (.getfield 35, 3) := by decide +kernel
theorem d171_12 : fet 171 12 = .ok (.iload_n 1, 1) := by decide +kernel
theorem d171_13 : fet 171 13 = .ok (.iconst 0, 1) := by decide +kernel
theorem d171_14 : fet 171 14 = .ok (.iastore, 1) := by decide +kernel
theorem d171_15 : fet 171 15 = .ok (.iinc 1 1, 3) := by decide +kernel
theorem d171_18 : fet 171 18 = .ok (.goto (-16), 3) := by decide +kernel
theorem d171_21 : fet 171 21 = .ok (.aload_n 0, 1) := by decide +kernel
theorem d171_22 : fet 171 22 = .ok (.iconst 0, 1) := by decide +kernel
theorem d171_23 : fet 171 23 = .ok (.putfield 82, 3) := by decide +kernel
theorem d171_26 : fet 171 26 = .ok (.aload_n 0, 1) := by decide +kernel
theorem d171_27 : fet 171 27 = .ok (.iconst 0, 1) := by decide +kernel
theorem d171_28 : fet 171 28 = .ok (.putfield 97, 3) := by decide +kernel
theorem d171_31 : fet 171 31 = .ok (.aload_n 0, 1) := by decide +kernel
theorem d171_32 : fet 171 32 = .ok (.invokevirtual 100, 3) := by decide +kernel
theorem d171_35 : fet 171 35 = .ok (.aload_n 0, 1) := by decide +kernel
theorem d171_36 : fet 171 36 = .ok (.invokevirtual 128, 3) := by decide +kernel
theorem d171_39 : fet 171 39 = .ok (.aload_n 0, 1) := by decide +kernel
theorem d171_40 : fet 171 40 = .ok (.bipush 99, 2) := by decide +kernel
theorem d171_42 : fet 171 42 = .ok (.invokevirtual 131, 3) := by decide +kernel
theorem d171_45 : fet 171 45 = .ok (.ifCond .eq 10, 3) := by decide +kernel
theorem d171_48 : fet 171 48 = .ok (.aload_n 0, 1) := by decide +kernel
theorem d171_49 : fet 171 49 = .ok (.invokevirtual 134, 3) := by decide +kernel
theorem d171_52 : fet 171 52 = .ok (.goto (-13), 3) := by decide +kernel
theorem d171_55 : fet 171 55 = .ok (.aload_n 0, 1) := by decide +kernel
theorem d171_56 : fet 171 56 = .ok (.invokevirtual 124, 3) := by decide +kernel
theorem d171_59 : fet 171 59 = .ok (.ifCond .eq 10, 3) := by decide +kernel
theorem d171_62 : fet 171 62 = .ok (.aload_n 0, 1) := by decide +kernel
theorem d171_63 : fet 171 63 = .ok (.invokevirtual 137, 3) := by decide +kernel
theorem d171_66 : fet 171 66 = .ok (.goto (-11), 3) := by decide +kernel
theorem d171_69 : fet 171 69 = .ok (.aload_n 0, 1) := by decide +kernel
theorem d171_70 : fet 171 70 = .ok (.bipush 101, 2) := by decide +kernel
theorem d171_72 : fet 171 72 = .ok (.invokevirtual 131, 3) := by decide +kernel
theorem d171_75 : fet 171 75 = .ok (.ifCond .eq 10, 3) := by decide +kernel
theorem d171_78 : fet 171 78 = .ok (.aload_n 0, 1) := by decide +kernel
theorem d171_79 : fet 171 79 = .ok (.invokevirtual 140, 3) := by decide +kernel
theorem d171_82 : fet 171 82 = .ok (.goto (-13), 3) := by decide +kernel
theorem d171_85 : fet 171 85 = .ok (.aload_n 0, 1) := by decide +kernel
theorem d171_86 : fet 171 86 = .ok (.aload_n 0, 1) := by decide +kernel
theorem d171_87 : fet 171 87 = .ok (.getfield 91, 3) := by decide +kernel
theorem d171_90 : fet 171 90 = .ok (.ifCond .ne 7, 3) := by decide +kernel
theorem d171_93 : fet 171 93 = .ok (.iconst 1, 1) := by decide +kernel
theorem d171_94 : fet 171 94 = .ok (.goto 4, 3) := by decide +kernel
theorem d171_97 : fet 171 97 = .ok (.iconst 0, 1) := by decide +kernel
theorem d171_98 : fet 171 98 = .ok (.iconst 1, 1) := by decide +kernel
theorem d171_99 : fet 171 99 = .ok (.invokevirtual 103, 3) := by decide +kernel
theorem d171_102 : fet 171 102 = .ok (.aload_n 0, 1) := by decide +kernel
theorem d171_103 : fet 171 103 = .ok (.getfield 85, 3) := by decide +kernel
theorem d171_106 : fet 171 106 = .ok (.istore_n 1, 1) := by decide +kernel
theorem d171_107 : fet 171 107 = .ok (.aload_n 0, 1) := by decide +kernel
theorem d171_108 : fet 171 108 = .ok (.iconst 0, 1) := by decide +kernel
theorem d171_109 : fet 171 109 = .ok (.putfield 78, 3) := by decide +kernel
theorem d171_112 : fet 171 112 = .ok (.aload_n 0, 1) := by decide +kernel
theorem d171_113 : fet 171 113 = .ok (.getfield 97, 3) := by decide +kernel
theorem d171_116 : fet 171 116 = .ok (.ifCond .le 16, 3) := by decide +kernel
theorem d171_119 : fet 171 119 = .ok (.aload_n 0, 1) := by decide +kernel
theorem d171_120 : fet 171 120 = .ok (.aload_n 0, 1) := by decide +kernel
theorem d171_121 : fet 171 121 = .ok (.getfield 97, 3) := by decide +kernel
theorem d171_124 : fet 171 124 = .ok (.putfield 143, 3) := by decide +kernel
theorem d171_127 : fet 171 127 = .ok (.ldc 146, 2) := by decide +kernel
theorem d171_129 : fet 171 129 = .ok (.iload_n 1, 1) := by decide +kernel
theorem d171_130 : fet 171 130 = .ok (.isub, 1) := by decide +kernel
theorem d171_131 : fet 171 131 = .ok (.ireturn, 1) := by decide +kernel
theorem d171_132 : fet 171 132 = .ok (.iconst 0, 1) := by decide +kernel
theorem d171_133 : fet 171 133 = .ok (.istore_n 2, 1) := by decide +kernel
theorem d171_134 : fet 171 134 = .ok (.iload_n 2, 1) := by decide +kernel
theorem d171_135 : fet 171 135 = .ok (.bipush 85, 2) := by decide +kernel
theorem d171_137 : fet 171 137 = .ok (.if_icmp .ge 21, 3) := by decide +kernel
theorem d171_140 : fet 171 140 = .ok (.aload_n 0, 1) := by decide +kernel
theorem d171_141 : fet 171 141 = .ok (.getfield 7, 3) := by decide +kernel
theorem d171_144 : fet 171 144 = .ok (.iload_n 2, 1) := by decide +kernel
theorem d171_145 : fet 171 145 = .ok (.aload_n 0, 1) := by decide +kernel
theorem d171_146 : fet 171 146 = .ok (.getfield 35, 3) := by decide +kernel
theorem d171_149 : fet 171 149 = .ok (.iload_n 2, 1) := by decide +kernel
theorem d171_150 : fet 171 150 = .ok (.iaload, 1) := by decide +kernel
theorem d171_151 : fet 171 151 = .ok (.iastore, 1) := by decide +kernel
theorem d171_152 : fet 171 152 = .ok (.iinc 2 1, 3) := by decide +kernel
theorem d171_155 : fet 171 155 = .ok (.goto (-21), 3) := by decide +kernel
theorem d171_158 : fet 171 158 = .ok (.aload_n 0, 1) := by decide +kernel
theorem d171_159 : fet 171 159 = .ok (.getfield 7, 3) := by decide +kernel
theorem d171_162 : fet 171 162 = .ok (.iconst 0, 1) := by decide +kernel
theorem d171_163 : fet 171 163 = .ok (.iconst 1, 1) := by decide +kernel
theorem d171_164 : fet 171 164 = .ok (.iastore, 1) := by decide +kernel
theorem d171_165 : fet 171 165 = .ok (.aload_n 0, 1) := by decide +kernel
theorem d171_166 : fet 171 166 = .ok (.iconst 0, 1) := by decide +kernel
theorem d171_167 : fet 171 167 = .ok (.putfield 147, 3) := by decide +kernel
theorem d171_170 : fet 171 170 = .ok (.aload_n 0, 1) := by decide +kernel
theorem d171_171 : fet 171 171 = .ok (.getfield 7, 3) := by decide +kernel
theorem d171_174 : fet 171 174 = .ok (.iconst 1, 1) := by decide +kernel
theorem d171_175 : fet 171 175 = .ok (.iaload, 1) := by decide +kernel
theorem d171_176 : fet 171 176 = .ok (.ireturn, 1) := by decide +kernel
theorem o172 : own 172 = RX12 := by decide +kernel
theorem d172_0 : fet 172 0 = .ok (.aload_n 0, 1) := by decide +kernel
theorem d172_1 : fet 172 1 = .ok (.getfield 143, 3) := by decide +kernel
theorem d172_4 : fet 172 4 = .ok (.ireturn, 1) := by decide +kernel
theorem o173 : own 173 = RX12 := by decide +kernel
theorem d173_0 : fet 173 0 = .ok (.aload_n 0, 1) := by decide +kernel
theorem d173_1 : fet 173 1 = .ok (.getfield 7, 3) := by decide +kernel
theorem d173_4 : fet 173 4 = .ok (.iconst 0, 1) := by decide +kernel
theorem d173_5 : fet 173 5 = .ok (.iaload, 1) := by decide +kernel
theorem d173_6 : fet 173 6 = .ok (.iconst 1, 1) := by decide +kernel
theorem d173_7 : fet 173 7 = .ok (.if_icmp .ne 7, 3) := by decide +kernel
theorem d173_10 : fet 173 10 = .ok (.iconst 1, 1) := by decide +kernel
theorem d173_11 : fet 173 11 = .ok (.goto 4, 3) := by decide +kernel
theorem d173_14 : fet 173 14 = .ok (.iconst 0, 1) := by decide +kernel
theorem d173_15 : fet 173 15 = .ok (.ireturn, 1) := by decide +kernel
theorem o174 : own 174 = RX12 := by decide +kernel
theorem d174_0 : fet 174 0 = .ok (.iload_n 1, 1) := by decide +kernel
theorem d174_1 : fet 174 1 = .ok (.iconst 0, 1) := by decide +kernel
theorem d174_2 : fet 174 2 = .ok (.aload_n 0, 1) := by decide +kernel
theorem d174_3 : fet 174 3 = .ok (.getfield 7, 3) := by decide +kernel
theorem d174_6 : fet 174 6 = .ok (.iconst 1, 1) := by decide +kernel
theorem d174_7 : fet 174 7 = .ok (.iaload, 1) := by decide +kernel
theorem d174_8 : fet 174 8 = .ok (.iconst 1, 1) := by decide +kernel
theorem d174_9 : fet 174 9 = .ok (.isub, 1) := by decide +kernel
theorem d174_10 : fet 174 10 = .ok (.invokestatic 59, 3) := by decide +kernel
theorem d174_13 : fet 174 13 = .ok (.ireturn, 1) := by decide +kernel
theorem o175 : own 175 = RX12 := by decide +kernel
theorem d175_0 : fet 175 0 = .ok (.aload_n 0, 1) := by decide +kernel
theorem d175_1 : fet 175 1 = .ok (.getfield 7, 3) := by decide +kernel
theorem d175_4 : fet 175 4 = .ok (.bipush 45, 2) := by decide +kernel
theorem d175_6 : fet 175 6 = .ok (.iload_n 1, 1) := by decide +kernel
theorem d175_7 : fet 175 7 = .ok (.iadd, 1) := by decide +kernel
theorem d175_8 : fet 175 8 = .ok (.iaload, 1) := by decide +kernel
theorem d175_9 : fet 175 9 = .ok (.iconst 0, 1) := by decide +kernel
theorem d175_10 : fet 175 10 = .ok (.bipush 11, 2) := by decide +kernel
theorem d175_12 : fet 175 12 = .ok (.invokestatic 59, 3) := by decide +kernel
theorem d175_15 : fet 175 15 = .ok (.ireturn, 1) := by decide +kernel
theorem o176 : own 176 = RX12 := by decide +kernel
theorem d176_0 : fet 176 0 = .ok (.aload_n 0, 1) := by decide +kernel
theorem d176_1 : fet 176 1 = .ok (.getfield 7, 3) := by decide +kernel
theorem d176_4 : fet 176 4 = .ok (.bipush 45, 2) := by decide +kernel
theorem d176_6 : fet 176 6 = .ok (.iload_n 1, 1) := by decide +kernel
theorem d176_7 : fet 176 7 = .ok (.iadd, 1) := by decide +kernel
theorem d176_8 : fet 176 8 = .ok (.iaload, 1) := by decide +kernel
theorem d176_9 : fet 176 9 = .ok (.ldc 53, 2) := by decide +kernel
theorem d176_11 : fet 176 11 = .ok (.if_icmp .ne 7, 3) := by decide +kernel
theorem d176_14 : fet 176 14 = .ok (.iconst 1, 1) := by decide +kernel
theorem d176_15 : fet 176 15 = .ok (.goto 4, 3) := by decide +kernel
theorem d176_18 : fet 176 18 = .ok (.iconst 0, 1) := by decide +kernel
theorem d176_19 : fet 176 19 = .ok (.ireturn, 1) := by decide +kernel
theorem o177 : own 177 = RX12 := by decide +kernel
theorem d177_0 : fet 177 0 = .ok (.iload_n 1, 1) := by decide +kernel
theorem d177_1 : fet 177 1 = .ok (.ifCond .eq 32, 3) := by decide +kernel
theorem d177_4 : fet 177 4 = .ok (.iload_n 0, 1) := by decide +kernel
theorem d177_5 : fet 177 5 = .ok (.iload_n 1, 1) := by decide +kernel
theorem d177_6 : fet 177 6 = .ok (.if_icmp .eq 27, 3) := by decide +kernel
theorem d177_9 : fet 177 9 = .ok (.iload_n 1, 1) := by decide +kernel
theorem d177_10 : fet 177 10 = .ok (.iconst 1, 1) := by decide +kernel
theorem d177_11 : fet 177 11 = .ok (.if_icmp .ne 12, 3) := by decide +kernel
theorem d177_14 : fet 177 14 = .ok (.iload_n 0, 1) := by decide +kernel
theorem d177_15 : fet 177 15 = .ok (.iconst 2, 1) := by decide +kernel
theorem d177_16 : fet 177 16 = .ok (.iconst 3, 1) := by decide +kernel
theorem d177_17 : fet 177 17 = .ok (.invokestatic 59, 3) := by decide +kernel
theorem d177_20 : fet 177 20 = .ok (.ifCond .ne 13, 3) := by decide +kernel
theorem d177_23 : fet 177 23 = .ok (.iload_n 1, 1) := by decide +kernel
theorem d177_24 : fet 177 24 = .ok (.iconst 4, 1) := by decide +kernel
theorem d177_25 : fet 177 25 = .ok (.if_icmp .ne 12, 3) := by decide +kernel
theorem d177_28 : fet 177 28 = .ok (.iload_n 0, 1) := by decide +kernel
theorem d177_29 : fet 177 29 = .ok (.iconst 5, 1) := by decide +kernel
theorem d177_30 : fet 177 30 = .ok (.if_icmp .ne 7, 3) := by decide +kernel
theorem d177_33 : fet 177 33 = .ok (.iconst 1, 1) := by decide +kernel
theorem d177_34 : fet 177 34 = .ok (.goto 4, 3) := by decide +kernel
theorem d177_37 : fet 177 37 = .ok (.iconst 0, 1) := by decide +kernel
theorem d177_38 : fet 177 38 = .ok (.ireturn, 1) := by decide +kernel
theorem o178 : own 178 = RX12 := by decide +kernel
theorem d178_0 : fet 178 0 = .ok (.aload_n 0, 1) := by decide +kernel
theorem d178_1 : fet 178 1 = .ok (.getfield 7, 3) := by decide +kernel
theorem d178_4 : fet 178 4 = .ok (.aload_n 0, 1) := by decide +kernel
theorem d178_5 : fet 178 5 = .ok (.getfield 7, 3) := by decide +kernel
theorem d178_8 : fet 178 8 = .ok (.bipush 69, 2) := by decide +kernel
theorem d178_10 : fet 178 10 = .ok (.iload_n 1, 1) := by decide +kernel
theorem d178_11 : fet 178 11 = .ok (.iadd, 1) := by decide +kernel
theorem d178_12 : fet 178 12 = .ok (.iaload, 1) := by decide +kernel
theorem d178_13 : fet 178 13 = .ok (.ifCond .ne 8, 3) := by decide +kernel
theorem d178_16 : fet 178 16 = .ok (.bipush 57, 2) := by decide +kernel
theorem d178_18 : fet 178 18 = .ok (.goto 5, 3) := by decide +kernel
theorem d178_21 : fet 178 21 = .ok (.bipush 63, 2) := by decide +kernel
theorem d178_23 : fet 178 23 = .ok (.iload_n 1, 1) := by decide +kernel
theorem d178_24 : fet 178 24 = .ok (.iadd, 1) := by decide +kernel
theorem d178_25 : fet 178 25 = .ok (.iaload, 1) := by decide +kernel
theorem d178_26 : fet 178 26 = .ok (.ireturn, 1) := by decide +kernel
theorem o179 : own 179 = RX12 := by decide +kernel
theorem d179_0 : fet 179 0 = .ok (.aload_n 0, 1) := by decide +kernel
theorem d179_1 : fet 179 1 = .ok (.getfield 7, 3) := by decide +kernel
theorem d179_4 : fet 179 4 = .ok (.aload_n 0, 1) := by decide +kernel
theorem d179_5 : fet 179 5 = .ok (.getfield 7, 3) := by decide +kernel
theorem d179_8 : fet 179 8 = .ok (.bipush 69, 2) := by decide +kernel
theorem d179_10 : fet 179 10 = .ok (.iload_n 1, 1) := by decide +kernel
theorem d179_11 : fet 179 11 = .ok (.iadd, 1) := by decide +kernel
theorem d179_12 : fet 179 12 = .ok (.iaload, 1) := by decide +kernel
theorem d179_13 : fet 179 13 = .ok (.ifCond .ne 8, 3) := by decide +kernel
theorem d179_16 : fet 179 16 = .ok (.bipush 63, 2) := by decide +kernel
theorem d179_18 : fet 179 18 = .ok (.goto 5, 3) := by decide +kernel
theorem d179_21 : fet 179 21 = .ok (.bipush 57, 2) := by decide +kernel
theorem d179_23 : fet 179 23 = .ok (.iload_n 1, 1) := by decide +kernel
theorem d179_24 : fet 179 24 = .ok (.iadd, 1) := by decide +kernel
theorem d179_25 : fet 179 25 = .ok (.iaload, 1) := by decide +kernel
theorem d179_26 : fet 179 26 = .ok (.ireturn, 1) := by decide +kernel
theorem o180 : own 180 = RX12 := by decide +kernel
theorem d180_0 : fet 180 0 = .ok (.iload_n 0, 1) := by decide +kernel
theorem d180_1 : fet 180 1 = .ok (.ifCond .ge 8, 3) := by decide +kernel
theorem d180_4 : fet 180 4 = .ok (.iload_n 0, 1) := by decide +kernel
theorem d180_5 : fet 180 5 = .ok (.ineg, 1) := by decide +kernel
theorem d180_6 : fet 180 6 = .ok (.goto 4, 3) := by decide +kernel
theorem d180_9 : fet 180 9 = .ok (.iload_n 0, 1) := by decide +kernel
theorem d180_10 : fet 180 10 = .ok (.ireturn, 1) := by decide +kernel
theorem o181 : own 181 = RX12 := by decide +kernel
theorem d181_0 : fet 181 0 = .ok (.iload_n 0, 1) := by decide +kernel
theorem d181_1 : fet 181 1 = .ok (.iconst 4, 1) := by decide +kernel
theorem d181_2 : fet 181 2 = .ok (.idiv, 1) := by decide +kernel
theorem d181_3 : fet 181 3 = .ok (.iload_n 1, 1) := by decide +kernel
theorem d181_4 : fet 181 4 = .ok (.iconst 4, 1) := by decide +kernel
theorem d181_5 : fet 181 5 = .ok (.idiv, 1) := by decide +kernel
theorem d181_6 : fet 181 6 = .ok (.isub, 1) := by decide +kernel
theorem d181_7 : fet 181 7 = .ok (.invokestatic 150, 3) := by decide +kernel
theorem d181_10 : fet 181 10 = .ok (.iload_n 0, 1) := by decide +kernel
theorem d181_11 : fet 181 11 = .ok (.iconst 4, 1) := by decide +kernel
theorem d181_12 : fet 181 12 = .ok (.irem, 1) := by decide +kernel
theorem d181_13 : fet 181 13 = .ok (.iload_n 1, 1) := by decide +kernel
theorem d181_14 : fet 181 14 = .ok (.iconst 4, 1) := by decide +kernel
theorem d181_15 : fet 181 15 = .ok (.irem, 1) := by decide +kernel
theorem d181_16 : fet 181 16 = .ok (.isub, 1) := by decide +kernel
theorem d181_17 : fet 181 17 = .ok (.invokestatic 150, 3) := by decide +kernel
theorem d181_20 : fet 181 20 = .ok (.iadd, 1) := by decide +kernel
theorem d181_21 : fet 181 21 = .ok (.iconst 1, 1) := by decide +kernel
theorem d181_22 : fet 181 22 = .ok (.if_icmp .ne 7, 3) := by decide +kernel
theorem d181_25 : fet 181 25 = .ok (.iconst 1, 1) := by decide +kernel
theorem d181_26 : fet 181 26 = .ok (.goto 4, 3) := by decide +kernel
theorem d181_29 : fet 181 29 = .ok (.iconst 0, 1) := by decide +kernel
theorem d181_30 : fet 181 30 = .ok (.ireturn, 1) := by decide +kernel
theorem o182 : own 182 = RX12 := by decide +kernel
theorem d182_0 : fet 182 0 = .ok (.iconst 0, 1) := by decide +kernel
theorem d182_1 : fet 182 1 = .ok (.istore_n 2, 1) := by decide +kernel
theorem d182_2 : fet 182 2 = .ok (.iconst 0, 1) := by decide +kernel
theorem d182_3 : fet 182 3 = .ok (.istore_n 3, 1) := by decide +kernel
theorem d182_4 : fet 182 4 = .ok (.iload_n 3, 1) := by decide +kernel
theorem d182_5 : fet 182 5 = .ok (.aload_n 0, 1) := by decide +kernel
theorem d182_6 : fet 182 6 = .ok (.getfield 7, 3) := by decide +kernel
theorem d182_9 : fet 182 9 = .ok (.bipush 20, 2) := by decide +kernel
theorem d182_11 : fet 182 11 = .ok (.iaload, 1) := by decide +kernel
theorem d182_12 : fet 182 12 = .ok (.if_icmp .ge 81, 3) := by decide +kernel
theorem d182_15 : fet 182 15 = .ok (.aload_n 0, 1) := by decide +kernel
theorem d182_16 : fet 182 16 = .ok (.getfield 7, 3) := by decide +kernel
theorem d182_19 : fet 182 19 = .ok (.bipush 37, 2) := by decide +kernel
theorem d182_21 : fet 182 21 = .ok (.iload_n 3, 1) := by decide +kernel
theorem d182_22 : fet 182 22 = .ok (.iadd, 1) := by decide +kernel
theorem d182_23 : fet 182 23 = .ok (.iaload, 1) := by decide +kernel
theorem d182_24 : fet 182 24 = .ok (.ifCond .le 7, 3) := by decide +kernel
theorem d182_27 : fet 182 27 = .ok (.iconst 0, 1) := by decide +kernel
theorem d182_28 : fet 182 28 = .ok (.goto 12, 3) := by decide +kernel
theorem d182_31 : fet 182 31 = .ok (.aload_n 0, 1) := by decide +kernel
theorem d182_32 : fet 182 32 = .ok (.getfield 7, 3) := by decide +kernel
theorem d182_35 : fet 182 35 = .ok (.bipush 29, 2) := by decide +kernel
theorem d182_37 : fet 182 37 = .ok (.iload_n 3, 1) := by decide +kernel
theorem d182_38 : fet 182 38 = .ok (.iadd, 1) := by decide +kernel
theorem d182_39 : fet 182 39 = .ok (.iaload, 1) := by decide +kernel
theorem d182_40 : fet 182 40 = .ok (.istore 4, 2) := by decide +kernel
theorem d182_42 : fet 182 42 = .ok (.iload_n 2, 1) := by decide +kernel
theorem d182_43 : fet 182 43 = .ok (.aload_n 0, 1) := by decide +kernel
theorem d182_44 : fet 182 44 = .ok (.getfield 7, 3) := by decide +kernel
theorem d182_47 : fet 182 47 = .ok (.bipush 21, 2) := by decide +kernel
theorem d182_49 : fet 182 49 = .ok (.iload_n 3, 1) := by decide +kernel
theorem d182_50 : fet 182 50 = .ok (.iadd, 1) := by decide +kernel
theorem d182_51 : fet 182 51 = .ok (.iaload, 1) := by decide +kernel
theorem d182_52 : fet 182 52 = .ok (.iload_n 1, 1) := by decide +kernel
theorem d182_53 : fet 182 53 = .ok (.if_icmp .ne 8, 3) := by decide +kernel
theorem d182_56 : fet 182 56 = .ok (.iload 4, 2) := by decide +kernel
theorem d182_58 : fet 182 58 = .ok (.goto 27, 3) := by decide +kernel
theorem d182_61 : fet 182 61 = .ok (.aload_n 0, 1) := by decide +kernel
theorem d182_62 : fet 182 62 = .ok (.getfield 7, 3) := by decide +kernel
theorem d182_65 : fet 182 65 = .ok (.bipush 21, 2) := by decide +kernel
theorem d182_67 : fet 182 67 = .ok (.iload_n 3, 1) := by decide +kernel
theorem d182_68 : fet 182 68 = .ok (.iadd, 1) := by decide +kernel
theorem d182_69 : fet 182 69 = .ok (.iaload, 1) := by decide +kernel
theorem d182_70 : fet 182 70 = .ok (.iload_n 1, 1) := by decide +kernel
theorem d182_71 : fet 182 71 = .ok (.invokestatic 153, 3) := by decide +kernel
theorem d182_74 : fet 182 74 = .ok (.ifCond .eq 10, 3) := by decide +kernel
theorem d182_77 : fet 182 77 = .ok (.iload 4, 2) := by decide +kernel
theorem d182_79 : fet 182 79 = .ok (.iconst 2, 1) := by decide +kernel
theorem d182_80 : fet 182 80 = .ok (.idiv, 1) := by decide +kernel
theorem d182_81 : fet 182 81 = .ok (.goto 4, 3) := by decide +kernel
theorem d182_84 : fet 182 84 = .ok (.iconst 0, 1) := by decide +kernel
theorem d182_85 : fet 182 85 = .ok (.iadd, 1) := by decide +kernel
theorem d182_86 : fet 182 86 = .ok (.istore_n 2, 1) := by decide +kernel
theorem d182_87 : fet 182 87 = .ok (.iinc 3 1, 3) := by decide +kernel
theorem d182_90 : fet 182 90 = .ok (.goto (-86), 3) := by decide +kernel
theorem d182_93 : fet 182 93 = .ok (.iconst 0, 1) := by decide +kernel
theorem d182_94 : fet 182 94 = .ok (.istore_n 3, 1) := by decide +kernel
theorem d182_95 : fet 182 95 = .ok (.iconst 0, 1) := by decide +kernel
theorem d182_96 : fet 182 96 = .ok (.istore 4, 2) := by decide +kernel
theorem d182_98 : fet 182 98 = .ok (.iload 4, 2) := by decide +kernel
theorem d182_100 : fet 182 100 = .ok (.aload_n 0, 1) := by decide +kernel
theorem d182_101 : fet 182 101 = .ok (.getfield 7, 3) := by decide +kernel
theorem d182_104 : fet 182 104 = .ok (.iconst 1, 1) := by decide +kernel
theorem d182_105 : fet 182 105 = .ok (.iaload, 1) := by decide +kernel
theorem d182_106 : fet 182 106 = .ok (.if_icmp .ge 60, 3) := by decide +kernel
theorem d182_109 : fet 182 109 = .ok (.iload_n 2, 1) := by decide +kernel
theorem d182_110 : fet 182 110 = .ok (.ifCond .le 48, 3) := by decide +kernel
theorem d182_113 : fet 182 113 = .ok (.aload_n 0, 1) := by decide +kernel
theorem d182_114 : fet 182 114 = .ok (.getfield 7, 3) := by decide +kernel
theorem d182_117 : fet 182 117 = .ok (.bipush 45, 2) := by decide +kernel
theorem d182_119 : fet 182 119 = .ok (.iload 4, 2) := by decide +kernel
theorem d182_121 : fet 182 121 = .ok (.iadd, 1) := by decide +kernel
theorem d182_122 : fet 182 122 = .ok (.iaload, 1) := by decide +kernel
theorem d182_123 : fet 182 123 = .ok (.iload_n 1, 1) := by decide +kernel
theorem d182_124 : fet 182 124 = .ok (.if_icmp .ne 34, 3) := by decide +kernel
theorem d182_127 : fet 182 127 = .ok (.aload_n 0, 1) := by decide +kernel
theorem d182_128 : fet 182 128 = .ok (.getfield 7, 3) := by decide +kernel
theorem d182_131 : fet 182 131 = .ok (.iconst 5, 1) := by decide +kernel
theorem d182_132 : fet 182 132 = .ok (.iload 4, 2) := by decide +kernel
theorem d182_134 : fet 182 134 = .ok (.iadd, 1) := by decide +kernel
theorem d182_135 : fet 182 135 = .ok (.iaload, 1) := by decide +kernel
theorem d182_136 : fet 182 136 = .ok (.iconst 1, 1) := by decide +kernel
theorem d182_137 : fet 182 137 = .ok (.invokestatic 157, 3) := by decide +kernel
theorem d182_140 : fet 182 140 = .ok (.ifCond .eq 18, 3) := by decide +kernel
theorem d182_143 : fet 182 143 = .ok (.aload_n 0, 1) := by decide +kernel
theorem d182_144 : fet 182 144 = .ok (.iload 4, 2) := by decide +kernel
theorem d182_146 : fet 182 146 = .ok (.invokevirtual 160, 3) := by decide +kernel
theorem d182_149 : fet 182 149 = .ok (.bipush 10, 2) := by decide +kernel
theorem d182_151 : fet 182 151 = .ok (.if_icmp .lt 7, 3) := by decide +kernel
theorem d182_154 : fet 182 154 = .ok (.iconst 3, 1) := by decide +kernel
theorem d182_155 : fet 182 155 = .ok (.goto 4, 3) := by decide +kernel
theorem d182_158 : fet 182 158 = .ok (.iload_n 3, 1) := by decide +kernel
theorem d182_159 : fet 182 159 = .ok (.istore_n 3, 1) := by decide +kernel
theorem d182_160 : fet 182 160 = .ok (.iinc 4 1, 3) := by decide +kernel
theorem d182_163 : fet 182 163 = .ok (.goto (-65), 3) := by decide +kernel
theorem d182_166 : fet 182 166 = .ok (.iload_n 2, 1) := by decide +kernel
theorem d182_167 : fet 182 167 = .ok (.iload_n 3, 1) := by decide +kernel
theorem d182_168 : fet 182 168 = .ok (.iadd, 1) := by decide +kernel
theorem d182_169 : fet 182 169 = .ok (.iload_n 1, 1) := by decide +kernel
theorem d182_170 : fet 182 170 = .ok (.iconst 4, 1) := by decide +kernel
theorem d182_171 : fet 182 171 = .ok (.irem, 1) := by decide +kernel
theorem d182_172 : fet 182 172 = .ok (.ifCond .ne 12, 3) := by decide +kernel
theorem d182_175 : fet 182 175 = .ok (.aload_n 0, 1) := by decide +kernel
theorem d182_176 : fet 182 176 = .ok (.getfield 7, 3) := by decide +kernel
theorem d182_179 : fet 182 179 = .ok (.iconst 4, 1) := by decide +kernel
theorem d182_180 : fet 182 180 = .ok (.iaload, 1) := by decide +kernel
theorem d182_181 : fet 182 181 = .ok (.goto 4, 3) := by decide +kernel
theorem d182_184 : fet 182 184 = .ok (.iconst 0, 1) := by decide +kernel
theorem d182_185 : fet 182 185 = .ok (.iadd, 1) := by decide +kernel
theorem d182_186 : fet 182 186 = .ok (.ireturn, 1) := by decide +kernel
theorem o183 : own 183 = RX12 := by decide +kernel
theorem d183_0 : fet 183 0 = .ok (.iload_n 1, 1) := by decide +kernel
theorem d183_1 : fet 183 1 = .ok (.iconst 1, 1) := by decide +kernel
theorem d183_2 : fet 183 2 = .ok (.if_icmp .ne 8, 3) := by decide +kernel
theorem d183_5 : fet 183 5 = .ok (.bipush 8, 2) := by decide +kernel
theorem d183_7 : fet 183 7 = .ok (.goto 34, 3) := by decide +kernel
theorem d183_10 : fet 183 10 = .ok (.iload_n 1, 1) := by decide +kernel
theorem d183_11 : fet 183 11 = .ok (.iconst 2, 1) := by decide +kernel
theorem d183_12 : fet 183 12 = .ok (.if_icmp .ne 8, 3) := by decide +kernel
theorem d183_15 : fet 183 15 = .ok (.bipush 16, 2) := by decide +kernel
theorem d183_17 : fet 183 17 = .ok (.goto 24, 3) := by decide +kernel
theorem d183_20 : fet 183 20 = .ok (.iload_n 1, 1) := by decide +kernel
theorem d183_21 : fet 183 21 = .ok (.iconst 3, 1) := by decide +kernel
theorem d183_22 : fet 183 22 = .ok (.if_icmp .ne 7, 3) := by decide +kernel
theorem d183_25 : fet 183 25 = .ok (.iconst 4, 1) := by decide +kernel
theorem d183_26 : fet 183 26 = .ok (.goto 15, 3) := by decide +kernel
theorem d183_29 : fet 183 29 = .ok (.iload_n 1, 1) := by decide +kernel
theorem d183_30 : fet 183 30 = .ok (.iconst 4, 1) := by decide +kernel
theorem d183_31 : fet 183 31 = .ok (.if_icmp .ne 8, 3) := by decide +kernel
theorem d183_34 : fet 183 34 = .ok (.bipush 6, 2) := by decide +kernel
theorem d183_36 : fet 183 36 = .ok (.goto 5, 3) := by decide +kernel
theorem d183_39 : fet 183 39 = .ok (.bipush 10, 2) := by decide +kernel
theorem d183_41 : fet 183 41 = .ok (.ireturn, 1) := by decide +kernel
theorem o184 : own 184 = RX12 := by decide +kernel
theorem d184_0 : fet 184 0 = .ok (.iload_n 1, 1) := by decide +kernel
theorem d184_1 : fet 184 1 = .ok (.iconst 1, 1) := by decide +kernel
theorem d184_2 : fet 184 2 = .ok (.if_icmp .ne 8, 3) := by decide +kernel
theorem d184_5 : fet 184 5 = .ok (.bipush 40, 2) := by decide +kernel
theorem d184_7 : fet 184 7 = .ok (.goto 35, 3) := by decide +kernel
theorem d184_10 : fet 184 10 = .ok (.iload_n 1, 1) := by decide +kernel
theorem d184_11 : fet 184 11 = .ok (.iconst 2, 1) := by decide +kernel
theorem d184_12 : fet 184 12 = .ok (.if_icmp .ne 8, 3) := by decide +kernel
theorem d184_15 : fet 184 15 = .ok (.bipush 80, 2) := by decide +kernel
theorem d184_17 : fet 184 17 = .ok (.goto 25, 3) := by decide +kernel
theorem d184_20 : fet 184 20 = .ok (.iload_n 1, 1) := by decide +kernel
theorem d184_21 : fet 184 21 = .ok (.iconst 3, 1) := by decide +kernel
theorem d184_22 : fet 184 22 = .ok (.if_icmp .ne 8, 3) := by decide +kernel
theorem d184_25 : fet 184 25 = .ok (.bipush 20, 2) := by decide +kernel
theorem d184_27 : fet 184 27 = .ok (.goto 15, 3) := by decide +kernel
theorem d184_30 : fet 184 30 = .ok (.iload_n 1, 1) := by decide +kernel
theorem d184_31 : fet 184 31 = .ok (.iconst 4, 1) := by decide +kernel
theorem d184_32 : fet 184 32 = .ok (.if_icmp .ne 8, 3) := by decide +kernel
theorem d184_35 : fet 184 35 = .ok (.bipush 15, 2) := by decide +kernel
theorem d184_37 : fet 184 37 = .ok (.goto 5, 3) := by decide +kernel
theorem d184_40 : fet 184 40 = .ok (.bipush 50, 2) := by decide +kernel
theorem d184_42 : fet 184 42 = .ok (.ireturn, 1) := by decide +kernel
theorem o185 : own 185 = RX12 := by decide +kernel
theorem d185_0 : fet 185 0 = .ok (.iload_n 1, 1) := by decide +kernel
theorem d185_1 : fet 185 1 = .ok (.iconst 1, 1) := by decide +kernel
theorem d185_2 : fet 185 2 = .ok (.if_icmp .ne 8, 3) := by decide +kernel
theorem d185_5 : fet 185 5 = .ok (.bipush 90, 2) := by decide +kernel
theorem d185_7 : fet 185 7 = .ok (.goto 35, 3) := by decide +kernel
theorem d185_10 : fet 185 10 = .ok (.iload_n 1, 1) := by decide +kernel
theorem d185_11 : fet 185 11 = .ok (.iconst 2, 1) := by decide +kernel
theorem d185_12 : fet 185 12 = .ok (.if_icmp .ne 8, 3) := by decide +kernel
theorem d185_15 : fet 185 15 = .ok (.bipush 120, 2) := by decide +kernel
theorem d185_17 : fet 185 17 = .ok (.goto 25, 3) := by decide +kernel
theorem d185_20 : fet 185 20 = .ok (.iload_n 1, 1) := by decide +kernel
theorem d185_21 : fet 185 21 = .ok (.iconst 3, 1) := by decide +kernel
theorem d185_22 : fet 185 22 = .ok (.if_icmp .ne 8, 3) := by decide +kernel
theorem d185_25 : fet 185 25 = .ok (.bipush 45, 2) := by decide +kernel
theorem d185_27 : fet 185 27 = .ok (.goto 15, 3) := by decide +kernel
theorem d185_30 : fet 185 30 = .ok (.iload_n 1, 1) := by decide +kernel
theorem d185_31 : fet 185 31 = .ok (.iconst 4, 1) := by decide +kernel
theorem d185_32 : fet 185 32 = .ok (.if_icmp .ne 8, 3) := by decide +kernel
theorem d185_35 : fet 185 35 = .ok (.bipush 70, 2) := by decide +kernel
theorem d185_37 : fet 185 37 = .ok (.goto 5, 3) := by decide +kernel
theorem d185_40 : fet 185 40 = .ok (.bipush 100, 2) := by decide +kernel
theorem d185_42 : fet 185 42 = .ok (.ireturn, 1) := by decide +kernel
theorem o186 : own 186 = RX12 := by decide +kernel
theorem d186_0 : fet 186 0 = .ok (.iload_n 0, 1) := by decide +kernel
theorem d186_1 : fet 186 1 = .ok (.ifCond .ge 7, 3) := by decide +kernel
theorem d186_4 : fet 186 4 = .ok (.iconst 0, 1) := by decide +kernel
theorem d186_5 : fet 186 5 = .ok (.goto 4, 3) := by decide +kernel
theorem d186_8 : fet 186 8 = .ok (.iload_n 0, 1) := by decide +kernel
theorem d186_9 : fet 186 9 = .ok (.ireturn, 1) := by decide +kernel
theorem o187 : own 187 = RX12 := by decide +kernel
theorem d187_0 : fet 187 0 = .ok (.aload_n 0, 1) := by decide +kernel
theorem d187_1 : fet 187 1 = .ok (.getfield 7, 3) := by decide +kernel
theorem d187_4 : fet 187 4 = .ok (.iconst 5, 1) := by decide +kernel
theorem d187_5 : fet 187 5 = .ok (.iload_n 1, 1) := by decide +kernel
theorem d187_6 : fet 187 6 = .ok (.iadd, 1) := by decide +kernel
theorem d187_7 : fet 187 7 = .ok (.iaload, 1) := by decide +kernel
theorem d187_8 : fet 187 8 = .ok (.istore_n 2, 1) := by decide +kernel
theorem d187_9 : fet 187 9 = .ok (.aload_n 0, 1) := by decide +kernel
theorem d187_10 : fet 187 10 = .ok (.iload_n 1, 1) := by decide +kernel
theorem d187_11 : fet 187 11 = .ok (.invokevirtual 163, 3) := by decide +kernel
theorem d187_14 : fet 187 14 = .ok (.ifCond .eq 153, 3) := by decide +kernel
theorem d187_17 : fet 187 17 = .ok (.aload_n 0, 1) := by decide +kernel
theorem d187_18 : fet 187 18 = .ok (.getfield 7, 3) := by decide +kernel
theorem d187_21 : fet 187 21 = .ok (.bipush 69, 2) := by decide +kernel
theorem d187_23 : fet 187 23 = .ok (.iload_n 1, 1) := by decide +kernel
theorem d187_24 : fet 187 24 = .ok (.iadd, 1) := by decide +kernel
theorem d187_25 : fet 187 25 = .ok (.iaload, 1) := by decide +kernel
theorem d187_26 : fet 187 26 = .ok (.ifCond .ne 7, 3) := by decide +kernel
theorem d187_29 : fet 187 29 = .ok (.iconst 1, 1) := by decide +kernel
theorem d187_30 : fet 187 30 = .ok (.goto 4, 3) := by decide +kernel
theorem d187_33 : fet 187 33 = .ok (.iconst 0, 1) := by decide +kernel
theorem d187_34 : fet 187 34 = .ok (.istore_n 3, 1) := by decide +kernel
theorem d187_35 : fet 187 35 = .ok (.aload_n 0, 1) := by decide +kernel
theorem d187_36 : fet 187 36 = .ok (.getfield 7, 3) := by decide +kernel
theorem d187_39 : fet 187 39 = .ok (.bipush 57, 2) := by decide +kernel
theorem d187_41 : fet 187 41 = .ok (.iload_n 1, 1) := by decide +kernel
theorem d187_42 : fet 187 42 = .ok (.iadd, 1) := by decide +kernel
theorem d187_43 : fet 187 43 = .ok (.iload_n 3, 1) := by decide +kernel
theorem d187_44 : fet 187 44 = .ok (.ifCond .eq 22, 3) := by decide +kernel
theorem d187_47 : fet 187 47 = .ok (.aload_n 0, 1) := by decide +kernel
theorem d187_48 : fet 187 48 = .ok (.getfield 7, 3) := by decide +kernel
theorem d187_51 : fet 187 51 = .ok (.bipush 57, 2) := by decide +kernel
theorem d187_53 : fet 187 53 = .ok (.iload_n 1, 1) := by decide +kernel
theorem d187_54 : fet 187 54 = .ok (.iadd, 1) := by decide +kernel
theorem d187_55 : fet 187 55 = .ok (.iaload, 1) := by decide +kernel
theorem d187_56 : fet 187 56 = .ok (.aload_n 0, 1) := by decide +kernel
theorem d187_57 : fet 187 57 = .ok (.getfield 38, 3) := by decide +kernel
theorem d187_60 : fet 187 60 = .ok (.iload_n 1, 1) := by decide +kernel
theorem d187_61 : fet 187 61 = .ok (.iaload, 1) := by decide +kernel
theorem d187_62 : fet 187 62 = .ok (.iadd, 1) := by decide +kernel
theorem d187_63 : fet 187 63 = .ok (.goto 17, 3) := by decide +kernel
theorem d187_66 : fet 187 66 = .ok (.aload_n 0, 1) := by decide +kernel
theorem d187_67 : fet 187 67 = .ok (.getfield 7, 3) := by decide +kernel
theorem d187_70 : fet 187 70 = .ok (.bipush 57, 2) := by decide +kernel
theorem d187_72 : fet 187 72 = .ok (.iload_n 1, 1) := by decide +kernel
theorem d187_73 : fet 187 73 = .ok (.iadd, 1) := by decide +kernel
theorem d187_74 : fet 187 74 = .ok (.iaload, 1) := by decide +kernel
theorem d187_75 : fet 187 75 = .ok (.iconst 2, 1) := by decide +kernel
theorem d187_76 : fet 187 76 = .ok (.isub, 1) := by decide +kernel
theorem d187_77 : fet 187 77 = .ok (.invokestatic 166, 3) := by decide +kernel
theorem d187_80 : fet 187 80 = .ok (.iastore, 1) := by decide +kernel
theorem d187_81 : fet 187 81 = .ok (.aload_n 0, 1) := by decide +kernel
theorem d187_82 : fet 187 82 = .ok (.getfield 7, 3) := by decide +kernel
theorem d187_85 : fet 187 85 = .ok (.bipush 63, 2) := by decide +kernel
theorem d187_87 : fet 187 87 = .ok (.iload_n 1, 1) := by decide +kernel
theorem d187_88 : fet 187 88 = .ok (.iadd, 1) := by decide +kernel
theorem d187_89 : fet 187 89 = .ok (.iload_n 3, 1) := by decide +kernel
theorem d187_90 : fet 187 90 = .ok (.ifCond .eq 20, 3) := by decide +kernel
theorem d187_93 : fet 187 93 = .ok (.aload_n 0, 1) := by decide +kernel
theorem d187_94 : fet 187 94 = .ok (.getfield 7, 3) := by decide +kernel
theorem d187_97 : fet 187 97 = .ok (.bipush 63, 2) := by decide +kernel
theorem d187_99 : fet 187 99 = .ok (.iload_n 1, 1) := by decide +kernel
theorem d187_100 : fet 187 100 = .ok (.iadd, 1) := by decide +kernel
theorem d187_101 : fet 187 101 = .ok (.iaload, 1) := by decide +kernel
theorem d187_102 : fet 187 102 = .ok (.iconst 2, 1) := by decide +kernel
theorem d187_103 : fet 187 103 = .ok (.isub, 1) := by decide +kernel
theorem d187_104 : fet 187 104 = .ok (.invokestatic 166, 3) := by decide +kernel
theorem d187_107 : fet 187 107 = .ok (.goto 19, 3) := by decide +kernel
theorem d187_110 : fet 187 110 = .ok (.aload_n 0, 1) := by decide +kernel
theorem d187_111 : fet 187 111 = .ok (.getfield 7, 3) := by decide +kernel
theorem d187_114 : fet 187 114 = .ok (.bipush 63, 2) := by decide +kernel
theorem d187_116 : fet 187 116 = .ok (.iload_n 1, 1) := by decide +kernel
theorem d187_117 : fet 187 117 = .ok (.iadd, 1) := by decide +kernel
theorem d187_118 : fet 187 118 = .ok (.iaload, 1) := by decide +kernel
theorem d187_119 : fet 187 119 = .ok (.aload_n 0, 1) := by decide +kernel
theorem d187_120 : fet 187 120 = .ok (.getfield 38, 3) := by decide +kernel
theorem d187_123 : fet 187 123 = .ok (.iload_n 1, 1) := by decide +kernel
theorem d187_124 : fet 187 124 = .ok (.iaload, 1) := by decide +kernel
theorem d187_125 : fet 187 125 = .ok (.iadd, 1) := by decide +kernel
theorem d187_126 : fet 187 126 = .ok (.iastore, 1) := by decide +kernel
theorem d187_127 : fet 187 127 = .ok (.aload_n 0, 1) := by decide +kernel
theorem d187_128 : fet 187 128 = .ok (.getfield 7, 3) := by decide +kernel
theorem d187_131 : fet 187 131 = .ok (.bipush 51, 2) := by decide +kernel
theorem d187_133 : fet 187 133 = .ok (.iload_n 1, 1) := by decide +kernel
theorem d187_134 : fet 187 134 = .ok (.iadd, 1) := by decide +kernel
theorem d187_135 : fet 187 135 = .ok (.dup2, 1) := by decide +kernel
theorem d187_136 : fet 187 136 = .ok (.iaload, 1) := by decide +kernel
theorem d187_137 : fet 187 137 = .ok (.aload_n 0, 1) := by decide +kernel
theorem d187_138 : fet 187 138 = .ok (.getfield 7, 3) := by decide +kernel
theorem d187_141 : fet 187 141 = .ok (.bipush 57, 2) := by decide +kernel
theorem d187_143 : fet 187 143 = .ok (.iload_n 1, 1) := by decide +kernel
theorem d187_144 : fet 187 144 = .ok (.iadd, 1) := by decide +kernel
theorem d187_145 : fet 187 145 = .ok (.iaload, 1) := by decide +kernel
theorem d187_146 : fet 187 146 = .ok (.aload_n 0, 1) := by decide +kernel
theorem d187_147 : fet 187 147 = .ok (.getfield 7, 3) := by decide +kernel
theorem d187_150 : fet 187 150 = .ok (.bipush 63, 2) := by decide +kernel
theorem d187_152 : fet 187 152 = .ok (.iload_n 1, 1) := by decide +kernel
theorem d187_153 : fet 187 153 = .ok (.iadd, 1) := by decide +kernel
theorem d187_154 : fet 187 154 = .ok (.iaload, 1) := by decide +kernel
theorem d187_155 : fet 187 155 = .ok (.iadd, 1) := by decide +kernel
theorem d187_156 : fet 187 156 = .ok (.aload_n 0, 1) := by decide +kernel
theorem d187_157 : fet 187 157 = .ok (.iload_n 2, 1) := by decide +kernel
theorem d187_158 : fet 187 158 = .ok (.invokevirtual 169, 3) := by decide +kernel
theorem d187_161 : fet 187 161 = .ok (.idiv, 1) := by decide +kernel
theorem d187_162 : fet 187 162 = .ok (.iadd, 1) := by decide +kernel
theorem d187_163 : fet 187 163 = .ok (.iastore, 1) := by decide +kernel
theorem d187_164 : fet 187 164 = .ok (.goto 49, 3) := by decide +kernel
theorem d187_167 : fet 187 167 = .ok (.aload_n 0, 1) := by decide +kernel
theorem d187_168 : fet 187 168 = .ok (.getfield 7, 3) := by decide +kernel
theorem d187_171 : fet 187 171 = .ok (.bipush 57, 2) := by decide +kernel
theorem d187_173 : fet 187 173 = .ok (.iload_n 1, 1) := by decide +kernel
theorem d187_174 : fet 187 174 = .ok (.iadd, 1) := by decide +kernel
theorem d187_175 : fet 187 175 = .ok (.aload_n 0, 1) := by decide +kernel
theorem d187_176 : fet 187 176 = .ok (.getfield 7, 3) := by decide +kernel
theorem d187_179 : fet 187 179 = .ok (.bipush 57, 2) := by decide +kernel
theorem d187_181 : fet 187 181 = .ok (.iload_n 1, 1) := by decide +kernel
theorem d187_182 : fet 187 182 = .ok (.iadd, 1) := by decide +kernel
theorem d187_183 : fet 187 183 = .ok (.iaload, 1) := by decide +kernel
theorem d187_184 : fet 187 184 = .ok (.iconst 3, 1) := by decide +kernel
theorem d187_185 : fet 187 185 = .ok (.isub, 1) := by decide +kernel
theorem d187_186 : fet 187 186 = .ok (.invokestatic 166, 3) := by decide +kernel
theorem d187_189 : fet 187 189 = .ok (.iastore, 1) := by decide +kernel
theorem d187_190 : fet 187 190 = .ok (.aload_n 0, 1) := by decide +kernel
theorem d187_191 : fet 187 191 = .ok (.getfield 7, 3) := by decide +kernel
theorem d187_194 : fet 187 194 = .ok (.bipush 63, 2) := by decide +kernel
theorem d187_196 : fet 187 196 = .ok (.iload_n 1, 1) := by decide +kernel
theorem d187_197 : fet 187 197 = .ok (.iadd, 1) := by decide +kernel
theorem d187_198 : fet 187 198 = .ok (.aload_n 0, 1) := by decide +kernel
theorem d187_199 : fet 187 199 = .ok (.getfield 7, 3) := by decide +kernel
theorem d187_202 : fet 187 202 = .ok (.bipush 63, 2) := by decide +kernel
theorem d187_204 : fet 187 204 = .ok (.iload_n 1, 1) := by decide +kernel
theorem d187_205 : fet 187 205 = .ok (.iadd, 1) := by decide +kernel
theorem d187_206 : fet 187 206 = .ok (.iaload, 1) := by decide +kernel
theorem d187_207 : fet 187 207 = .ok (.iconst 3, 1) := by decide +kernel
theorem d187_208 : fet 187 208 = .ok (.isub, 1) := by decide +kernel
theorem d187_209 : fet 187 209 = .ok (.invokestatic 166, 3) := by decide +kernel
theorem d187_212 : fet 187 212 = .ok (.iastore, 1) := by decide +kernel
theorem d187_213 : fet 187 213 = .ok (.aload_n 0, 1) := by decide +kernel
theorem d187_214 : fet 187 214 = .ok (.getfield 7, 3) := by decide +kernel
theorem d187_217 : fet 187 217 = .ok (.bipush 57, 2) := by decide +kernel
theorem d187_219 : fet 187 219 = .ok (.iload_n 1, 1) := by decide +kernel
theorem d187_220 : fet 187 220 = .ok (.iadd, 1) := by decide +kernel
theorem d187_221 : fet 187 221 = .ok (.iaload, 1) := by decide +kernel
theorem d187_222 : fet 187 222 = .ok (.aload_n 0, 1) := by decide +kernel
theorem d187_223 : fet 187 223 = .ok (.iload_n 2, 1) := by decide +kernel
theorem d187_224 : fet 187 224 = .ok (.invokevirtual 172, 3) := by decide +kernel
theorem d187_227 : fet 187 227 = .ok (.if_icmp .gt 20, 3) := by decide +kernel
theorem d187_230 : fet 187 230 = .ok (.aload_n 0, 1) := by decide +kernel
theorem d187_231 : fet 187 231 = .ok (.getfield 7, 3) := by decide +kernel
theorem d187_234 : fet 187 234 = .ok (.bipush 63, 2) := by decide +kernel
theorem d187_236 : fet 187 236 = .ok (.iload_n 1, 1) := by decide +kernel
theorem d187_237 : fet 187 237 = .ok (.iadd, 1) := by decide +kernel
theorem d187_238 : fet 187 238 = .ok (.iaload, 1) := by decide +kernel
theorem d187_239 : fet 187 239 = .ok (.aload_n 0, 1) := by decide +kernel
theorem d187_240 : fet 187 240 = .ok (.iload_n 2, 1) := by decide +kernel
theorem d187_241 : fet 187 241 = .ok (.invokevirtual 172, 3) := by decide +kernel
theorem d187_244 : fet 187 244 = .ok (.if_icmp .le 7, 3) := by decide +kernel
theorem d187_247 : fet 187 247 = .ok (.iconst 1, 1) := by decide +kernel
theorem d187_248 : fet 187 248 = .ok (.goto 4, 3) := by decide +kernel
theorem d187_251 : fet 187 251 = .ok (.iconst 0, 1) := by decide +kernel
theorem d187_252 : fet 187 252 = .ok (.istore_n 3, 1) := by decide +kernel
theorem d187_253 : fet 187 253 = .ok (.aload_n 0, 1) := by decide +kernel
theorem d187_254 : fet 187 254 = .ok (.getfield 7, 3) := by decide +kernel
theorem d187_257 : fet 187 257 = .ok (.bipush 75, 2) := by decide +kernel
theorem d187_259 : fet 187 259 = .ok (.iload_n 1, 1) := by decide +kernel
theorem d187_260 : fet 187 260 = .ok (.iadd, 1) := by decide +kernel
theorem d187_261 : fet 187 261 = .ok (.iload_n 3, 1) := by decide +kernel
theorem d187_262 : fet 187 262 = .ok (.ifCond .eq 7, 3) := by decide +kernel
theorem d187_265 : fet 187 265 = .ok (.iconst 1, 1) := by decide +kernel
theorem d187_266 : fet 187 266 = .ok (.goto 12, 3) := by decide +kernel
theorem d187_269 : fet 187 269 = .ok (.aload_n 0, 1) := by decide +kernel
theorem d187_270 : fet 187 270 = .ok (.getfield 7, 3) := by decide +kernel
theorem d187_273 : fet 187 273 = .ok (.bipush 75, 2) := by decide +kernel
theorem d187_275 : fet 187 275 = .ok (.iload_n 1, 1) := by decide +kernel
theorem d187_276 : fet 187 276 = .ok (.iadd, 1) := by decide +kernel
theorem d187_277 : fet 187 277 = .ok (.iaload, 1) := by decide +kernel
theorem d187_278 : fet 187 278 = .ok (.iastore, 1) := by decide +kernel
theorem d187_279 : fet 187 279 = .ok (.return_, 1) := by decide +kernel
theorem o188 : own 188 = RX12 := by decide +kernel
theorem d188_0 : fet 188 0 = .ok (.iconst 0, 1) := by decide +kernel
theorem d188_1 : fet 188 1 = .ok (.istore_n 1, 1) := by decide +kernel
theorem d188_2 : fet 188 2 = .ok (.iload_n 1, 1) := by decide +kernel
theorem d188_3 : fet 188 3 = .ok (.aload_n 0, 1) := by decide +kernel
theorem d188_4 : fet 188 4 = .ok (.getfield 7, 3) := by decide +kernel
theorem d188_7 : fet 188 7 = .ok (.iconst 1, 1) := by decide +kernel
theorem d188_8 : fet 188 8 = .ok (.iaload, 1) := by decide +kernel
theorem d188_9 : fet 188 9 = .ok (.if_icmp .ge 40, 3) := by decide +kernel
theorem d188_12 : fet 188 12 = .ok (.aload_n 0, 1) := by decide +kernel
theorem d188_13 : fet 188 13 = .ok (.getfield 38, 3) := by decide +kernel
theorem d188_16 : fet 188 16 = .ok (.iload_n 1, 1) := by decide +kernel
theorem d188_17 : fet 188 17 = .ok (.aload_n 0, 1) := by decide +kernel
theorem d188_18 : fet 188 18 = .ok (.iload_n 1, 1) := by decide +kernel
theorem d188_19 : fet 188 19 = .ok (.invokevirtual 163, 3) := by decide +kernel
theorem d188_22 : fet 188 22 = .ok (.ifCond .eq 19, 3) := by decide +kernel
theorem d188_25 : fet 188 25 = .ok (.aload_n 0, 1) := by decide +kernel
theorem d188_26 : fet 188 26 = .ok (.aload_n 0, 1) := by decide +kernel
theorem d188_27 : fet 188 27 = .ok (.getfield 7, 3) := by decide +kernel
theorem d188_30 : fet 188 30 = .ok (.bipush 45, 2) := by decide +kernel
theorem d188_32 : fet 188 32 = .ok (.iload_n 1, 1) := by decide +kernel
theorem d188_33 : fet 188 33 = .ok (.iadd, 1) := by decide +kernel
theorem d188_34 : fet 188 34 = .ok (.iaload, 1) := by decide +kernel
theorem d188_35 : fet 188 35 = .ok (.invokevirtual 175, 3) := by decide +kernel
theorem d188_38 : fet 188 38 = .ok (.goto 4, 3) := by decide +kernel
theorem d188_41 : fet 188 41 = .ok (.iconst 0, 1) := by decide +kernel
theorem d188_42 : fet 188 42 = .ok (.iastore, 1) := by decide +kernel
theorem d188_43 : fet 188 43 = .ok (.iinc 1 1, 3) := by decide +kernel
theorem d188_46 : fet 188 46 = .ok (.goto (-44), 3) := by decide +kernel
theorem d188_49 : fet 188 49 = .ok (.iconst 0, 1) := by decide +kernel
theorem d188_50 : fet 188 50 = .ok (.istore_n 1, 1) := by decide +kernel
theorem d188_51 : fet 188 51 = .ok (.iload_n 1, 1) := by decide +kernel
theorem d188_52 : fet 188 52 = .ok (.aload_n 0, 1) := by decide +kernel
theorem d188_53 : fet 188 53 = .ok (.getfield 7, 3) := by decide +kernel
theorem d188_56 : fet 188 56 = .ok (.iconst 1, 1) := by decide +kernel
theorem d188_57 : fet 188 57 = .ok (.iaload, 1) := by decide +kernel
theorem d188_58 : fet 188 58 = .ok (.if_icmp .ge 22, 3) := by decide +kernel
theorem d188_61 : fet 188 61 = .ok (.aload_n 0, 1) := by decide +kernel
theorem d188_62 : fet 188 62 = .ok (.iload_n 1, 1) := by decide +kernel
theorem d188_63 : fet 188 63 = .ok (.invokevirtual 178, 3) := by decide +kernel
theorem d188_66 : fet 188 66 = .ok (.ifCond .ne 8, 3) := by decide +kernel
theorem d188_69 : fet 188 69 = .ok (.aload_n 0, 1) := by decide +kernel
theorem d188_70 : fet 188 70 = .ok (.iload_n 1, 1) := by decide +kernel
theorem d188_71 : fet 188 71 = .ok (.invokevirtual 181, 3) := by decide +kernel
theorem d188_74 : fet 188 74 = .ok (.iinc 1 1, 3) := by decide +kernel
theorem d188_77 : fet 188 77 = .ok (.goto (-26), 3) := by decide +kernel
theorem d188_80 : fet 188 80 = .ok (.aload_n 0, 1) := by decide +kernel
theorem d188_81 : fet 188 81 = .ok (.getfield 7, 3) := by decide +kernel
theorem d188_84 : fet 188 84 = .ok (.bipush 19, 2) := by decide +kernel
theorem d188_86 : fet 188 86 = .ok (.iaload, 1) := by decide +kernel
theorem d188_87 : fet 188 87 = .ok (.iconst 1, 1) := by decide +kernel
theorem d188_88 : fet 188 88 = .ok (.iadd, 1) := by decide +kernel
theorem d188_89 : fet 188 89 = .ok (.aload_n 0, 1) := by decide +kernel
theorem d188_90 : fet 188 90 = .ok (.getfield 7, 3) := by decide +kernel
theorem d188_93 : fet 188 93 = .ok (.iconst 3, 1) := by decide +kernel
theorem d188_94 : fet 188 94 = .ok (.iaload, 1) := by decide +kernel
theorem d188_95 : fet 188 95 = .ok (.irem, 1) := by decide +kernel
theorem d188_96 : fet 188 96 = .ok (.ifCond .ne 7, 3) := by decide +kernel
theorem d188_99 : fet 188 99 = .ok (.iconst 1, 1) := by decide +kernel
theorem d188_100 : fet 188 100 = .ok (.goto 4, 3) := by decide +kernel
theorem d188_103 : fet 188 103 = .ok (.iconst 0, 1) := by decide +kernel
theorem d188_104 : fet 188 104 = .ok (.istore_n 1, 1) := by decide +kernel
theorem d188_105 : fet 188 105 = .ok (.iconst 0, 1) := by decide +kernel
theorem d188_106 : fet 188 106 = .ok (.istore_n 2, 1) := by decide +kernel
theorem d188_107 : fet 188 107 = .ok (.iload_n 2, 1) := by decide +kernel
theorem d188_108 : fet 188 108 = .ok (.aload_n 0, 1) := by decide +kernel
theorem d188_109 : fet 188 109 = .ok (.getfield 7, 3) := by decide +kernel
theorem d188_112 : fet 188 112 = .ok (.bipush 20, 2) := by decide +kernel
theorem d188_114 : fet 188 114 = .ok (.iaload, 1) := by decide +kernel
theorem d188_115 : fet 188 115 = .ok (.if_icmp .ge 71, 3) := by decide +kernel
theorem d188_118 : fet 188 118 = .ok (.aload_n 0, 1) := by decide +kernel
theorem d188_119 : fet 188 119 = .ok (.getfield 7, 3) := by decide +kernel
theorem d188_122 : fet 188 122 = .ok (.bipush 37, 2) := by decide +kernel
theorem d188_124 : fet 188 124 = .ok (.iload_n 2, 1) := by decide +kernel
theorem d188_125 : fet 188 125 = .ok (.iadd, 1) := by decide +kernel
theorem d188_126 : fet 188 126 = .ok (.aload_n 0, 1) := by decide +kernel
theorem d188_127 : fet 188 127 = .ok (.getfield 7, 3) := by decide +kernel
theorem d188_130 : fet 188 130 = .ok (.bipush 37, 2) := by decide +kernel
theorem d188_132 : fet 188 132 = .ok (.iload_n 2, 1) := by decide +kernel
theorem d188_133 : fet 188 133 = .ok (.iadd, 1) := by decide +kernel
theorem d188_134 : fet 188 134 = .ok (.iaload, 1) := by decide +kernel
theorem d188_135 : fet 188 135 = .ok (.iconst 1, 1) := by decide +kernel
theorem d188_136 : fet 188 136 = .ok (.isub, 1) := by decide +kernel
theorem d188_137 : fet 188 137 = .ok (.invokestatic 166, 3) := by decide +kernel
theorem d188_140 : fet 188 140 = .ok (.iastore, 1) := by decide +kernel
theorem d188_141 : fet 188 141 = .ok (.aload_n 0, 1) := by decide +kernel
theorem d188_142 : fet 188 142 = .ok (.getfield 7, 3) := by decide +kernel
theorem d188_145 : fet 188 145 = .ok (.bipush 29, 2) := by decide +kernel
theorem d188_147 : fet 188 147 = .ok (.iload_n 2, 1) := by decide +kernel
theorem d188_148 : fet 188 148 = .ok (.iadd, 1) := by decide +kernel
theorem d188_149 : fet 188 149 = .ok (.iload_n 1, 1) := by decide +kernel
theorem d188_150 : fet 188 150 = .ok (.ifCond .eq 20, 3) := by decide +kernel
theorem d188_153 : fet 188 153 = .ok (.aload_n 0, 1) := by decide +kernel
theorem d188_154 : fet 188 154 = .ok (.getfield 7, 3) := by decide +kernel
theorem d188_157 : fet 188 157 = .ok (.bipush 29, 2) := by decide +kernel
theorem d188_159 : fet 188 159 = .ok (.iload_n 2, 1) := by decide +kernel
theorem d188_160 : fet 188 160 = .ok (.iadd, 1) := by decide +kernel
theorem d188_161 : fet 188 161 = .ok (.iaload, 1) := by decide +kernel
theorem d188_162 : fet 188 162 = .ok (.iconst 1, 1) := by decide +kernel
theorem d188_163 : fet 188 163 = .ok (.isub, 1) := by decide +kernel
theorem d188_164 : fet 188 164 = .ok (.invokestatic 166, 3) := by decide +kernel
theorem d188_167 : fet 188 167 = .ok (.goto 12, 3) := by decide +kernel
theorem d188_170 : fet 188 170 = .ok (.aload_n 0, 1) := by decide +kernel
theorem d188_171 : fet 188 171 = .ok (.getfield 7, 3) := by decide +kernel
theorem d188_174 : fet 188 174 = .ok (.bipush 29, 2) := by decide +kernel
theorem d188_176 : fet 188 176 = .ok (.iload_n 2, 1) := by decide +kernel
theorem d188_177 : fet 188 177 = .ok (.iadd, 1) := by decide +kernel
theorem d188_178 : fet 188 178 = .ok (.iaload, 1) := by decide +kernel
theorem d188_179 : fet 188 179 = .ok (.iastore, 1) := by decide +kernel
theorem d188_180 : fet 188 180 = .ok (.iinc 2 1, 3) := by decide +kernel
theorem d188_183 : fet 188 183 = .ok (.goto (-76), 3) := by decide +kernel
theorem d188_186 : fet 188 186 = .ok (.aload_n 0, 1) := by decide +kernel
theorem d188_187 : fet 188 187 = .ok (.getfield 7, 3) := by decide +kernel
theorem d188_190 : fet 188 190 = .ok (.bipush 19, 2) := by decide +kernel
theorem d188_192 : fet 188 192 = .ok (.dup2, 1) := by decide +kernel
theorem d188_193 : fet 188 193 = .ok (.iaload, 1) := by decide +kernel
theorem d188_194 : fet 188 194 = .ok (.iconst 1, 1) := by decide +kernel
theorem d188_195 : fet 188 195 = .ok (.iadd, 1) := by decide +kernel
theorem d188_196 : fet 188 196 = .ok (.iastore, 1) := by decide +kernel
theorem d188_197 : fet 188 197 = .ok (.return_, 1) := by decide +kernel
theorem o189 : own 189 = RX12 := by decide +kernel
theorem d189_0 : fet 189 0 = .ok (.aload_n 0, 1) := by decide +kernel
theorem d189_1 : fet 189 1 = .ok (.getfield 147, 3) := by decide +kernel
theorem d189_4 : fet 189 4 = .ok (.bipush 24, 2) := by decide +kernel
theorem d189_6 : fet 189 6 = .ok (.if_icmp .ne 43, 3) := by decide +kernel
theorem d189_9 : fet 189 9 = .ok (.iconst 0, 1) := by decide +kernel
theorem d189_10 : fet 189 10 = .ok (.istore_n 1, 1) := by decide +kernel
theorem d189_11 : fet 189 11 = .ok (.iload_n 1, 1) := by decide +kernel
theorem d189_12 : fet 189 12 = .ok (.sipush 1518, 3) := by decide +kernel
theorem d189_15 : fet 189 15 = .ok (.if_icmp .ge 24, 3) := by decide +kernel
theorem d189_18 : fet 189 18 = .ok (.aload_n 0, 1) := by decide +kernel
theorem d189_19 : fet 189 19 = .ok (.getfield 20, 3) := by decide +kernel
theorem d189_22 : fet 189 22 = .ok (.iload_n 1, 1) := by decide +kernel
theorem d189_23 : fet 189 23 = .ok (.aload_n 0, 1) := by decide +kernel
theorem d189_24 : fet 189 24 = .ok (.getfield 20, 3) := by decide +kernel
theorem d189_27 : fet 189 27 = .ok (.iload_n 1, 1) := by decide +kernel
theorem d189_28 : fet 189 28 = .ok (.bipush 66, 2) := by decide +kernel
theorem d189_30 : fet 189 30 = .ok (.iadd, 1) := by decide +kernel
theorem d189_31 : fet 189 31 = .ok (.iaload, 1) := by decide +kernel
theorem d189_32 : fet 189 32 = .ok (.iastore, 1) := by decide +kernel
theorem d189_33 : fet 189 33 = .ok (.iinc 1 1, 3) := by decide +kernel
theorem d189_36 : fet 189 36 = .ok (.goto (-25), 3) := by decide +kernel
theorem d189_39 : fet 189 39 = .ok (.aload_n 0, 1) := by decide +kernel
theorem d189_40 : fet 189 40 = .ok (.dup, 1) := by decide +kernel
theorem d189_41 : fet 189 41 = .ok (.getfield 147, 3) := by decide +kernel
theorem d189_44 : fet 189 44 = .ok (.iconst 1, 1) := by decide +kernel
theorem d189_45 : fet 189 45 = .ok (.isub, 1) := by decide +kernel
theorem d189_46 : fet 189 46 = .ok (.putfield 147, 3) := by decide +kernel
theorem d189_49 : fet 189 49 = .ok (.iconst 0, 1) := by decide +kernel
theorem d189_50 : fet 189 50 = .ok (.istore_n 1, 1) := by decide +kernel
theorem d189_51 : fet 189 51 = .ok (.iload_n 1, 1) := by decide +kernel
theorem d189_52 : fet 189 52 = .ok (.bipush 66, 2) := by decide +kernel
theorem d189_54 : fet 189 54 = .ok (.if_icmp .ge 32, 3) := by decide +kernel
theorem d189_57 : fet 189 57 = .ok (.aload_n 0, 1) := by decide +kernel
theorem d189_58 : fet 189 58 = .ok (.getfield 20, 3) := by decide +kernel
theorem d189_61 : fet 189 61 = .ok (.bipush 66, 2) := by decide +kernel
theorem d189_63 : fet 189 63 = .ok (.aload_n 0, 1) := by decide +kernel
theorem d189_64 : fet 189 64 = .ok (.getfield 147, 3) := by decide +kernel
theorem d189_67 : fet 189 67 = .ok (.imul, 1) := by decide +kernel
theorem d189_68 : fet 189 68 = .ok (.iload_n 1, 1) := by decide +kernel
theorem d189_69 : fet 189 69 = .ok (.iadd, 1) := by decide +kernel
theorem d189_70 : fet 189 70 = .ok (.aload_n 0, 1) := by decide +kernel
theorem d189_71 : fet 189 71 = .ok (.getfield 7, 3) := by decide +kernel
theorem d189_74 : fet 189 74 = .ok (.bipush 19, 2) := by decide +kernel
theorem d189_76 : fet 189 76 = .ok (.iload_n 1, 1) := by decide +kernel
theorem d189_77 : fet 189 77 = .ok (.iadd, 1) := by decide +kernel
theorem d189_78 : fet 189 78 = .ok (.iaload, 1) := by decide +kernel
theorem d189_79 : fet 189 79 = .ok (.iastore, 1) := by decide +kernel
theorem d189_80 : fet 189 80 = .ok (.iinc 1 1, 3) := by decide +kernel
theorem d189_83 : fet 189 83 = .ok (.goto (-32), 3) := by decide +kernel
theorem d189_86 : fet 189 86 = .ok (.aload_n 0, 1) := by decide +kernel
theorem d189_87 : fet 189 87 = .ok (.dup, 1) := by decide +kernel
theorem d189_88 : fet 189 88 = .ok (.getfield 147, 3) := by decide +kernel
theorem d189_91 : fet 189 91 = .ok (.iconst 1, 1) := by decide +kernel
theorem d189_92 : fet 189 92 = .ok (.iadd, 1) := by decide +kernel
theorem d189_93 : fet 189 93 = .ok (.putfield 147, 3) := by decide +kernel
theorem d189_96 : fet 189 96 = .ok (.return_, 1) := by decide +kernel
theorem o190 : own 190 = RX12 := by decide +kernel
theorem d190_0 : fet 190 0 = .ok (.aload_n 0, 1) := by decide +kernel
theorem d190_1 : fet 190 1 = .ok (.invokevirtual 184, 3) := by decide +kernel
theorem d190_4 : fet 190 4 = .ok (.ifCond .ne 6, 3) := by decide +kernel
theorem d190_7 : fet 190 7 = .ok (.ldc 187, 2) := by decide +kernel
theorem d190_9 : fet 190 9 = .ok (.ireturn, 1) := by decide +kernel
theorem d190_10 : fet 190 10 = .ok (.iload_n 1, 1) := by decide +kernel
theorem d190_11 : fet 190 11 = .ok (.iconst 1, 1) := by decide +kernel
theorem d190_12 : fet 190 12 = .ok (.bipush 24, 2) := by decide +kernel
theorem d190_14 : fet 190 14 = .ok (.invokestatic 59, 3) := by decide +kernel
theorem d190_17 : fet 190 17 = .ok (.ifCond .ne 6, 3) := by decide +kernel
theorem d190_20 : fet 190 20 = .ok (.ldc 67, 2) := by decide +kernel
theorem d190_22 : fet 190 22 = .ok (.ireturn, 1) := by decide +kernel
theorem d190_23 : fet 190 23 = .ok (.aload_n 0, 1) := by decide +kernel
theorem d190_24 : fet 190 24 = .ok (.getfield 7, 3) := by decide +kernel
theorem d190_27 : fet 190 27 = .ok (.bipush 19, 2) := by decide +kernel
theorem d190_29 : fet 190 29 = .ok (.iaload, 1) := by decide +kernel
theorem d190_30 : fet 190 30 = .ok (.iload_n 1, 1) := by decide +kernel
theorem d190_31 : fet 190 31 = .ok (.iadd, 1) := by decide +kernel
theorem d190_32 : fet 190 32 = .ok (.sipush 400, 3) := by decide +kernel
theorem d190_35 : fet 190 35 = .ok (.if_icmp .le 6, 3) := by decide +kernel
theorem d190_38 : fet 190 38 = .ok (.ldc 81, 2) := by decide +kernel
theorem d190_40 : fet 190 40 = .ok (.ireturn, 1) := by decide +kernel
theorem d190_41 : fet 190 41 = .ok (.iconst 0, 1) := by decide +kernel
theorem d190_42 : fet 190 42 = .ok (.istore_n 2, 1) := by decide +kernel
theorem d190_43 : fet 190 43 = .ok (.iload_n 2, 1) := by decide +kernel
theorem d190_44 : fet 190 44 = .ok (.iload_n 1, 1) := by decide +kernel
theorem d190_45 : fet 190 45 = .ok (.if_icmp .ge 17, 3) := by decide +kernel
theorem d190_48 : fet 190 48 = .ok (.aload_n 0, 1) := by decide +kernel
theorem d190_49 : fet 190 49 = .ok (.invokevirtual 188, 3) := by decide +kernel
theorem d190_52 : fet 190 52 = .ok (.aload_n 0, 1) := by decide +kernel
theorem d190_53 : fet 190 53 = .ok (.invokevirtual 191, 3) := by decide +kernel
theorem d190_56 : fet 190 56 = .ok (.iinc 2 1, 3) := by decide +kernel
theorem d190_59 : fet 190 59 = .ok (.goto (-16), 3) := by decide +kernel
theorem d190_62 : fet 190 62 = .ok (.aload_n 0, 1) := by decide +kernel
theorem d190_63 : fet 190 63 = .ok (.getfield 7, 3) := by decide +kernel
theorem d190_66 : fet 190 66 = .ok (.bipush 19, 2) := by decide +kernel
theorem d190_68 : fet 190 68 = .ok (.iaload, 1) := by decide +kernel
theorem d190_69 : fet 190 69 = .ok (.ireturn, 1) := by decide +kernel
theorem o191 : own 191 = RX12 := by decide +kernel
theorem d191_0 : fet 191 0 = .ok (.aload_n 0, 1) := by decide +kernel
theorem d191_1 : fet 191 1 = .ok (.iload_n 1, 1) := by decide +kernel
theorem d191_2 : fet 191 2 = .ok (.invokevirtual 194, 3) := by decide +kernel
theorem d191_5 : fet 191 5 = .ok (.ifCond .ne 6, 3) := by decide +kernel
theorem d191_8 : fet 191 8 = .ok (.ldc 67, 2) := by decide +kernel
theorem d191_10 : fet 191 10 = .ok (.ireturn, 1) := by decide +kernel
theorem d191_11 : fet 191 11 = .ok (.aload_n 0, 1) := by decide +kernel
theorem d191_12 : fet 191 12 = .ok (.iload_n 1, 1) := by decide +kernel
theorem d191_13 : fet 191 13 = .ok (.invokevirtual 178, 3) := by decide +kernel
theorem d191_16 : fet 191 16 = .ok (.ifCond .eq 6, 3) := by decide +kernel
theorem d191_19 : fet 191 19 = .ok (.ldc 187, 2) := by decide +kernel
theorem d191_21 : fet 191 21 = .ok (.ireturn, 1) := by decide +kernel
theorem d191_22 : fet 191 22 = .ok (.aload_n 0, 1) := by decide +kernel
theorem d191_23 : fet 191 23 = .ok (.invokevirtual 188, 3) := by decide +kernel
theorem d191_26 : fet 191 26 = .ok (.aload_n 0, 1) := by decide +kernel
theorem d191_27 : fet 191 27 = .ok (.getfield 7, 3) := by decide +kernel
theorem d191_30 : fet 191 30 = .ok (.bipush 69, 2) := by decide +kernel
theorem d191_32 : fet 191 32 = .ok (.iload_n 1, 1) := by decide +kernel
theorem d191_33 : fet 191 33 = .ok (.iadd, 1) := by decide +kernel
theorem d191_34 : fet 191 34 = .ok (.iconst 1, 1) := by decide +kernel
theorem d191_35 : fet 191 35 = .ok (.aload_n 0, 1) := by decide +kernel
theorem d191_36 : fet 191 36 = .ok (.getfield 7, 3) := by decide +kernel
theorem d191_39 : fet 191 39 = .ok (.bipush 69, 2) := by decide +kernel
theorem d191_41 : fet 191 41 = .ok (.iload_n 1, 1) := by decide +kernel
theorem d191_42 : fet 191 42 = .ok (.iadd, 1) := by decide +kernel
theorem d191_43 : fet 191 43 = .ok (.iaload, 1) := by decide +kernel
theorem d191_44 : fet 191 44 = .ok (.isub, 1) := by decide +kernel
theorem d191_45 : fet 191 45 = .ok (.iastore, 1) := by decide +kernel
theorem d191_46 : fet 191 46 = .ok (.aload_n 0, 1) := by decide +kernel
theorem d191_47 : fet 191 47 = .ok (.getfield 7, 3) := by decide +kernel
theorem d191_50 : fet 191 50 = .ok (.bipush 69, 2) := by decide +kernel
theorem d191_52 : fet 191 52 = .ok (.iload_n 1, 1) := by decide +kernel
theorem d191_53 : fet 191 53 = .ok (.iadd, 1) := by decide +kernel
theorem d191_54 : fet 191 54 = .ok (.iaload, 1) := by decide +kernel
theorem d191_55 : fet 191 55 = .ok (.ireturn, 1) := by decide +kernel
end
section
theorem o192 : own 192 = RX12 := by decide +kernel
theorem d192_0 : fet 192 0 = .ok (.iconst 0, 1) := by decide +kernel
theorem d192_1 : fet 192 1 = .ok (.istore_n 3, 1) := by decide +kernel
theorem d192_2 : fet 192 2 = .ok (.iconst 0, 1) := by decide +kernel
theorem d192_3 : fet 192 3 = .ok (.istore 4, 2) := by decide +kernel
theorem d192_5 : fet 192 5 = .ok (.iload 4, 2) := by decide +kernel
theorem d192_7 : fet 192 7 = .ok (.aload_n 0, 1) := by decide +kernel
theorem d192_8 : fet 192 8 = .ok (.getfield 7, 3) := by decide +kernel
theorem d192_11 : fet 192 11 = .ok (.iconst 1, 1) := by decide +kernel
theorem d192_12 : fet 192 12 = .ok (.iaload, 1) := by decide +kernel
theorem d192_13 : fet 192 13 = .ok (.if_icmp .ge 39, 3) := by decide +kernel
theorem d192_16 : fet 192 16 = .ok (.iload_n 3, 1) := by decide +kernel
theorem d192_17 : fet 192 17 = .ok (.ifCond .ne 23, 3) := by decide +kernel
theorem d192_20 : fet 192 20 = .ok (.iload 4, 2) := by decide +kernel
theorem d192_22 : fet 192 22 = .ok (.iload_n 1, 1) := by decide +kernel
theorem d192_23 : fet 192 23 = .ok (.if_icmp .eq 21, 3) := by decide +kernel
theorem d192_26 : fet 192 26 = .ok (.aload_n 0, 1) := by decide +kernel
theorem d192_27 : fet 192 27 = .ok (.getfield 7, 3) := by decide +kernel
theorem d192_30 : fet 192 30 = .ok (.bipush 45, 2) := by decide +kernel
theorem d192_32 : fet 192 32 = .ok (.iload 4, 2) := by decide +kernel
theorem d192_34 : fet 192 34 = .ok (.iadd, 1) := by decide +kernel
theorem d192_35 : fet 192 35 = .ok (.iaload, 1) := by decide +kernel
theorem d192_36 : fet 192 36 = .ok (.iload_n 2, 1) := by decide +kernel
theorem d192_37 : fet 192 37 = .ok (.if_icmp .ne 7, 3) := by decide +kernel
theorem d192_40 : fet 192 40 = .ok (.iconst 1, 1) := by decide +kernel
theorem d192_41 : fet 192 41 = .ok (.goto 4, 3) := by decide +kernel
theorem d192_44 : fet 192 44 = .ok (.iconst 0, 1) := by decide +kernel
theorem d192_45 : fet 192 45 = .ok (.istore_n 3, 1) := by decide +kernel
theorem d192_46 : fet 192 46 = .ok (.iinc 4 1, 3) := by decide +kernel
theorem d192_49 : fet 192 49 = .ok (.goto (-44), 3) := by decide +kernel
theorem d192_52 : fet 192 52 = .ok (.iload_n 3, 1) := by decide +kernel
theorem d192_53 : fet 192 53 = .ok (.ifCond .eq 13, 3) := by decide +kernel
theorem d192_56 : fet 192 56 = .ok (.iload_n 2, 1) := by decide +kernel
theorem d192_57 : fet 192 57 = .ok (.bipush 12, 2) := by decide +kernel
theorem d192_59 : fet 192 59 = .ok (.if_icmp .eq 7, 3) := by decide +kernel
theorem d192_62 : fet 192 62 = .ok (.iconst 1, 1) := by decide +kernel
theorem d192_63 : fet 192 63 = .ok (.goto 4, 3) := by decide +kernel
theorem d192_66 : fet 192 66 = .ok (.iconst 0, 1) := by decide +kernel
theorem d192_67 : fet 192 67 = .ok (.ireturn, 1) := by decide +kernel
theorem o193 : own 193 = RX12 := by decide +kernel
theorem d193_0 : fet 193 0 = .ok (.aload_n 0, 1) := by decide +kernel
theorem d193_1 : fet 193 1 = .ok (.iload_n 1, 1) := by decide +kernel
theorem d193_2 : fet 193 2 = .ok (.invokevirtual 194, 3) := by decide +kernel
theorem d193_5 : fet 193 5 = .ok (.ifCond .eq 13, 3) := by decide +kernel
theorem d193_8 : fet 193 8 = .ok (.iload_n 2, 1) := by decide +kernel
theorem d193_9 : fet 193 9 = .ok (.iconst 0, 1) := by decide +kernel
theorem d193_10 : fet 193 10 = .ok (.bipush 12, 2) := by decide +kernel
theorem d193_12 : fet 193 12 = .ok (.invokestatic 59, 3) := by decide +kernel
theorem d193_15 : fet 193 15 = .ok (.ifCond .ne 6, 3) := by decide +kernel
theorem d193_18 : fet 193 18 = .ok (.ldc 67, 2) := by decide +kernel
theorem d193_20 : fet 193 20 = .ok (.ireturn, 1) := by decide +kernel
theorem d193_21 : fet 193 21 = .ok (.aload_n 0, 1) := by decide +kernel
theorem d193_22 : fet 193 22 = .ok (.iload_n 1, 1) := by decide +kernel
theorem d193_23 : fet 193 23 = .ok (.invokevirtual 178, 3) := by decide +kernel
theorem d193_26 : fet 193 26 = .ok (.ifCond .ne 12, 3) := by decide +kernel
theorem d193_29 : fet 193 29 = .ok (.aload_n 0, 1) := by decide +kernel
theorem d193_30 : fet 193 30 = .ok (.iload_n 1, 1) := by decide +kernel
theorem d193_31 : fet 193 31 = .ok (.iload_n 2, 1) := by decide +kernel
theorem d193_32 : fet 193 32 = .ok (.invokevirtual 197, 3) := by decide +kernel
theorem d193_35 : fet 193 35 = .ok (.ifCond .eq 6, 3) := by decide +kernel
theorem d193_38 : fet 193 38 = .ok (.ldc 187, 2) := by decide +kernel
theorem d193_40 : fet 193 40 = .ok (.ireturn, 1) := by decide +kernel
theorem d193_41 : fet 193 41 = .ok (.aload_n 0, 1) := by decide +kernel
theorem d193_42 : fet 193 42 = .ok (.invokevirtual 188, 3) := by decide +kernel
theorem d193_45 : fet 193 45 = .ok (.aload_n 0, 1) := by decide +kernel
theorem d193_46 : fet 193 46 = .ok (.getfield 7, 3) := by decide +kernel
theorem d193_49 : fet 193 49 = .ok (.bipush 45, 2) := by decide +kernel
theorem d193_51 : fet 193 51 = .ok (.iload_n 1, 1) := by decide +kernel
theorem d193_52 : fet 193 52 = .ok (.iadd, 1) := by decide +kernel
theorem d193_53 : fet 193 53 = .ok (.iaload, 1) := by decide +kernel
theorem d193_54 : fet 193 54 = .ok (.istore_n 3, 1) := by decide +kernel
theorem d193_55 : fet 193 55 = .ok (.aload_n 0, 1) := by decide +kernel
theorem d193_56 : fet 193 56 = .ok (.getfield 7, 3) := by decide +kernel
theorem d193_59 : fet 193 59 = .ok (.bipush 45, 2) := by decide +kernel
theorem d193_61 : fet 193 61 = .ok (.iload_n 1, 1) := by decide +kernel
theorem d193_62 : fet 193 62 = .ok (.iadd, 1) := by decide +kernel
theorem d193_63 : fet 193 63 = .ok (.iload_n 2, 1) := by decide +kernel
theorem d193_64 : fet 193 64 = .ok (.iastore, 1) := by decide +kernel
theorem d193_65 : fet 193 65 = .ok (.iload_n 3, 1) := by decide +kernel
theorem d193_66 : fet 193 66 = .ok (.ireturn, 1) := by decide +kernel
theorem o194 : own 194 = RX12 := by decide +kernel
theorem d194_0 : fet 194 0 = .ok (.aload_n 0, 1) := by decide +kernel
theorem d194_1 : fet 194 1 = .ok (.getfield 7, 3) := by decide +kernel
theorem d194_4 : fet 194 4 = .ok (.bipush 20, 2) := by decide +kernel
theorem d194_6 : fet 194 6 = .ok (.iaload, 1) := by decide +kernel
theorem d194_7 : fet 194 7 = .ok (.istore_n 3, 1) := by decide +kernel
theorem d194_8 : fet 194 8 = .ok (.aload_n 0, 1) := by decide +kernel
theorem d194_9 : fet 194 9 = .ok (.getfield 7, 3) := by decide +kernel
theorem d194_12 : fet 194 12 = .ok (.bipush 21, 2) := by decide +kernel
theorem d194_14 : fet 194 14 = .ok (.iload_n 3, 1) := by decide +kernel
theorem d194_15 : fet 194 15 = .ok (.iadd, 1) := by decide +kernel
theorem d194_16 : fet 194 16 = .ok (.iload_n 1, 1) := by decide +kernel
theorem d194_17 : fet 194 17 = .ok (.iastore, 1) := by decide +kernel
theorem d194_18 : fet 194 18 = .ok (.aload_n 0, 1) := by decide +kernel
theorem d194_19 : fet 194 19 = .ok (.getfield 7, 3) := by decide +kernel
theorem d194_22 : fet 194 22 = .ok (.bipush 29, 2) := by decide +kernel
theorem d194_24 : fet 194 24 = .ok (.iload_n 3, 1) := by decide +kernel
theorem d194_25 : fet 194 25 = .ok (.iadd, 1) := by decide +kernel
theorem d194_26 : fet 194 26 = .ok (.iload_n 2, 1) := by decide +kernel
theorem d194_27 : fet 194 27 = .ok (.iastore, 1) := by decide +kernel
theorem d194_28 : fet 194 28 = .ok (.aload_n 0, 1) := by decide +kernel
theorem d194_29 : fet 194 29 = .ok (.getfield 7, 3) := by decide +kernel
theorem d194_32 : fet 194 32 = .ok (.bipush 37, 2) := by decide +kernel
theorem d194_34 : fet 194 34 = .ok (.iload_n 3, 1) := by decide +kernel
theorem d194_35 : fet 194 35 = .ok (.iadd, 1) := by decide +kernel
theorem d194_36 : fet 194 36 = .ok (.iconst 2, 1) := by decide +kernel
theorem d194_37 : fet 194 37 = .ok (.iastore, 1) := by decide +kernel
theorem d194_38 : fet 194 38 = .ok (.aload_n 0, 1) := by decide +kernel
theorem d194_39 : fet 194 39 = .ok (.getfield 7, 3) := by decide +kernel
theorem d194_42 : fet 194 42 = .ok (.bipush 20, 2) := by decide +kernel
theorem d194_44 : fet 194 44 = .ok (.dup2, 1) := by decide +kernel
theorem d194_45 : fet 194 45 = .ok (.iaload, 1) := by decide +kernel
theorem d194_46 : fet 194 46 = .ok (.iconst 1, 1) := by decide +kernel
theorem d194_47 : fet 194 47 = .ok (.iadd, 1) := by decide +kernel
theorem d194_48 : fet 194 48 = .ok (.iastore, 1) := by decide +kernel
theorem d194_49 : fet 194 49 = .ok (.return_, 1) := by decide +kernel
theorem o195 : own 195 = RX12 := by decide +kernel
theorem d195_0 : fet 195 0 = .ok (.aload_n 0, 1) := by decide +kernel
theorem d195_1 : fet 195 1 = .ok (.invokevirtual 184, 3) := by decide +kernel
theorem d195_4 : fet 195 4 = .ok (.ifCond .ne 6, 3) := by decide +kernel
theorem d195_7 : fet 195 7 = .ok (.ldc 187, 2) := by decide +kernel
theorem d195_9 : fet 195 9 = .ok (.ireturn, 1) := by decide +kernel
theorem d195_10 : fet 195 10 = .ok (.iload_n 1, 1) := by decide +kernel
theorem d195_11 : fet 195 11 = .ok (.iconst 0, 1) := by decide +kernel
theorem d195_12 : fet 195 12 = .ok (.bipush 11, 2) := by decide +kernel
theorem d195_14 : fet 195 14 = .ok (.invokestatic 59, 3) := by decide +kernel
theorem d195_17 : fet 195 17 = .ok (.ifCond .eq 13, 3) := by decide +kernel
theorem d195_20 : fet 195 20 = .ok (.iload_n 2, 1) := by decide +kernel
theorem d195_21 : fet 195 21 = .ok (.iconst 1, 1) := by decide +kernel
theorem d195_22 : fet 195 22 = .ok (.bipush 30, 2) := by decide +kernel
theorem d195_24 : fet 195 24 = .ok (.invokestatic 59, 3) := by decide +kernel
theorem d195_27 : fet 195 27 = .ok (.ifCond .ne 6, 3) := by decide +kernel
theorem d195_30 : fet 195 30 = .ok (.ldc 67, 2) := by decide +kernel
theorem d195_32 : fet 195 32 = .ok (.ireturn, 1) := by decide +kernel
theorem d195_33 : fet 195 33 = .ok (.aload_n 0, 1) := by decide +kernel
theorem d195_34 : fet 195 34 = .ok (.getfield 7, 3) := by decide +kernel
theorem d195_37 : fet 195 37 = .ok (.bipush 20, 2) := by decide +kernel
theorem d195_39 : fet 195 39 = .ok (.iaload, 1) := by decide +kernel
theorem d195_40 : fet 195 40 = .ok (.bipush 8, 2) := by decide +kernel
theorem d195_42 : fet 195 42 = .ok (.if_icmp .ne 6, 3) := by decide +kernel
theorem d195_45 : fet 195 45 = .ok (.ldc 81, 2) := by decide +kernel
theorem d195_47 : fet 195 47 = .ok (.ireturn, 1) := by decide +kernel
theorem d195_48 : fet 195 48 = .ok (.aload_n 0, 1) := by decide +kernel
theorem d195_49 : fet 195 49 = .ok (.invokevirtual 188, 3) := by decide +kernel
theorem d195_52 : fet 195 52 = .ok (.aload_n 0, 1) := by decide +kernel
theorem d195_53 : fet 195 53 = .ok (.iload_n 1, 1) := by decide +kernel
theorem d195_54 : fet 195 54 = .ok (.iload_n 2, 1) := by decide +kernel
theorem d195_55 : fet 195 55 = .ok (.invokevirtual 200, 3) := by decide +kernel
theorem d195_58 : fet 195 58 = .ok (.aload_n 0, 1) := by decide +kernel
theorem d195_59 : fet 195 59 = .ok (.getfield 7, 3) := by decide +kernel
theorem d195_62 : fet 195 62 = .ok (.bipush 20, 2) := by decide +kernel
theorem d195_64 : fet 195 64 = .ok (.iaload, 1) := by decide +kernel
theorem d195_65 : fet 195 65 = .ok (.ireturn, 1) := by decide +kernel
theorem o196 : own 196 = RX12 := by decide +kernel
theorem d196_0 : fet 196 0 = .ok (.aload_n 0, 1) := by decide +kernel
theorem d196_1 : fet 196 1 = .ok (.invokevirtual 184, 3) := by decide +kernel
theorem d196_4 : fet 196 4 = .ok (.ifCond .ne 6, 3) := by decide +kernel
theorem d196_7 : fet 196 7 = .ok (.ldc 187, 2) := by decide +kernel
theorem d196_9 : fet 196 9 = .ok (.ireturn, 1) := by decide +kernel
theorem d196_10 : fet 196 10 = .ok (.aload_n 0, 1) := by decide +kernel
theorem d196_11 : fet 196 11 = .ok (.invokevirtual 188, 3) := by decide +kernel
theorem d196_14 : fet 196 14 = .ok (.iconst 0, 1) := by decide +kernel
theorem d196_15 : fet 196 15 = .ok (.istore_n 1, 1) := by decide +kernel
theorem d196_16 : fet 196 16 = .ok (.iconst 0, 1) := by decide +kernel
theorem d196_17 : fet 196 17 = .ok (.istore_n 2, 1) := by decide +kernel
theorem d196_18 : fet 196 18 = .ok (.iload_n 2, 1) := by decide +kernel
theorem d196_19 : fet 196 19 = .ok (.aload_n 0, 1) := by decide +kernel
theorem d196_20 : fet 196 20 = .ok (.getfield 7, 3) := by decide +kernel
theorem d196_23 : fet 196 23 = .ok (.bipush 20, 2) := by decide +kernel
theorem d196_25 : fet 196 25 = .ok (.iaload, 1) := by decide +kernel
theorem d196_26 : fet 196 26 = .ok (.if_icmp .ge 53, 3) := by decide +kernel
theorem d196_29 : fet 196 29 = .ok (.aload_n 0, 1) := by decide +kernel
theorem d196_30 : fet 196 30 = .ok (.getfield 7, 3) := by decide +kernel
theorem d196_33 : fet 196 33 = .ok (.bipush 29, 2) := by decide +kernel
theorem d196_35 : fet 196 35 = .ok (.iload_n 2, 1) := by decide +kernel
theorem d196_36 : fet 196 36 = .ok (.iadd, 1) := by decide +kernel
theorem d196_37 : fet 196 37 = .ok (.iaload, 1) := by decide +kernel
theorem d196_38 : fet 196 38 = .ok (.iconst 3, 1) := by decide +kernel
theorem d196_39 : fet 196 39 = .ok (.if_icmp .ge 15, 3) := by decide +kernel
theorem d196_42 : fet 196 42 = .ok (.aload_n 0, 1) := by decide +kernel
theorem d196_43 : fet 196 43 = .ok (.getfield 7, 3) := by decide +kernel
theorem d196_46 : fet 196 46 = .ok (.bipush 29, 2) := by decide +kernel
theorem d196_48 : fet 196 48 = .ok (.iload_n 2, 1) := by decide +kernel
theorem d196_49 : fet 196 49 = .ok (.iadd, 1) := by decide +kernel
theorem d196_50 : fet 196 50 = .ok (.iaload, 1) := by decide +kernel
theorem d196_51 : fet 196 51 = .ok (.goto 4, 3) := by decide +kernel
theorem d196_54 : fet 196 54 = .ok (.iconst 3, 1) := by decide +kernel
theorem d196_55 : fet 196 55 = .ok (.istore_n 3, 1) := by decide +kernel
theorem d196_56 : fet 196 56 = .ok (.aload_n 0, 1) := by decide +kernel
theorem d196_57 : fet 196 57 = .ok (.getfield 7, 3) := by decide +kernel
theorem d196_60 : fet 196 60 = .ok (.bipush 29, 2) := by decide +kernel
theorem d196_62 : fet 196 62 = .ok (.iload_n 2, 1) := by decide +kernel
theorem d196_63 : fet 196 63 = .ok (.iadd, 1) := by decide +kernel
theorem d196_64 : fet 196 64 = .ok (.dup2, 1) := by decide +kernel
theorem d196_65 : fet 196 65 = .ok (.iaload, 1) := by decide +kernel
theorem d196_66 : fet 196 66 = .ok (.iload_n 3, 1) := by decide +kernel
theorem d196_67 : fet 196 67 = .ok (.isub, 1) := by decide +kernel
theorem d196_68 : fet 196 68 = .ok (.iastore, 1) := by decide +kernel
theorem d196_69 : fet 196 69 = .ok (.iload_n 1, 1) := by decide +kernel
theorem d196_70 : fet 196 70 = .ok (.iload_n 3, 1) := by decide +kernel
theorem d196_71 : fet 196 71 = .ok (.iadd, 1) := by decide +kernel
theorem d196_72 : fet 196 72 = .ok (.istore_n 1, 1) := by decide +kernel
theorem d196_73 : fet 196 73 = .ok (.iinc 2 1, 3) := by decide +kernel
theorem d196_76 : fet 196 76 = .ok (.goto (-58), 3) := by decide +kernel
theorem d196_79 : fet 196 79 = .ok (.iload_n 1, 1) := by decide +kernel
theorem d196_80 : fet 196 80 = .ok (.ireturn, 1) := by decide +kernel
theorem o197 : own 197 = RX12 := by decide +kernel
theorem d197_0 : fet 197 0 = .ok (.aload_n 0, 1) := by decide +kernel
theorem d197_1 : fet 197 1 = .ok (.getfield 7, 3) := by decide +kernel
theorem d197_4 : fet 197 4 = .ok (.bipush 51, 2) := by decide +kernel
theorem d197_6 : fet 197 6 = .ok (.iload_n 1, 1) := by decide +kernel
theorem d197_7 : fet 197 7 = .ok (.iadd, 1) := by decide +kernel
theorem d197_8 : fet 197 8 = .ok (.iaload, 1) := by decide +kernel
theorem d197_9 : fet 197 9 = .ok (.aload_n 0, 1) := by decide +kernel
theorem d197_10 : fet 197 10 = .ok (.aload_n 0, 1) := by decide +kernel
theorem d197_11 : fet 197 11 = .ok (.getfield 7, 3) := by decide +kernel
theorem d197_14 : fet 197 14 = .ok (.iconst 5, 1) := by decide +kernel
theorem d197_15 : fet 197 15 = .ok (.iload_n 1, 1) := by decide +kernel
theorem d197_16 : fet 197 16 = .ok (.iadd, 1) := by decide +kernel
theorem d197_17 : fet 197 17 = .ok (.iaload, 1) := by decide +kernel
theorem d197_18 : fet 197 18 = .ok (.invokevirtual 204, 3) := by decide +kernel
theorem d197_21 : fet 197 21 = .ok (.if_icmp .lt 7, 3) := by decide +kernel
theorem d197_24 : fet 197 24 = .ok (.iconst 1, 1) := by decide +kernel
theorem d197_25 : fet 197 25 = .ok (.goto 4, 3) := by decide +kernel
theorem d197_28 : fet 197 28 = .ok (.iconst 0, 1) := by decide +kernel
theorem d197_29 : fet 197 29 = .ok (.ireturn, 1) := by decide +kernel
theorem o198 : own 198 = RX12 := by decide +kernel
theorem d198_0 : fet 198 0 = .ok (.aload_n 0, 1) := by decide +kernel
theorem d198_1 : fet 198 1 = .ok (.iload_n 1, 1) := by decide +kernel
theorem d198_2 : fet 198 2 = .ok (.invokevirtual 207, 3) := by decide +kernel
theorem d198_5 : fet 198 5 = .ok (.ifCond .eq 19, 3) := by decide +kernel
theorem d198_8 : fet 198 8 = .ok (.aload_n 0, 1) := by decide +kernel
theorem d198_9 : fet 198 9 = .ok (.getfield 7, 3) := by decide +kernel
theorem d198_12 : fet 198 12 = .ok (.bipush 75, 2) := by decide +kernel
theorem d198_14 : fet 198 14 = .ok (.iload_n 1, 1) := by decide +kernel
theorem d198_15 : fet 198 15 = .ok (.iadd, 1) := by decide +kernel
theorem d198_16 : fet 198 16 = .ok (.iaload, 1) := by decide +kernel
theorem d198_17 : fet 198 17 = .ok (.ifCond .ne 7, 3) := by decide +kernel
theorem d198_20 : fet 198 20 = .ok (.iconst 1, 1) := by decide +kernel
theorem d198_21 : fet 198 21 = .ok (.goto 4, 3) := by decide +kernel
theorem d198_24 : fet 198 24 = .ok (.iconst 0, 1) := by decide +kernel
theorem d198_25 : fet 198 25 = .ok (.ireturn, 1) := by decide +kernel
theorem o199 : own 199 = RX12 := by decide +kernel
theorem d199_0 : fet 199 0 = .ok (.iconst 0, 1) := by decide +kernel
theorem d199_1 : fet 199 1 = .ok (.istore_n 1, 1) := by decide +kernel
theorem d199_2 : fet 199 2 = .ok (.iconst 0, 1) := by decide +kernel
theorem d199_3 : fet 199 3 = .ok (.istore_n 2, 1) := by decide +kernel
theorem d199_4 : fet 199 4 = .ok (.iload_n 2, 1) := by decide +kernel
theorem d199_5 : fet 199 5 = .ok (.aload_n 0, 1) := by decide +kernel
theorem d199_6 : fet 199 6 = .ok (.getfield 7, 3) := by decide +kernel
theorem d199_9 : fet 199 9 = .ok (.iconst 2, 1) := by decide +kernel
theorem d199_10 : fet 199 10 = .ok (.iaload, 1) := by decide +kernel
theorem d199_11 : fet 199 11 = .ok (.if_icmp .ge 31, 3) := by decide +kernel
theorem d199_14 : fet 199 14 = .ok (.iload_n 1, 1) := by decide +kernel
theorem d199_15 : fet 199 15 = .ok (.aload_n 0, 1) := by decide +kernel
theorem d199_16 : fet 199 16 = .ok (.getfield 7, 3) := by decide +kernel
theorem d199_19 : fet 199 19 = .ok (.bipush 81, 2) := by decide +kernel
theorem d199_21 : fet 199 21 = .ok (.iload_n 2, 1) := by decide +kernel
theorem d199_22 : fet 199 22 = .ok (.iadd, 1) := by decide +kernel
theorem d199_23 : fet 199 23 = .ok (.iaload, 1) := by decide +kernel
theorem d199_24 : fet 199 24 = .ok (.ldc 53, 2) := by decide +kernel
theorem d199_26 : fet 199 26 = .ok (.if_icmp .ne 7, 3) := by decide +kernel
theorem d199_29 : fet 199 29 = .ok (.iconst 0, 1) := by decide +kernel
theorem d199_30 : fet 199 30 = .ok (.goto 4, 3) := by decide +kernel
theorem d199_33 : fet 199 33 = .ok (.iconst 1, 1) := by decide +kernel
theorem d199_34 : fet 199 34 = .ok (.iadd, 1) := by decide +kernel
theorem d199_35 : fet 199 35 = .ok (.istore_n 1, 1) := by decide +kernel
theorem d199_36 : fet 199 36 = .ok (.iinc 2 1, 3) := by decide +kernel
theorem d199_39 : fet 199 39 = .ok (.goto (-35), 3) := by decide +kernel
theorem d199_42 : fet 199 42 = .ok (.iload_n 1, 1) := by decide +kernel
theorem d199_43 : fet 199 43 = .ok (.ireturn, 1) := by decide +kernel
theorem o200 : own 200 = RX12 := by decide +kernel
theorem d200_0 : fet 200 0 = .ok (.aload_n 0, 1) := by decide +kernel
theorem d200_1 : fet 200 1 = .ok (.iload_n 1, 1) := by decide +kernel
theorem d200_2 : fet 200 2 = .ok (.invokevirtual 194, 3) := by decide +kernel
theorem d200_5 : fet 200 5 = .ok (.ifCond .eq 19, 3) := by decide +kernel
theorem d200_8 : fet 200 8 = .ok (.iload_n 2, 1) := by decide +kernel
theorem d200_9 : fet 200 9 = .ok (.iconst 0, 1) := by decide +kernel
theorem d200_10 : fet 200 10 = .ok (.aload_n 0, 1) := by decide +kernel
theorem d200_11 : fet 200 11 = .ok (.getfield 7, 3) := by decide +kernel
theorem d200_14 : fet 200 14 = .ok (.iconst 2, 1) := by decide +kernel
theorem d200_15 : fet 200 15 = .ok (.iaload, 1) := by decide +kernel
theorem d200_16 : fet 200 16 = .ok (.iconst 1, 1) := by decide +kernel
theorem d200_17 : fet 200 17 = .ok (.isub, 1) := by decide +kernel
theorem d200_18 : fet 200 18 = .ok (.invokestatic 59, 3) := by decide +kernel
theorem d200_21 : fet 200 21 = .ok (.ifCond .ne 6, 3) := by decide +kernel
theorem d200_24 : fet 200 24 = .ok (.ldc 67, 2) := by decide +kernel
theorem d200_26 : fet 200 26 = .ok (.ireturn, 1) := by decide +kernel
theorem d200_27 : fet 200 27 = .ok (.aload_n 0, 1) := by decide +kernel
theorem d200_28 : fet 200 28 = .ok (.iload_n 1, 1) := by decide +kernel
theorem d200_29 : fet 200 29 = .ok (.invokevirtual 178, 3) := by decide +kernel
theorem d200_32 : fet 200 32 = .ok (.ifCond .ne 68, 3) := by decide +kernel
theorem d200_35 : fet 200 35 = .ok (.aload_n 0, 1) := by decide +kernel
theorem d200_36 : fet 200 36 = .ok (.iload_n 1, 1) := by decide +kernel
theorem d200_37 : fet 200 37 = .ok (.invokevirtual 210, 3) := by decide +kernel
theorem d200_40 : fet 200 40 = .ok (.ifCond .eq 60, 3) := by decide +kernel
theorem d200_43 : fet 200 43 = .ok (.aload_n 0, 1) := by decide +kernel
theorem d200_44 : fet 200 44 = .ok (.getfield 7, 3) := by decide +kernel
theorem d200_47 : fet 200 47 = .ok (.bipush 81, 2) := by decide +kernel
theorem d200_49 : fet 200 49 = .ok (.iload_n 2, 1) := by decide +kernel
theorem d200_50 : fet 200 50 = .ok (.iadd, 1) := by decide +kernel
theorem d200_51 : fet 200 51 = .ok (.iaload, 1) := by decide +kernel
theorem d200_52 : fet 200 52 = .ok (.ldc 53, 2) := by decide +kernel
theorem d200_54 : fet 200 54 = .ok (.if_icmp .ne 46, 3) := by decide +kernel
theorem d200_57 : fet 200 57 = .ok (.aload_n 0, 1) := by decide +kernel
theorem d200_58 : fet 200 58 = .ok (.getfield 7, 3) := by decide +kernel
theorem d200_61 : fet 200 61 = .ok (.bipush 15, 2) := by decide +kernel
theorem d200_63 : fet 200 63 = .ok (.iload_n 2, 1) := by decide +kernel
theorem d200_64 : fet 200 64 = .ok (.iadd, 1) := by decide +kernel
theorem d200_65 : fet 200 65 = .ok (.iaload, 1) := by decide +kernel
theorem d200_66 : fet 200 66 = .ok (.aload_n 0, 1) := by decide +kernel
theorem d200_67 : fet 200 67 = .ok (.getfield 7, 3) := by decide +kernel
theorem d200_70 : fet 200 70 = .ok (.bipush 19, 2) := by decide +kernel
theorem d200_72 : fet 200 72 = .ok (.iaload, 1) := by decide +kernel
theorem d200_73 : fet 200 73 = .ok (.if_icmp .gt 27, 3) := by decide +kernel
theorem d200_76 : fet 200 76 = .ok (.aload_n 0, 1) := by decide +kernel
theorem d200_77 : fet 200 77 = .ok (.getfield 7, 3) := by decide +kernel
theorem d200_80 : fet 200 80 = .ok (.bipush 11, 2) := by decide +kernel
theorem d200_82 : fet 200 82 = .ok (.iload_n 2, 1) := by decide +kernel
theorem d200_83 : fet 200 83 = .ok (.iadd, 1) := by decide +kernel
theorem d200_84 : fet 200 84 = .ok (.iaload, 1) := by decide +kernel
theorem d200_85 : fet 200 85 = .ok (.aload_n 0, 1) := by decide +kernel
theorem d200_86 : fet 200 86 = .ok (.getfield 7, 3) := by decide +kernel
theorem d200_89 : fet 200 89 = .ok (.iconst 5, 1) := by decide +kernel
theorem d200_90 : fet 200 90 = .ok (.iload_n 1, 1) := by decide +kernel
theorem d200_91 : fet 200 91 = .ok (.iadd, 1) := by decide +kernel
theorem d200_92 : fet 200 92 = .ok (.iaload, 1) := by decide +kernel
theorem d200_93 : fet 200 93 = .ok (.if_icmp .ne 7, 3) := by decide +kernel
theorem d200_96 : fet 200 96 = .ok (.iconst 1, 1) := by decide +kernel
theorem d200_97 : fet 200 97 = .ok (.goto 4, 3) := by decide +kernel
theorem d200_100 : fet 200 100 = .ok (.iconst 0, 1) := by decide +kernel
theorem d200_101 : fet 200 101 = .ok (.istore_n 3, 1) := by decide +kernel
theorem d200_102 : fet 200 102 = .ok (.iload_n 3, 1) := by decide +kernel
theorem d200_103 : fet 200 103 = .ok (.ifCond .ne 6, 3) := by decide +kernel
theorem d200_106 : fet 200 106 = .ok (.ldc 187, 2) := by decide +kernel
theorem d200_108 : fet 200 108 = .ok (.ireturn, 1) := by decide +kernel
theorem d200_109 : fet 200 109 = .ok (.aload_n 0, 1) := by decide +kernel
theorem d200_110 : fet 200 110 = .ok (.invokevirtual 188, 3) := by decide +kernel
theorem d200_113 : fet 200 113 = .ok (.aload_n 0, 1) := by decide +kernel
theorem d200_114 : fet 200 114 = .ok (.getfield 7, 3) := by decide +kernel
theorem d200_117 : fet 200 117 = .ok (.bipush 45, 2) := by decide +kernel
theorem d200_119 : fet 200 119 = .ok (.iload_n 1, 1) := by decide +kernel
theorem d200_120 : fet 200 120 = .ok (.iadd, 1) := by decide +kernel
theorem d200_121 : fet 200 121 = .ok (.ldc 53, 2) := by decide +kernel
theorem d200_123 : fet 200 123 = .ok (.iastore, 1) := by decide +kernel
theorem d200_124 : fet 200 124 = .ok (.aload_n 0, 1) := by decide +kernel
theorem d200_125 : fet 200 125 = .ok (.getfield 7, 3) := by decide +kernel
theorem d200_128 : fet 200 128 = .ok (.bipush 81, 2) := by decide +kernel
theorem d200_130 : fet 200 130 = .ok (.iload_n 2, 1) := by decide +kernel
theorem d200_131 : fet 200 131 = .ok (.iadd, 1) := by decide +kernel
theorem d200_132 : fet 200 132 = .ok (.iload_n 1, 1) := by decide +kernel
theorem d200_133 : fet 200 133 = .ok (.iastore, 1) := by decide +kernel
theorem d200_134 : fet 200 134 = .ok (.aload_n 0, 1) := by decide +kernel
theorem d200_135 : fet 200 135 = .ok (.invokevirtual 213, 3) := by decide +kernel
theorem d200_138 : fet 200 138 = .ok (.ireturn, 1) := by decide +kernel
theorem o201 : own 201 = RX12 := by decide +kernel
theorem d201_0 : fet 201 0 = .ok (.aload_n 0, 1) := by decide +kernel
theorem d201_1 : fet 201 1 = .ok (.getfield 147, 3) := by decide +kernel
theorem d201_4 : fet 201 4 = .ok (.ifCond .ne 6, 3) := by decide +kernel
theorem d201_7 : fet 201 7 = .ok (.ldc 187, 2) := by decide +kernel
theorem d201_9 : fet 201 9 = .ok (.ireturn, 1) := by decide +kernel
theorem d201_10 : fet 201 10 = .ok (.aload_n 0, 1) := by decide +kernel
theorem d201_11 : fet 201 11 = .ok (.dup, 1) := by decide +kernel
theorem d201_12 : fet 201 12 = .ok (.getfield 147, 3) := by decide +kernel
theorem d201_15 : fet 201 15 = .ok (.iconst 1, 1) := by decide +kernel
theorem d201_16 : fet 201 16 = .ok (.isub, 1) := by decide +kernel
theorem d201_17 : fet 201 17 = .ok (.putfield 147, 3) := by decide +kernel
theorem d201_20 : fet 201 20 = .ok (.iconst 0, 1) := by decide +kernel
theorem d201_21 : fet 201 21 = .ok (.istore_n 1, 1) := by decide +kernel
theorem d201_22 : fet 201 22 = .ok (.iload_n 1, 1) := by decide +kernel
theorem d201_23 : fet 201 23 = .ok (.bipush 66, 2) := by decide +kernel
theorem d201_25 : fet 201 25 = .ok (.if_icmp .ge 32, 3) := by decide +kernel
theorem d201_28 : fet 201 28 = .ok (.aload_n 0, 1) := by decide +kernel
theorem d201_29 : fet 201 29 = .ok (.getfield 7, 3) := by decide +kernel
theorem d201_32 : fet 201 32 = .ok (.bipush 19, 2) := by decide +kernel
theorem d201_34 : fet 201 34 = .ok (.iload_n 1, 1) := by decide +kernel
theorem d201_35 : fet 201 35 = .ok (.iadd, 1) := by decide +kernel
theorem d201_36 : fet 201 36 = .ok (.aload_n 0, 1) := by decide +kernel
theorem d201_37 : fet 201 37 = .ok (.getfield 20, 3) := by decide +kernel
theorem d201_40 : fet 201 40 = .ok (.bipush 66, 2) := by decide +kernel
theorem d201_42 : fet 201 42 = .ok (.aload_n 0, 1) := by decide +kernel
theorem d201_43 : fet 201 43 = .ok (.getfield 147, 3) := by decide +kernel
theorem d201_46 : fet 201 46 = .ok (.imul, 1) := by decide +kernel
theorem d201_47 : fet 201 47 = .ok (.iload_n 1, 1) := by decide +kernel
theorem d201_48 : fet 201 48 = .ok (.iadd, 1) := by decide +kernel
theorem d201_49 : fet 201 49 = .ok (.iaload, 1) := by decide +kernel
theorem d201_50 : fet 201 50 = .ok (.iastore, 1) := by decide +kernel
theorem d201_51 : fet 201 51 = .ok (.iinc 1 1, 3) := by decide +kernel
theorem d201_54 : fet 201 54 = .ok (.goto (-32), 3) := by decide +kernel
theorem d201_57 : fet 201 57 = .ok (.aload_n 0, 1) := by decide +kernel
theorem d201_58 : fet 201 58 = .ok (.getfield 147, 3) := by decide +kernel
theorem d201_61 : fet 201 61 = .ok (.ireturn, 1) := by decide +kernel
theorem o202 : own 202 = RX12 := by decide +kernel
theorem d202_0 : fet 202 0 = .ok (.aload_n 0, 1) := by decide +kernel
theorem d202_1 : fet 202 1 = .ok (.iload_n 1, 1) := by decide +kernel
theorem d202_2 : fet 202 2 = .ok (.invokevirtual 194, 3) := by decide +kernel
theorem d202_5 : fet 202 5 = .ok (.ifCond .eq 13, 3) := by decide +kernel
theorem d202_8 : fet 202 8 = .ok (.iload_n 2, 1) := by decide +kernel
theorem d202_9 : fet 202 9 = .ok (.iconst 0, 1) := by decide +kernel
theorem d202_10 : fet 202 10 = .ok (.bipush 6, 2) := by decide +kernel
theorem d202_12 : fet 202 12 = .ok (.invokestatic 59, 3) := by decide +kernel
theorem d202_15 : fet 202 15 = .ok (.ifCond .ne 6, 3) := by decide +kernel
theorem d202_18 : fet 202 18 = .ok (.ldc 67, 2) := by decide +kernel
theorem d202_20 : fet 202 20 = .ok (.ireturn, 1) := by decide +kernel
theorem d202_21 : fet 202 21 = .ok (.iload_n 2, 1) := by decide +kernel
theorem d202_22 : fet 202 22 = .ok (.bipush 6, 2) := by decide +kernel
theorem d202_24 : fet 202 24 = .ok (.if_icmp .ne 19, 3) := by decide +kernel
theorem d202_27 : fet 202 27 = .ok (.aload_n 0, 1) := by decide +kernel
theorem d202_28 : fet 202 28 = .ok (.iload_n 1, 1) := by decide +kernel
theorem d202_29 : fet 202 29 = .ok (.invokevirtual 207, 3) := by decide +kernel
theorem d202_32 : fet 202 32 = .ok (.ifCond .eq 7, 3) := by decide +kernel
theorem d202_35 : fet 202 35 = .ok (.iconst 1, 1) := by decide +kernel
theorem d202_36 : fet 202 36 = .ok (.goto 21, 3) := by decide +kernel
theorem d202_39 : fet 202 39 = .ok (.iconst 0, 1) := by decide +kernel
theorem d202_40 : fet 202 40 = .ok (.goto 17, 3) := by decide +kernel
theorem d202_43 : fet 202 43 = .ok (.aload_n 0, 1) := by decide +kernel
theorem d202_44 : fet 202 44 = .ok (.getfield 7, 3) := by decide +kernel
theorem d202_47 : fet 202 47 = .ok (.bipush 45, 2) := by decide +kernel
theorem d202_49 : fet 202 49 = .ok (.bipush 6, 2) := by decide +kernel
theorem d202_51 : fet 202 51 = .ok (.iload_n 2, 1) := by decide +kernel
theorem d202_52 : fet 202 52 = .ok (.imul, 1) := by decide +kernel
theorem d202_53 : fet 202 53 = .ok (.iadd, 1) := by decide +kernel
theorem d202_54 : fet 202 54 = .ok (.iload_n 1, 1) := by decide +kernel
theorem d202_55 : fet 202 55 = .ok (.iadd, 1) := by decide +kernel
theorem d202_56 : fet 202 56 = .ok (.iaload, 1) := by decide +kernel
theorem d202_57 : fet 202 57 = .ok (.ireturn, 1) := by decide +kernel
theorem o203 : own 203 = RX12 := by decide +kernel
theorem d203_0 : fet 203 0 = .ok (.iload_n 1, 1) := by decide +kernel
theorem d203_1 : fet 203 1 = .ok (.iconst 0, 1) := by decide +kernel
theorem d203_2 : fet 203 2 = .ok (.aload_n 0, 1) := by decide +kernel
theorem d203_3 : fet 203 3 = .ok (.getfield 7, 3) := by decide +kernel
theorem d203_6 : fet 203 6 = .ok (.iconst 2, 1) := by decide +kernel
theorem d203_7 : fet 203 7 = .ok (.iaload, 1) := by decide +kernel
theorem d203_8 : fet 203 8 = .ok (.iconst 1, 1) := by decide +kernel
theorem d203_9 : fet 203 9 = .ok (.isub, 1) := by decide +kernel
theorem d203_10 : fet 203 10 = .ok (.invokestatic 59, 3) := by decide +kernel
theorem d203_13 : fet 203 13 = .ok (.ifCond .eq 12, 3) := by decide +kernel
theorem d203_16 : fet 203 16 = .ok (.iload_n 2, 1) := by decide +kernel
theorem d203_17 : fet 203 17 = .ok (.iconst 0, 1) := by decide +kernel
theorem d203_18 : fet 203 18 = .ok (.iconst 2, 1) := by decide +kernel
theorem d203_19 : fet 203 19 = .ok (.invokestatic 59, 3) := by decide +kernel
theorem d203_22 : fet 203 22 = .ok (.ifCond .ne 6, 3) := by decide +kernel
theorem d203_25 : fet 203 25 = .ok (.ldc 67, 2) := by decide +kernel
theorem d203_27 : fet 203 27 = .ok (.ireturn, 1) := by decide +kernel
theorem d203_28 : fet 203 28 = .ok (.iload_n 2, 1) := by decide +kernel
theorem d203_29 : fet 203 29 = .ok (.ifCond .ne 15, 3) := by decide +kernel
theorem d203_32 : fet 203 32 = .ok (.aload_n 0, 1) := by decide +kernel
theorem d203_33 : fet 203 33 = .ok (.getfield 7, 3) := by decide +kernel
theorem d203_36 : fet 203 36 = .ok (.bipush 11, 2) := by decide +kernel
theorem d203_38 : fet 203 38 = .ok (.iload_n 1, 1) := by decide +kernel
theorem d203_39 : fet 203 39 = .ok (.iadd, 1) := by decide +kernel
theorem d203_40 : fet 203 40 = .ok (.iaload, 1) := by decide +kernel
theorem d203_41 : fet 203 41 = .ok (.goto 29, 3) := by decide +kernel
theorem d203_44 : fet 203 44 = .ok (.iload_n 2, 1) := by decide +kernel
theorem d203_45 : fet 203 45 = .ok (.iconst 1, 1) := by decide +kernel
theorem d203_46 : fet 203 46 = .ok (.if_icmp .ne 15, 3) := by decide +kernel
theorem d203_49 : fet 203 49 = .ok (.aload_n 0, 1) := by decide +kernel
theorem d203_50 : fet 203 50 = .ok (.getfield 7, 3) := by decide +kernel
theorem d203_53 : fet 203 53 = .ok (.bipush 15, 2) := by decide +kernel
theorem d203_55 : fet 203 55 = .ok (.iload_n 1, 1) := by decide +kernel
theorem d203_56 : fet 203 56 = .ok (.iadd, 1) := by decide +kernel
theorem d203_57 : fet 203 57 = .ok (.iaload, 1) := by decide +kernel
theorem d203_58 : fet 203 58 = .ok (.goto 12, 3) := by decide +kernel
theorem d203_61 : fet 203 61 = .ok (.aload_n 0, 1) := by decide +kernel
theorem d203_62 : fet 203 62 = .ok (.getfield 7, 3) := by decide +kernel
theorem d203_65 : fet 203 65 = .ok (.bipush 81, 2) := by decide +kernel
theorem d203_67 : fet 203 67 = .ok (.iload_n 1, 1) := by decide +kernel
theorem d203_68 : fet 203 68 = .ok (.iadd, 1) := by decide +kernel
theorem d203_69 : fet 203 69 = .ok (.iaload, 1) := by decide +kernel
theorem d203_70 : fet 203 70 = .ok (.ireturn, 1) := by decide +kernel
theorem o204 : own 204 = RX12 := by decide +kernel
theorem d204_0 : fet 204 0 = .ok (.iload_n 1, 1) := by decide +kernel
theorem d204_1 : fet 204 1 = .ok (.iconst 0, 1) := by decide +kernel
theorem d204_2 : fet 204 2 = .ok (.aload_n 0, 1) := by decide +kernel
theorem d204_3 : fet 204 3 = .ok (.getfield 7, 3) := by decide +kernel
theorem d204_6 : fet 204 6 = .ok (.bipush 20, 2) := by decide +kernel
theorem d204_8 : fet 204 8 = .ok (.iaload, 1) := by decide +kernel
theorem d204_9 : fet 204 9 = .ok (.iconst 1, 1) := by decide +kernel
theorem d204_10 : fet 204 10 = .ok (.isub, 1) := by decide +kernel
theorem d204_11 : fet 204 11 = .ok (.invokestatic 59, 3) := by decide +kernel
theorem d204_14 : fet 204 14 = .ok (.ifCond .eq 12, 3) := by decide +kernel
theorem d204_17 : fet 204 17 = .ok (.iload_n 2, 1) := by decide +kernel
theorem d204_18 : fet 204 18 = .ok (.iconst 0, 1) := by decide +kernel
theorem d204_19 : fet 204 19 = .ok (.iconst 2, 1) := by decide +kernel
theorem d204_20 : fet 204 20 = .ok (.invokestatic 59, 3) := by decide +kernel
theorem d204_23 : fet 204 23 = .ok (.ifCond .ne 6, 3) := by decide +kernel
theorem d204_26 : fet 204 26 = .ok (.ldc 67, 2) := by decide +kernel
theorem d204_28 : fet 204 28 = .ok (.ireturn, 1) := by decide +kernel
theorem d204_29 : fet 204 29 = .ok (.aload_n 0, 1) := by decide +kernel
theorem d204_30 : fet 204 30 = .ok (.getfield 7, 3) := by decide +kernel
theorem d204_33 : fet 204 33 = .ok (.bipush 21, 2) := by decide +kernel
theorem d204_35 : fet 204 35 = .ok (.bipush 8, 2) := by decide +kernel
theorem d204_37 : fet 204 37 = .ok (.iload_n 2, 1) := by decide +kernel
theorem d204_38 : fet 204 38 = .ok (.imul, 1) := by decide +kernel
theorem d204_39 : fet 204 39 = .ok (.iadd, 1) := by decide +kernel
theorem d204_40 : fet 204 40 = .ok (.iload_n 1, 1) := by decide +kernel
theorem d204_41 : fet 204 41 = .ok (.iadd, 1) := by decide +kernel
theorem d204_42 : fet 204 42 = .ok (.iaload, 1) := by decide +kernel
theorem d204_43 : fet 204 43 = .ok (.ireturn, 1) := by decide +kernel
theorem o205 : own 205 = RX12 := by decide +kernel
theorem d205_0 : fet 205 0 = .ok (.aload_n 0, 1) := by decide +kernel
theorem d205_1 : fet 205 1 = .ok (.invokevirtual 184, 3) := by decide +kernel
theorem d205_4 : fet 205 4 = .ok (.ifCond .ne 6, 3) := by decide +kernel
theorem d205_7 : fet 205 7 = .ok (.ldc 187, 2) := by decide +kernel
theorem d205_9 : fet 205 9 = .ok (.ireturn, 1) := by decide +kernel
theorem d205_10 : fet 205 10 = .ok (.iload_n 1, 1) := by decide +kernel
theorem d205_11 : fet 205 11 = .ok (.iconst 0, 1) := by decide +kernel
theorem d205_12 : fet 205 12 = .ok (.bipush 11, 2) := by decide +kernel
theorem d205_14 : fet 205 14 = .ok (.invokestatic 59, 3) := by decide +kernel
theorem d205_17 : fet 205 17 = .ok (.ifCond .eq 11, 3) := by decide +kernel
theorem d205_20 : fet 205 20 = .ok (.aload_n 0, 1) := by decide +kernel
theorem d205_21 : fet 205 21 = .ok (.iload_n 1, 1) := by decide +kernel
theorem d205_22 : fet 205 22 = .ok (.invokevirtual 175, 3) := by decide +kernel
theorem d205_25 : fet 205 25 = .ok (.goto 5, 3) := by decide +kernel
theorem d205_28 : fet 205 28 = .ok (.ldc 67, 2) := by decide +kernel
theorem d205_30 : fet 205 30 = .ok (.ireturn, 1) := by decide +kernel
theorem o206 : own 206 = RX12 := by decide +kernel
theorem d206_0 : fet 206 0 = .ok (.iconst 0, 1) := by decide +kernel
theorem d206_1 : fet 206 1 = .ok (.istore_n 1, 1) := by decide +kernel
theorem d206_2 : fet 206 2 = .ok (.iload_n 1, 1) := by decide +kernel
theorem d206_3 : fet 206 3 = .ok (.bipush 66, 2) := by decide +kernel
theorem d206_5 : fet 206 5 = .ok (.if_icmp .ge 24, 3) := by decide +kernel
theorem d206_8 : fet 206 8 = .ok (.aload_n 0, 1) := by decide +kernel
theorem d206_9 : fet 206 9 = .ok (.getfield 41, 3) := by decide +kernel
theorem d206_12 : fet 206 12 = .ok (.iload_n 1, 1) := by decide +kernel
theorem d206_13 : fet 206 13 = .ok (.aload_n 0, 1) := by decide +kernel
theorem d206_14 : fet 206 14 = .ok (.getfield 7, 3) := by decide +kernel
theorem d206_17 : fet 206 17 = .ok (.bipush 19, 2) := by decide +kernel
theorem d206_19 : fet 206 19 = .ok (.iload_n 1, 1) := by decide +kernel
theorem d206_20 : fet 206 20 = .ok (.iadd, 1) := by decide +kernel
theorem d206_21 : fet 206 21 = .ok (.iaload, 1) := by decide +kernel
theorem d206_22 : fet 206 22 = .ok (.iastore, 1) := by decide +kernel
theorem d206_23 : fet 206 23 = .ok (.iinc 1 1, 3) := by decide +kernel
theorem d206_26 : fet 206 26 = .ok (.goto (-24), 3) := by decide +kernel
theorem d206_29 : fet 206 29 = .ok (.return_, 1) := by decide +kernel
theorem o207 : own 207 = RX12 := by decide +kernel
theorem d207_0 : fet 207 0 = .ok (.iconst 0, 1) := by decide +kernel
theorem d207_1 : fet 207 1 = .ok (.istore_n 1, 1) := by decide +kernel
theorem d207_2 : fet 207 2 = .ok (.iload_n 1, 1) := by decide +kernel
theorem d207_3 : fet 207 3 = .ok (.bipush 66, 2) := by decide +kernel
theorem d207_5 : fet 207 5 = .ok (.if_icmp .ge 24, 3) := by decide +kernel
theorem d207_8 : fet 207 8 = .ok (.aload_n 0, 1) := by decide +kernel
theorem d207_9 : fet 207 9 = .ok (.getfield 7, 3) := by decide +kernel
theorem d207_12 : fet 207 12 = .ok (.bipush 19, 2) := by decide +kernel
theorem d207_14 : fet 207 14 = .ok (.iload_n 1, 1) := by decide +kernel
theorem d207_15 : fet 207 15 = .ok (.iadd, 1) := by decide +kernel
theorem d207_16 : fet 207 16 = .ok (.aload_n 0, 1) := by decide +kernel
theorem d207_17 : fet 207 17 = .ok (.getfield 41, 3) := by decide +kernel
theorem d207_20 : fet 207 20 = .ok (.iload_n 1, 1) := by decide +kernel
theorem d207_21 : fet 207 21 = .ok (.iaload, 1) := by decide +kernel
theorem d207_22 : fet 207 22 = .ok (.iastore, 1) := by decide +kernel
theorem d207_23 : fet 207 23 = .ok (.iinc 1 1, 3) := by decide +kernel
theorem d207_26 : fet 207 26 = .ok (.goto (-24), 3) := by decide +kernel
theorem d207_29 : fet 207 29 = .ok (.return_, 1) := by decide +kernel
theorem o208 : own 208 = RX12 := by decide +kernel
theorem d208_0 : fet 208 0 = .ok (.iconst 0, 1) := by decide +kernel
theorem d208_1 : fet 208 1 = .ok (.istore_n 2, 1) := by decide +kernel
theorem d208_2 : fet 208 2 = .ok (.iload_n 2, 1) := by decide +kernel
theorem d208_3 : fet 208 3 = .ok (.iload_n 1, 1) := by decide +kernel
theorem d208_4 : fet 208 4 = .ok (.if_icmp .ge 13, 3) := by decide +kernel
theorem d208_7 : fet 208 7 = .ok (.aload_n 0, 1) := by decide +kernel
theorem d208_8 : fet 208 8 = .ok (.invokevirtual 191, 3) := by decide +kernel
theorem d208_11 : fet 208 11 = .ok (.iinc 2 1, 3) := by decide +kernel
theorem d208_14 : fet 208 14 = .ok (.goto (-12), 3) := by decide +kernel
theorem d208_17 : fet 208 17 = .ok (.return_, 1) := by decide +kernel
theorem o209 : own 209 = RX12 := by decide +kernel
theorem d209_0 : fet 209 0 = .ok (.aload_n 0, 1) := by decide +kernel
theorem d209_1 : fet 209 1 = .ok (.iload_n 1, 1) := by decide +kernel
theorem d209_2 : fet 209 2 = .ok (.invokevirtual 194, 3) := by decide +kernel
theorem d209_5 : fet 209 5 = .ok (.ifCond .eq 22, 3) := by decide +kernel
theorem d209_8 : fet 209 8 = .ok (.iload_n 2, 1) := by decide +kernel
theorem d209_9 : fet 209 9 = .ok (.iconst 0, 1) := by decide +kernel
theorem d209_10 : fet 209 10 = .ok (.bipush 60, 2) := by decide +kernel
theorem d209_12 : fet 209 12 = .ok (.invokestatic 59, 3) := by decide +kernel
theorem d209_15 : fet 209 15 = .ok (.ifCond .eq 12, 3) := by decide +kernel
theorem d209_18 : fet 209 18 = .ok (.iload_n 3, 1) := by decide +kernel
theorem d209_19 : fet 209 19 = .ok (.iconst 0, 1) := by decide +kernel
theorem d209_20 : fet 209 20 = .ok (.iconst 3, 1) := by decide +kernel
theorem d209_21 : fet 209 21 = .ok (.invokestatic 59, 3) := by decide +kernel
theorem d209_24 : fet 209 24 = .ok (.ifCond .ne 6, 3) := by decide +kernel
theorem d209_27 : fet 209 27 = .ok (.ldc 67, 2) := by decide +kernel
theorem d209_29 : fet 209 29 = .ok (.ireturn, 1) := by decide +kernel
theorem d209_30 : fet 209 30 = .ok (.aload_n 0, 1) := by decide +kernel
theorem d209_31 : fet 209 31 = .ok (.iload_n 1, 1) := by decide +kernel
theorem d209_32 : fet 209 32 = .ok (.invokevirtual 178, 3) := by decide +kernel
theorem d209_35 : fet 209 35 = .ok (.ifCond .eq 6, 3) := by decide +kernel
theorem d209_38 : fet 209 38 = .ok (.ldc 187, 2) := by decide +kernel
theorem d209_40 : fet 209 40 = .ok (.ireturn, 1) := by decide +kernel
theorem d209_41 : fet 209 41 = .ok (.aload_n 0, 1) := by decide +kernel
theorem d209_42 : fet 209 42 = .ok (.invokevirtual 217, 3) := by decide +kernel
theorem d209_45 : fet 209 45 = .ok (.aload_n 0, 1) := by decide +kernel
theorem d209_46 : fet 209 46 = .ok (.iload_n 2, 1) := by decide +kernel
theorem d209_47 : fet 209 47 = .ok (.invokevirtual 220, 3) := by decide +kernel
theorem d209_50 : fet 209 50 = .ok (.iload_n 3, 1) := by decide +kernel
theorem d209_51 : fet 209 51 = .ok (.ifCond .ne 15, 3) := by decide +kernel
theorem d209_54 : fet 209 54 = .ok (.aload_n 0, 1) := by decide +kernel
theorem d209_55 : fet 209 55 = .ok (.getfield 7, 3) := by decide +kernel
theorem d209_58 : fet 209 58 = .ok (.bipush 51, 2) := by decide +kernel
theorem d209_60 : fet 209 60 = .ok (.iload_n 1, 1) := by decide +kernel
theorem d209_61 : fet 209 61 = .ok (.iadd, 1) := by decide +kernel
theorem d209_62 : fet 209 62 = .ok (.iaload, 1) := by decide +kernel
theorem d209_63 : fet 209 63 = .ok (.goto 38, 3) := by decide +kernel
theorem d209_66 : fet 209 66 = .ok (.iload_n 3, 1) := by decide +kernel
theorem d209_67 : fet 209 67 = .ok (.iconst 1, 1) := by decide +kernel
theorem d209_68 : fet 209 68 = .ok (.if_icmp .ne 11, 3) := by decide +kernel
theorem d209_71 : fet 209 71 = .ok (.aload_n 0, 1) := by decide +kernel
theorem d209_72 : fet 209 72 = .ok (.iload_n 1, 1) := by decide +kernel
theorem d209_73 : fet 209 73 = .ok (.invokevirtual 160, 3) := by decide +kernel
theorem d209_76 : fet 209 76 = .ok (.goto 25, 3) := by decide +kernel
theorem d209_79 : fet 209 79 = .ok (.iload_n 3, 1) := by decide +kernel
theorem d209_80 : fet 209 80 = .ok (.iconst 2, 1) := by decide +kernel
theorem d209_81 : fet 209 81 = .ok (.if_icmp .ne 11, 3) := by decide +kernel
theorem d209_84 : fet 209 84 = .ok (.aload_n 0, 1) := by decide +kernel
theorem d209_85 : fet 209 85 = .ok (.iload_n 1, 1) := by decide +kernel
theorem d209_86 : fet 209 86 = .ok (.invokevirtual 223, 3) := by decide +kernel
theorem d209_89 : fet 209 89 = .ok (.goto 12, 3) := by decide +kernel
theorem d209_92 : fet 209 92 = .ok (.aload_n 0, 1) := by decide +kernel
theorem d209_93 : fet 209 93 = .ok (.getfield 7, 3) := by decide +kernel
theorem d209_96 : fet 209 96 = .ok (.bipush 75, 2) := by decide +kernel
theorem d209_98 : fet 209 98 = .ok (.iload_n 1, 1) := by decide +kernel
theorem d209_99 : fet 209 99 = .ok (.iadd, 1) := by decide +kernel
theorem d209_100 : fet 209 100 = .ok (.iaload, 1) := by decide +kernel
theorem d209_101 : fet 209 101 = .ok (.istore 4, 2) := by decide +kernel
theorem d209_103 : fet 209 103 = .ok (.aload_n 0, 1) := by decide +kernel
theorem d209_104 : fet 209 104 = .ok (.invokevirtual 226, 3) := by decide +kernel
theorem d209_107 : fet 209 107 = .ok (.iload 4, 2) := by decide +kernel
theorem d209_109 : fet 209 109 = .ok (.ireturn, 1) := by decide +kernel
theorem o210 : own 210 = RX12 := by decide +kernel
theorem d210_0 : fet 210 0 = .ok (.aload_n 0, 1) := by decide +kernel
theorem d210_1 : fet 210 1 = .ok (.invokevirtual 184, 3) := by decide +kernel
theorem d210_4 : fet 210 4 = .ok (.ifCond .ne 6, 3) := by decide +kernel
theorem d210_7 : fet 210 7 = .ok (.ldc 187, 2) := by decide +kernel
theorem d210_9 : fet 210 9 = .ok (.ireturn, 1) := by decide +kernel
theorem d210_10 : fet 210 10 = .ok (.iload_n 1, 1) := by decide +kernel
theorem d210_11 : fet 210 11 = .ok (.iconst 0, 1) := by decide +kernel
theorem d210_12 : fet 210 12 = .ok (.bipush 11, 2) := by decide +kernel
theorem d210_14 : fet 210 14 = .ok (.invokestatic 59, 3) := by decide +kernel
theorem d210_17 : fet 210 17 = .ok (.ifCond .eq 13, 3) := by decide +kernel
theorem d210_20 : fet 210 20 = .ok (.iload_n 2, 1) := by decide +kernel
theorem d210_21 : fet 210 21 = .ok (.iconst 0, 1) := by decide +kernel
theorem d210_22 : fet 210 22 = .ok (.bipush 60, 2) := by decide +kernel
theorem d210_24 : fet 210 24 = .ok (.invokestatic 59, 3) := by decide +kernel
theorem d210_27 : fet 210 27 = .ok (.ifCond .ne 6, 3) := by decide +kernel
theorem d210_30 : fet 210 30 = .ok (.ldc 67, 2) := by decide +kernel
theorem d210_32 : fet 210 32 = .ok (.ireturn, 1) := by decide +kernel
theorem d210_33 : fet 210 33 = .ok (.aload_n 0, 1) := by decide +kernel
theorem d210_34 : fet 210 34 = .ok (.invokevirtual 217, 3) := by decide +kernel
theorem d210_37 : fet 210 37 = .ok (.aload_n 0, 1) := by decide +kernel
theorem d210_38 : fet 210 38 = .ok (.iload_n 2, 1) := by decide +kernel
theorem d210_39 : fet 210 39 = .ok (.invokevirtual 220, 3) := by decide +kernel
theorem d210_42 : fet 210 42 = .ok (.aload_n 0, 1) := by decide +kernel
theorem d210_43 : fet 210 43 = .ok (.iload_n 1, 1) := by decide +kernel
theorem d210_44 : fet 210 44 = .ok (.invokevirtual 175, 3) := by decide +kernel
theorem d210_47 : fet 210 47 = .ok (.istore_n 3, 1) := by decide +kernel
theorem d210_48 : fet 210 48 = .ok (.aload_n 0, 1) := by decide +kernel
theorem d210_49 : fet 210 49 = .ok (.invokevirtual 226, 3) := by decide +kernel
theorem d210_52 : fet 210 52 = .ok (.iload_n 3, 1) := by decide +kernel
theorem d210_53 : fet 210 53 = .ok (.ireturn, 1) := by decide +kernel
theorem o211 : own 211 = RX12 := by decide +kernel
theorem d211_0 : fet 211 0 = .ok (.aload_n 0, 1) := by decide +kernel
theorem d211_1 : fet 211 1 = .ok (.invokevirtual 217, 3) := by decide +kernel
theorem d211_4 : fet 211 4 = .ok (.aload_n 0, 1) := by decide +kernel
theorem d211_5 : fet 211 5 = .ok (.getfield 7, 3) := by decide +kernel
theorem d211_8 : fet 211 8 = .ok (.bipush 45, 2) := by decide +kernel
theorem d211_10 : fet 211 10 = .ok (.iload_n 1, 1) := by decide +kernel
theorem d211_11 : fet 211 11 = .ok (.iadd, 1) := by decide +kernel
theorem d211_12 : fet 211 12 = .ok (.iload_n 2, 1) := by decide +kernel
theorem d211_13 : fet 211 13 = .ok (.iastore, 1) := by decide +kernel
theorem d211_14 : fet 211 14 = .ok (.ldc 53, 2) := by decide +kernel
theorem d211_16 : fet 211 16 = .ok (.istore_n 3, 1) := by decide +kernel
theorem d211_17 : fet 211 17 = .ok (.iconst 0, 1) := by decide +kernel
theorem d211_18 : fet 211 18 = .ok (.istore 4, 2) := by decide +kernel
theorem d211_20 : fet 211 20 = .ok (.iload 4, 2) := by decide +kernel
theorem d211_22 : fet 211 22 = .ok (.bipush 60, 2) := by decide +kernel
theorem d211_24 : fet 211 24 = .ok (.if_icmp .gt 35, 3) := by decide +kernel
theorem d211_27 : fet 211 27 = .ok (.iload_n 3, 1) := by decide +kernel
theorem d211_28 : fet 211 28 = .ok (.ldc 53, 2) := by decide +kernel
theorem d211_30 : fet 211 30 = .ok (.if_icmp .ne 29, 3) := by decide +kernel
theorem d211_33 : fet 211 33 = .ok (.aload_n 0, 1) := by decide +kernel
theorem d211_34 : fet 211 34 = .ok (.iload_n 1, 1) := by decide +kernel
theorem d211_35 : fet 211 35 = .ok (.invokevirtual 210, 3) := by decide +kernel
theorem d211_38 : fet 211 38 = .ok (.ifCond .eq 8, 3) := by decide +kernel
theorem d211_41 : fet 211 41 = .ok (.iload 4, 2) := by decide +kernel
theorem d211_43 : fet 211 43 = .ok (.goto 5, 3) := by decide +kernel
theorem d211_46 : fet 211 46 = .ok (.ldc 53, 2) := by decide +kernel
theorem d211_48 : fet 211 48 = .ok (.istore_n 3, 1) := by decide +kernel
theorem d211_49 : fet 211 49 = .ok (.aload_n 0, 1) := by decide +kernel
theorem d211_50 : fet 211 50 = .ok (.invokevirtual 191, 3) := by decide +kernel
theorem d211_53 : fet 211 53 = .ok (.iinc 4 1, 3) := by decide +kernel
theorem d211_56 : fet 211 56 = .ok (.goto (-36), 3) := by decide +kernel
theorem d211_59 : fet 211 59 = .ok (.aload_n 0, 1) := by decide +kernel
theorem d211_60 : fet 211 60 = .ok (.invokevirtual 226, 3) := by decide +kernel
theorem d211_63 : fet 211 63 = .ok (.iload_n 3, 1) := by decide +kernel
theorem d211_64 : fet 211 64 = .ok (.ireturn, 1) := by decide +kernel
theorem o212 : own 212 = RX12 := by decide +kernel
theorem d212_0 : fet 212 0 = .ok (.aload_n 0, 1) := by decide +kernel
theorem d212_1 : fet 212 1 = .ok (.iload_n 1, 1) := by decide +kernel
theorem d212_2 : fet 212 2 = .ok (.invokevirtual 194, 3) := by decide +kernel
theorem d212_5 : fet 212 5 = .ok (.ifCond .ne 6, 3) := by decide +kernel
theorem d212_8 : fet 212 8 = .ok (.ldc 67, 2) := by decide +kernel
theorem d212_10 : fet 212 10 = .ok (.ireturn, 1) := by decide +kernel
theorem d212_11 : fet 212 11 = .ok (.aload_n 0, 1) := by decide +kernel
theorem d212_12 : fet 212 12 = .ok (.iload_n 1, 1) := by decide +kernel
theorem d212_13 : fet 212 13 = .ok (.invokevirtual 178, 3) := by decide +kernel
theorem d212_16 : fet 212 16 = .ok (.ifCond .eq 8, 3) := by decide +kernel
theorem d212_19 : fet 212 19 = .ok (.ldc 187, 2) := by decide +kernel
theorem d212_21 : fet 212 21 = .ok (.goto 17, 3) := by decide +kernel
theorem d212_24 : fet 212 24 = .ok (.aload_n 0, 1) := by decide +kernel
theorem d212_25 : fet 212 25 = .ok (.iload_n 1, 1) := by decide +kernel
theorem d212_26 : fet 212 26 = .ok (.aload_n 0, 1) := by decide +kernel
theorem d212_27 : fet 212 27 = .ok (.getfield 7, 3) := by decide +kernel
theorem d212_30 : fet 212 30 = .ok (.bipush 45, 2) := by decide +kernel
theorem d212_32 : fet 212 32 = .ok (.iload_n 1, 1) := by decide +kernel
theorem d212_33 : fet 212 33 = .ok (.iadd, 1) := by decide +kernel
theorem d212_34 : fet 212 34 = .ok (.iaload, 1) := by decide +kernel
theorem d212_35 : fet 212 35 = .ok (.invokevirtual 229, 3) := by decide +kernel
theorem d212_38 : fet 212 38 = .ok (.ireturn, 1) := by decide +kernel
theorem o213 : own 213 = RX12 := by decide +kernel
theorem d213_0 : fet 213 0 = .ok (.aload_n 0, 1) := by decide +kernel
theorem d213_1 : fet 213 1 = .ok (.iload_n 1, 1) := by decide +kernel
theorem d213_2 : fet 213 2 = .ok (.invokevirtual 194, 3) := by decide +kernel
theorem d213_5 : fet 213 5 = .ok (.ifCond .ne 6, 3) := by decide +kernel
theorem d213_8 : fet 213 8 = .ok (.ldc 67, 2) := by decide +kernel
theorem d213_10 : fet 213 10 = .ok (.ireturn, 1) := by decide +kernel
theorem d213_11 : fet 213 11 = .ok (.aload_n 0, 1) := by decide +kernel
theorem d213_12 : fet 213 12 = .ok (.iload_n 1, 1) := by decide +kernel
theorem d213_13 : fet 213 13 = .ok (.invokevirtual 178, 3) := by decide +kernel
theorem d213_16 : fet 213 16 = .ok (.ifCond .eq 6, 3) := by decide +kernel
theorem d213_19 : fet 213 19 = .ok (.ldc 187, 2) := by decide +kernel
theorem d213_21 : fet 213 21 = .ok (.ireturn, 1) := by decide +kernel
theorem d213_22 : fet 213 22 = .ok (.ldc 53, 2) := by decide +kernel
theorem d213_24 : fet 213 24 = .ok (.istore_n 2, 1) := by decide +kernel
theorem d213_25 : fet 213 25 = .ok (.iconst 0, 1) := by decide +kernel
theorem d213_26 : fet 213 26 = .ok (.istore_n 3, 1) := by decide +kernel
theorem d213_27 : fet 213 27 = .ok (.iconst 0, 1) := by decide +kernel
theorem d213_28 : fet 213 28 = .ok (.istore 4, 2) := by decide +kernel
theorem d213_30 : fet 213 30 = .ok (.iload 4, 2) := by decide +kernel
theorem d213_32 : fet 213 32 = .ok (.bipush 12, 2) := by decide +kernel
theorem d213_34 : fet 213 34 = .ok (.if_icmp .ge 83, 3) := by decide +kernel
theorem d213_37 : fet 213 37 = .ok (.aload_n 0, 1) := by decide +kernel
theorem d213_38 : fet 213 38 = .ok (.iload_n 1, 1) := by decide +kernel
theorem d213_39 : fet 213 39 = .ok (.iload 4, 2) := by decide +kernel
theorem d213_41 : fet 213 41 = .ok (.invokevirtual 197, 3) := by decide +kernel
theorem d213_44 : fet 213 44 = .ok (.ifCond .eq 8, 3) := by decide +kernel
theorem d213_47 : fet 213 47 = .ok (.ldc 53, 2) := by decide +kernel
theorem d213_49 : fet 213 49 = .ok (.goto 10, 3) := by decide +kernel
theorem d213_52 : fet 213 52 = .ok (.aload_n 0, 1) := by decide +kernel
theorem d213_53 : fet 213 53 = .ok (.iload_n 1, 1) := by decide +kernel
theorem d213_54 : fet 213 54 = .ok (.iload 4, 2) := by decide +kernel
theorem d213_56 : fet 213 56 = .ok (.invokevirtual 229, 3) := by decide +kernel
theorem d213_59 : fet 213 59 = .ok (.istore 5, 2) := by decide +kernel
theorem d213_61 : fet 213 61 = .ok (.iload 5, 2) := by decide +kernel
theorem d213_63 : fet 213 63 = .ok (.ldc 53, 2) := by decide +kernel
theorem d213_65 : fet 213 65 = .ok (.if_icmp .eq 19, 3) := by decide +kernel
theorem d213_68 : fet 213 68 = .ok (.iload_n 2, 1) := by decide +kernel
theorem d213_69 : fet 213 69 = .ok (.ldc 53, 2) := by decide +kernel
theorem d213_71 : fet 213 71 = .ok (.if_icmp .eq 9, 3) := by decide +kernel
theorem d213_74 : fet 213 74 = .ok (.iload 5, 2) := by decide +kernel
theorem d213_76 : fet 213 76 = .ok (.iload_n 3, 1) := by decide +kernel
theorem d213_77 : fet 213 77 = .ok (.if_icmp .ge 7, 3) := by decide +kernel
theorem d213_80 : fet 213 80 = .ok (.iconst 1, 1) := by decide +kernel
theorem d213_81 : fet 213 81 = .ok (.goto 4, 3) := by decide +kernel
theorem d213_84 : fet 213 84 = .ok (.iconst 0, 1) := by decide +kernel
theorem d213_85 : fet 213 85 = .ok (.istore 6, 2) := by decide +kernel
theorem d213_87 : fet 213 87 = .ok (.iload 6, 2) := by decide +kernel
theorem d213_89 : fet 213 89 = .ok (.ifCond .eq 8, 3) := by decide +kernel
theorem d213_92 : fet 213 92 = .ok (.iload 4, 2) := by decide +kernel
theorem d213_94 : fet 213 94 = .ok (.goto 4, 3) := by decide +kernel
theorem d213_97 : fet 213 97 = .ok (.iload_n 2, 1) := by decide +kernel
theorem d213_98 : fet 213 98 = .ok (.istore_n 2, 1) := by decide +kernel
theorem d213_99 : fet 213 99 = .ok (.iload 6, 2) := by decide +kernel
theorem d213_101 : fet 213 101 = .ok (.ifCond .eq 8, 3) := by decide +kernel
theorem d213_104 : fet 213 104 = .ok (.iload 5, 2) := by decide +kernel
theorem d213_106 : fet 213 106 = .ok (.goto 4, 3) := by decide +kernel
theorem d213_109 : fet 213 109 = .ok (.iload_n 3, 1) := by decide +kernel
theorem d213_110 : fet 213 110 = .ok (.istore_n 3, 1) := by decide +kernel
theorem d213_111 : fet 213 111 = .ok (.iinc 4 1, 3) := by decide +kernel
theorem d213_114 : fet 213 114 = .ok (.goto (-84), 3) := by decide +kernel
theorem d213_117 : fet 213 117 = .ok (.iload_n 2, 1) := by decide +kernel
theorem d213_118 : fet 213 118 = .ok (.ireturn, 1) := by decide +kernel
theorem o214 : own 214 = RX12 := by decide +kernel
theorem d214_0 : fet 214 0 = .ok (.aload_n 0, 1) := by decide +kernel
theorem d214_1 : fet 214 1 = .ok (.iload_n 1, 1) := by decide +kernel
theorem d214_2 : fet 214 2 = .ok (.invokevirtual 194, 3) := by decide +kernel
theorem d214_5 : fet 214 5 = .ok (.ifCond .eq 13, 3) := by decide +kernel
theorem d214_8 : fet 214 8 = .ok (.iload_n 2, 1) := by decide +kernel
theorem d214_9 : fet 214 9 = .ok (.iconst 0, 1) := by decide +kernel
theorem d214_10 : fet 214 10 = .ok (.bipush 60, 2) := by decide +kernel
theorem d214_12 : fet 214 12 = .ok (.invokestatic 59, 3) := by decide +kernel
theorem d214_15 : fet 214 15 = .ok (.ifCond .ne 6, 3) := by decide +kernel
theorem d214_18 : fet 214 18 = .ok (.ldc 67, 2) := by decide +kernel
theorem d214_20 : fet 214 20 = .ok (.ireturn, 1) := by decide +kernel
theorem d214_21 : fet 214 21 = .ok (.aload_n 0, 1) := by decide +kernel
theorem d214_22 : fet 214 22 = .ok (.iload_n 1, 1) := by decide +kernel
theorem d214_23 : fet 214 23 = .ok (.invokevirtual 178, 3) := by decide +kernel
theorem d214_26 : fet 214 26 = .ok (.ifCond .eq 6, 3) := by decide +kernel
theorem d214_29 : fet 214 29 = .ok (.ldc 187, 2) := by decide +kernel
theorem d214_31 : fet 214 31 = .ok (.ireturn, 1) := by decide +kernel
theorem d214_32 : fet 214 32 = .ok (.iconst 0, 1) := by decide +kernel
theorem d214_33 : fet 214 33 = .ok (.istore_n 3, 1) := by decide +kernel
theorem d214_34 : fet 214 34 = .ok (.iconst 0, 1) := by decide +kernel
theorem d214_35 : fet 214 35 = .ok (.istore 4, 2) := by decide +kernel
theorem d214_37 : fet 214 37 = .ok (.iload 4, 2) := by decide +kernel
theorem d214_39 : fet 214 39 = .ok (.bipush 12, 2) := by decide +kernel
theorem d214_41 : fet 214 41 = .ok (.if_icmp .ge 57, 3) := by decide +kernel
theorem d214_44 : fet 214 44 = .ok (.aload_n 0, 1) := by decide +kernel
theorem d214_45 : fet 214 45 = .ok (.iload_n 1, 1) := by decide +kernel
theorem d214_46 : fet 214 46 = .ok (.iload 4, 2) := by decide +kernel
theorem d214_48 : fet 214 48 = .ok (.invokevirtual 197, 3) := by decide +kernel
theorem d214_51 : fet 214 51 = .ok (.ifCond .eq 8, 3) := by decide +kernel
theorem d214_54 : fet 214 54 = .ok (.ldc 53, 2) := by decide +kernel
theorem d214_56 : fet 214 56 = .ok (.goto 10, 3) := by decide +kernel
theorem d214_59 : fet 214 59 = .ok (.aload_n 0, 1) := by decide +kernel
theorem d214_60 : fet 214 60 = .ok (.iload_n 1, 1) := by decide +kernel
theorem d214_61 : fet 214 61 = .ok (.iload 4, 2) := by decide +kernel
theorem d214_63 : fet 214 63 = .ok (.invokevirtual 229, 3) := by decide +kernel
theorem d214_66 : fet 214 66 = .ok (.istore 5, 2) := by decide +kernel
theorem d214_68 : fet 214 68 = .ok (.iload_n 3, 1) := by decide +kernel
theorem d214_69 : fet 214 69 = .ok (.iload 5, 2) := by decide +kernel
theorem d214_71 : fet 214 71 = .ok (.ldc 53, 2) := by decide +kernel
theorem d214_73 : fet 214 73 = .ok (.if_icmp .eq 16, 3) := by decide +kernel
theorem d214_76 : fet 214 76 = .ok (.iload 5, 2) := by decide +kernel
theorem d214_78 : fet 214 78 = .ok (.iload_n 2, 1) := by decide +kernel
theorem d214_79 : fet 214 79 = .ok (.if_icmp .gt 10, 3) := by decide +kernel
theorem d214_82 : fet 214 82 = .ok (.iconst 1, 1) := by decide +kernel
theorem d214_83 : fet 214 83 = .ok (.iload 4, 2) := by decide +kernel
theorem d214_85 : fet 214 85 = .ok (.ishl, 1) := by decide +kernel
theorem d214_86 : fet 214 86 = .ok (.goto 4, 3) := by decide +kernel
theorem d214_89 : fet 214 89 = .ok (.iconst 0, 1) := by decide +kernel
theorem d214_90 : fet 214 90 = .ok (.ior, 1) := by decide +kernel
theorem d214_91 : fet 214 91 = .ok (.istore_n 3, 1) := by decide +kernel
theorem d214_92 : fet 214 92 = .ok (.iinc 4 1, 3) := by decide +kernel
theorem d214_95 : fet 214 95 = .ok (.goto (-58), 3) := by decide +kernel
theorem d214_98 : fet 214 98 = .ok (.iload_n 3, 1) := by decide +kernel
theorem d214_99 : fet 214 99 = .ok (.ireturn, 1) := by decide +kernel
theorem o215 : own 215 = RX12 := by decide +kernel
theorem d215_0 : fet 215 0 = .ok (.iconst 0, 1) := by decide +kernel
theorem d215_1 : fet 215 1 = .ok (.istore_n 1, 1) := by decide +kernel
theorem d215_2 : fet 215 2 = .ok (.iload_n 0, 1) := by decide +kernel
theorem d215_3 : fet 215 3 = .ok (.istore_n 2, 1) := by decide +kernel
theorem d215_4 : fet 215 4 = .ok (.iload_n 2, 1) := by decide +kernel
theorem d215_5 : fet 215 5 = .ok (.ifCond .le 15, 3) := by decide +kernel
theorem d215_8 : fet 215 8 = .ok (.iinc 1 1, 3) := by decide +kernel
theorem d215_11 : fet 215 11 = .ok (.iload_n 2, 1) := by decide +kernel
theorem d215_12 : fet 215 12 = .ok (.iload_n 2, 1) := by decide +kernel
theorem d215_13 : fet 215 13 = .ok (.iconst 1, 1) := by decide +kernel
theorem d215_14 : fet 215 14 = .ok (.isub, 1) := by decide +kernel
theorem d215_15 : fet 215 15 = .ok (.iand, 1) := by decide +kernel
theorem d215_16 : fet 215 16 = .ok (.istore_n 2, 1) := by decide +kernel
theorem d215_17 : fet 215 17 = .ok (.goto (-13), 3) := by decide +kernel
theorem d215_20 : fet 215 20 = .ok (.iload_n 1, 1) := by decide +kernel
theorem d215_21 : fet 215 21 = .ok (.ireturn, 1) := by decide +kernel
theorem o216 : own 216 = RX12 := by decide +kernel
theorem d216_0 : fet 216 0 = .ok (.aload_n 0, 1) := by decide +kernel
theorem d216_1 : fet 216 1 = .ok (.invokevirtual 217, 3) := by decide +kernel
theorem d216_4 : fet 216 4 = .ok (.iconst 0, 1) := by decide +kernel
theorem d216_5 : fet 216 5 = .ok (.istore 4, 2) := by decide +kernel
theorem d216_7 : fet 216 7 = .ok (.iload 4, 2) := by decide +kernel
theorem d216_9 : fet 216 9 = .ok (.iload_n 2, 1) := by decide +kernel
theorem d216_10 : fet 216 10 = .ok (.if_icmp .ge 31, 3) := by decide +kernel
theorem d216_13 : fet 216 13 = .ok (.aload_n 0, 1) := by decide +kernel
theorem d216_14 : fet 216 14 = .ok (.getfield 7, 3) := by decide +kernel
theorem d216_17 : fet 216 17 = .ok (.bipush 69, 2) := by decide +kernel
theorem d216_19 : fet 216 19 = .ok (.iload_n 1, 1) := by decide +kernel
theorem d216_20 : fet 216 20 = .ok (.iadd, 1) := by decide +kernel
theorem d216_21 : fet 216 21 = .ok (.dup2, 1) := by decide +kernel
theorem d216_22 : fet 216 22 = .ok (.iaload, 1) := by decide +kernel
theorem d216_23 : fet 216 23 = .ok (.iload_n 3, 1) := by decide +kernel
theorem d216_24 : fet 216 24 = .ok (.iload 4, 2) := by decide +kernel
theorem d216_26 : fet 216 26 = .ok (.ishr, 1) := by decide +kernel
theorem d216_27 : fet 216 27 = .ok (.iconst 1, 1) := by decide +kernel
theorem d216_28 : fet 216 28 = .ok (.iand, 1) := by decide +kernel
theorem d216_29 : fet 216 29 = .ok (.ixor, 1) := by decide +kernel
theorem d216_30 : fet 216 30 = .ok (.iastore, 1) := by decide +kernel
theorem d216_31 : fet 216 31 = .ok (.aload_n 0, 1) := by decide +kernel
theorem d216_32 : fet 216 32 = .ok (.invokevirtual 191, 3) := by decide +kernel
theorem d216_35 : fet 216 35 = .ok (.iinc 4 1, 3) := by decide +kernel
theorem d216_38 : fet 216 38 = .ok (.goto (-31), 3) := by decide +kernel
theorem d216_41 : fet 216 41 = .ok (.aload_n 0, 1) := by decide +kernel
theorem d216_42 : fet 216 42 = .ok (.iload_n 1, 1) := by decide +kernel
theorem d216_43 : fet 216 43 = .ok (.invokevirtual 210, 3) := by decide +kernel
theorem d216_46 : fet 216 46 = .ok (.istore 4, 2) := by decide +kernel
theorem d216_48 : fet 216 48 = .ok (.aload_n 0, 1) := by decide +kernel
theorem d216_49 : fet 216 49 = .ok (.invokevirtual 226, 3) := by decide +kernel
theorem d216_52 : fet 216 52 = .ok (.iload 4, 2) := by decide +kernel
theorem d216_54 : fet 216 54 = .ok (.ireturn, 1) := by decide +kernel
theorem o217 : own 217 = RX12 := by decide +kernel
theorem d217_0 : fet 217 0 = .ok (.aload_n 0, 1) := by decide +kernel
theorem d217_1 : fet 217 1 = .ok (.iload_n 1, 1) := by decide +kernel
theorem d217_2 : fet 217 2 = .ok (.invokevirtual 194, 3) := by decide +kernel
theorem d217_5 : fet 217 5 = .ok (.ifCond .eq 22, 3) := by decide +kernel
theorem d217_8 : fet 217 8 = .ok (.iload_n 2, 1) := by decide +kernel
theorem d217_9 : fet 217 9 = .ok (.iconst 1, 1) := by decide +kernel
theorem d217_10 : fet 217 10 = .ok (.bipush 12, 2) := by decide +kernel
theorem d217_12 : fet 217 12 = .ok (.invokestatic 59, 3) := by decide +kernel
theorem d217_15 : fet 217 15 = .ok (.ifCond .eq 12, 3) := by decide +kernel
theorem d217_18 : fet 217 18 = .ok (.iload_n 3, 1) := by decide +kernel
theorem d217_19 : fet 217 19 = .ok (.iconst 0, 1) := by decide +kernel
theorem d217_20 : fet 217 20 = .ok (.iconst 1, 1) := by decide +kernel
theorem d217_21 : fet 217 21 = .ok (.invokestatic 59, 3) := by decide +kernel
theorem d217_24 : fet 217 24 = .ok (.ifCond .ne 6, 3) := by decide +kernel
theorem d217_27 : fet 217 27 = .ok (.ldc 67, 2) := by decide +kernel
theorem d217_29 : fet 217 29 = .ok (.ireturn, 1) := by decide +kernel
theorem d217_30 : fet 217 30 = .ok (.aload_n 0, 1) := by decide +kernel
theorem d217_31 : fet 217 31 = .ok (.iload_n 1, 1) := by decide +kernel
theorem d217_32 : fet 217 32 = .ok (.invokevirtual 163, 3) := by decide +kernel
theorem d217_35 : fet 217 35 = .ok (.ifCond .ne 6, 3) := by decide +kernel
theorem d217_38 : fet 217 38 = .ok (.ldc 187, 2) := by decide +kernel
theorem d217_40 : fet 217 40 = .ok (.ireturn, 1) := by decide +kernel
theorem d217_41 : fet 217 41 = .ok (.ldc 53, 2) := by decide +kernel
theorem d217_43 : fet 217 43 = .ok (.istore 4, 2) := by decide +kernel
theorem d217_45 : fet 217 45 = .ok (.iconst 0, 1) := by decide +kernel
theorem d217_46 : fet 217 46 = .ok (.istore 5, 2) := by decide +kernel
theorem d217_48 : fet 217 48 = .ok (.iload 5, 2) := by decide +kernel
theorem d217_50 : fet 217 50 = .ok (.iconst 1, 1) := by decide +kernel
theorem d217_51 : fet 217 51 = .ok (.iload_n 2, 1) := by decide +kernel
theorem d217_52 : fet 217 52 = .ok (.ishl, 1) := by decide +kernel
theorem d217_53 : fet 217 53 = .ok (.if_icmp .ge 61, 3) := by decide +kernel
theorem d217_56 : fet 217 56 = .ok (.iload 4, 2) := by decide +kernel
theorem d217_58 : fet 217 58 = .ok (.ldc 53, 2) := by decide +kernel
theorem d217_60 : fet 217 60 = .ok (.if_icmp .eq 16, 3) := by decide +kernel
theorem d217_63 : fet 217 63 = .ok (.iload 5, 2) := by decide +kernel
theorem d217_65 : fet 217 65 = .ok (.invokestatic 232, 3) := by decide +kernel
theorem d217_68 : fet 217 68 = .ok (.iload 4, 2) := by decide +kernel
theorem d217_70 : fet 217 70 = .ok (.invokestatic 232, 3) := by decide +kernel
theorem d217_73 : fet 217 73 = .ok (.if_icmp .ge 7, 3) := by decide +kernel
theorem d217_76 : fet 217 76 = .ok (.iconst 1, 1) := by decide +kernel
theorem d217_77 : fet 217 77 = .ok (.goto 4, 3) := by decide +kernel
theorem d217_80 : fet 217 80 = .ok (.iconst 0, 1) := by decide +kernel
theorem d217_81 : fet 217 81 = .ok (.istore 6, 2) := by decide +kernel
theorem d217_83 : fet 217 83 = .ok (.iload 6, 2) := by decide +kernel
theorem d217_85 : fet 217 85 = .ok (.ifCond .eq 19, 3) := by decide +kernel
theorem d217_88 : fet 217 88 = .ok (.aload_n 0, 1) := by decide +kernel
theorem d217_89 : fet 217 89 = .ok (.iload_n 1, 1) := by decide +kernel
theorem d217_90 : fet 217 90 = .ok (.iload_n 2, 1) := by decide +kernel
theorem d217_91 : fet 217 91 = .ok (.iload 5, 2) := by decide +kernel
theorem d217_93 : fet 217 93 = .ok (.invokevirtual 235, 3) := by decide +kernel
theorem d217_96 : fet 217 96 = .ok (.ifCond .eq 8, 3) := by decide +kernel
theorem d217_99 : fet 217 99 = .ok (.iload 5, 2) := by decide +kernel
theorem d217_101 : fet 217 101 = .ok (.goto 5, 3) := by decide +kernel
theorem d217_104 : fet 217 104 = .ok (.iload 4, 2) := by decide +kernel
theorem d217_106 : fet 217 106 = .ok (.istore 4, 2) := by decide +kernel
theorem d217_108 : fet 217 108 = .ok (.iinc 5 1, 3) := by decide +kernel
theorem d217_111 : fet 217 111 = .ok (.goto (-63), 3) := by decide +kernel
theorem d217_114 : fet 217 114 = .ok (.iload 4, 2) := by decide +kernel
theorem d217_116 : fet 217 116 = .ok (.ldc 53, 2) := by decide +kernel
theorem d217_118 : fet 217 118 = .ok (.if_icmp .eq 8, 3) := by decide +kernel
theorem d217_121 : fet 217 121 = .ok (.iload_n 3, 1) := by decide +kernel
theorem d217_122 : fet 217 122 = .ok (.iconst 1, 1) := by decide +kernel
theorem d217_123 : fet 217 123 = .ok (.if_icmp .ne 8, 3) := by decide +kernel
theorem d217_126 : fet 217 126 = .ok (.iload 4, 2) := by decide +kernel
theorem d217_128 : fet 217 128 = .ok (.goto 8, 3) := by decide +kernel
theorem d217_131 : fet 217 131 = .ok (.iload 4, 2) := by decide +kernel
theorem d217_133 : fet 217 133 = .ok (.invokestatic 232, 3) := by decide +kernel
theorem d217_136 : fet 217 136 = .ok (.ireturn, 1) := by decide +kernel
theorem o218 : own 218 = RX12 := by decide +kernel
theorem d218_0 : fet 218 0 = .ok (.aload_n 0, 1) := by decide +kernel
theorem d218_1 : fet 218 1 = .ok (.iload_n 1, 1) := by decide +kernel
theorem d218_2 : fet 218 2 = .ok (.invokevirtual 194, 3) := by decide +kernel
theorem d218_5 : fet 218 5 = .ok (.ifCond .eq 23, 3) := by decide +kernel
theorem d218_8 : fet 218 8 = .ok (.iload_n 2, 1) := by decide +kernel
theorem d218_9 : fet 218 9 = .ok (.iconst 0, 1) := by decide +kernel
theorem d218_10 : fet 218 10 = .ok (.bipush 11, 2) := by decide +kernel
theorem d218_12 : fet 218 12 = .ok (.invokestatic 59, 3) := by decide +kernel
theorem d218_15 : fet 218 15 = .ok (.ifCond .eq 13, 3) := by decide +kernel
theorem d218_18 : fet 218 18 = .ok (.iload_n 3, 1) := by decide +kernel
theorem d218_19 : fet 218 19 = .ok (.iconst 1, 1) := by decide +kernel
theorem d218_20 : fet 218 20 = .ok (.bipush 60, 2) := by decide +kernel
theorem d218_22 : fet 218 22 = .ok (.invokestatic 59, 3) := by decide +kernel
theorem d218_25 : fet 218 25 = .ok (.ifCond .ne 6, 3) := by decide +kernel
theorem d218_28 : fet 218 28 = .ok (.ldc 67, 2) := by decide +kernel
theorem d218_30 : fet 218 30 = .ok (.ireturn, 1) := by decide +kernel
theorem d218_31 : fet 218 31 = .ok (.aload_n 0, 1) := by decide +kernel
theorem d218_32 : fet 218 32 = .ok (.iload_n 1, 1) := by decide +kernel
theorem d218_33 : fet 218 33 = .ok (.invokevirtual 178, 3) := by decide +kernel
theorem d218_36 : fet 218 36 = .ok (.ifCond .ne 12, 3) := by decide +kernel
theorem d218_39 : fet 218 39 = .ok (.aload_n 0, 1) := by decide +kernel
theorem d218_40 : fet 218 40 = .ok (.iload_n 1, 1) := by decide +kernel
theorem d218_41 : fet 218 41 = .ok (.iload_n 2, 1) := by decide +kernel
theorem d218_42 : fet 218 42 = .ok (.invokevirtual 197, 3) := by decide +kernel
theorem d218_45 : fet 218 45 = .ok (.ifCond .eq 6, 3) := by decide +kernel
theorem d218_48 : fet 218 48 = .ok (.ldc 187, 2) := by decide +kernel
theorem d218_50 : fet 218 50 = .ok (.ireturn, 1) := by decide +kernel
theorem d218_51 : fet 218 51 = .ok (.ldc 53, 2) := by decide +kernel
theorem d218_53 : fet 218 53 = .ok (.istore 4, 2) := by decide +kernel
theorem d218_55 : fet 218 55 = .ok (.iload_n 3, 1) := by decide +kernel
theorem d218_56 : fet 218 56 = .ok (.istore 5, 2) := by decide +kernel
theorem d218_58 : fet 218 58 = .ok (.iload 5, 2) := by decide +kernel
theorem d218_60 : fet 218 60 = .ok (.ifCond .lt 76, 3) := by decide +kernel
theorem d218_63 : fet 218 63 = .ok (.iload 4, 2) := by decide +kernel
theorem d218_65 : fet 218 65 = .ok (.ldc 53, 2) := by decide +kernel
theorem d218_67 : fet 218 67 = .ok (.if_icmp .ne 69, 3) := by decide +kernel
theorem d218_70 : fet 218 70 = .ok (.aload_n 0, 1) := by decide +kernel
theorem d218_71 : fet 218 71 = .ok (.invokevirtual 217, 3) := by decide +kernel
theorem d218_74 : fet 218 74 = .ok (.aload_n 0, 1) := by decide +kernel
theorem d218_75 : fet 218 75 = .ok (.getfield 7, 3) := by decide +kernel
theorem d218_78 : fet 218 78 = .ok (.bipush 45, 2) := by decide +kernel
theorem d218_80 : fet 218 80 = .ok (.iload_n 1, 1) := by decide +kernel
theorem d218_81 : fet 218 81 = .ok (.iadd, 1) := by decide +kernel
theorem d218_82 : fet 218 82 = .ok (.bipush 12, 2) := by decide +kernel
theorem d218_84 : fet 218 84 = .ok (.iastore, 1) := by decide +kernel
theorem d218_85 : fet 218 85 = .ok (.aload_n 0, 1) := by decide +kernel
theorem d218_86 : fet 218 86 = .ok (.iload 5, 2) := by decide +kernel
theorem d218_88 : fet 218 88 = .ok (.invokevirtual 220, 3) := by decide +kernel
theorem d218_91 : fet 218 91 = .ok (.aload_n 0, 1) := by decide +kernel
theorem d218_92 : fet 218 92 = .ok (.getfield 7, 3) := by decide +kernel
theorem d218_95 : fet 218 95 = .ok (.bipush 45, 2) := by decide +kernel
theorem d218_97 : fet 218 97 = .ok (.iload_n 1, 1) := by decide +kernel
theorem d218_98 : fet 218 98 = .ok (.iadd, 1) := by decide +kernel
theorem d218_99 : fet 218 99 = .ok (.iload_n 2, 1) := by decide +kernel
theorem d218_100 : fet 218 100 = .ok (.iastore, 1) := by decide +kernel
theorem d218_101 : fet 218 101 = .ok (.aload_n 0, 1) := by decide +kernel
theorem d218_102 : fet 218 102 = .ok (.iload_n 3, 1) := by decide +kernel
theorem d218_103 : fet 218 103 = .ok (.iload 5, 2) := by decide +kernel
theorem d218_105 : fet 218 105 = .ok (.isub, 1) := by decide +kernel
theorem d218_106 : fet 218 106 = .ok (.invokevirtual 220, 3) := by decide +kernel
theorem d218_109 : fet 218 109 = .ok (.aload_n 0, 1) := by decide +kernel
theorem d218_110 : fet 218 110 = .ok (.iload_n 1, 1) := by decide +kernel
theorem d218_111 : fet 218 111 = .ok (.invokevirtual 210, 3) := by decide +kernel
theorem d218_114 : fet 218 114 = .ok (.ifCond .eq 8, 3) := by decide +kernel
theorem d218_117 : fet 218 117 = .ok (.iload 5, 2) := by decide +kernel
theorem d218_119 : fet 218 119 = .ok (.goto 5, 3) := by decide +kernel
theorem d218_122 : fet 218 122 = .ok (.ldc 53, 2) := by decide +kernel
theorem d218_124 : fet 218 124 = .ok (.istore 4, 2) := by decide +kernel
theorem d218_126 : fet 218 126 = .ok (.aload_n 0, 1) := by decide +kernel
theorem d218_127 : fet 218 127 = .ok (.invokevirtual 226, 3) := by decide +kernel
theorem d218_130 : fet 218 130 = .ok (.iinc 5 (-1), 3) := by decide +kernel
theorem d218_133 : fet 218 133 = .ok (.goto (-75), 3) := by decide +kernel
theorem d218_136 : fet 218 136 = .ok (.iload 4, 2) := by decide +kernel
theorem d218_138 : fet 218 138 = .ok (.ireturn, 1) := by decide +kernel
theorem o219 : own 219 = RX12 := by decide +kernel
theorem d219_0 : fet 219 0 = .ok (.aload_n 0, 1) := by decide +kernel
theorem d219_1 : fet 219 1 = .ok (.iload_n 1, 1) := by decide +kernel
theorem d219_2 : fet 219 2 = .ok (.invokevirtual 194, 3) := by decide +kernel
theorem d219_5 : fet 219 5 = .ok (.ifCond .eq 13, 3) := by decide +kernel
theorem d219_8 : fet 219 8 = .ok (.iload_n 2, 1) := by decide +kernel
theorem d219_9 : fet 219 9 = .ok (.iconst 1, 1) := by decide +kernel
theorem d219_10 : fet 219 10 = .ok (.bipush 60, 2) := by decide +kernel
theorem d219_12 : fet 219 12 = .ok (.invokestatic 59, 3) := by decide +kernel
theorem d219_15 : fet 219 15 = .ok (.ifCond .ne 6, 3) := by decide +kernel
theorem d219_18 : fet 219 18 = .ok (.ldc 67, 2) := by decide +kernel
theorem d219_20 : fet 219 20 = .ok (.ireturn, 1) := by decide +kernel
theorem d219_21 : fet 219 21 = .ok (.aload_n 0, 1) := by decide +kernel
theorem d219_22 : fet 219 22 = .ok (.iload_n 1, 1) := by decide +kernel
theorem d219_23 : fet 219 23 = .ok (.invokevirtual 163, 3) := by decide +kernel
theorem d219_26 : fet 219 26 = .ok (.ifCond .ne 6, 3) := by decide +kernel
theorem d219_29 : fet 219 29 = .ok (.ldc 187, 2) := by decide +kernel
theorem d219_31 : fet 219 31 = .ok (.ireturn, 1) := by decide +kernel
theorem d219_32 : fet 219 32 = .ok (.aload_n 0, 1) := by decide +kernel
theorem d219_33 : fet 219 33 = .ok (.getfield 7, 3) := by decide +kernel
theorem d219_36 : fet 219 36 = .ok (.bipush 20, 2) := by decide +kernel
theorem d219_38 : fet 219 38 = .ok (.iaload, 1) := by decide +kernel
theorem d219_39 : fet 219 39 = .ok (.bipush 8, 2) := by decide +kernel
theorem d219_41 : fet 219 41 = .ok (.if_icmp .ne 6, 3) := by decide +kernel
theorem d219_44 : fet 219 44 = .ok (.ldc 81, 2) := by decide +kernel
theorem d219_46 : fet 219 46 = .ok (.ireturn, 1) := by decide +kernel
theorem d219_47 : fet 219 47 = .ok (.ldc 53, 2) := by decide +kernel
theorem d219_49 : fet 219 49 = .ok (.istore_n 3, 1) := by decide +kernel
theorem d219_50 : fet 219 50 = .ok (.iconst 0, 1) := by decide +kernel
theorem d219_51 : fet 219 51 = .ok (.istore 4, 2) := by decide +kernel
theorem d219_53 : fet 219 53 = .ok (.iload 4, 2) := by decide +kernel
theorem d219_55 : fet 219 55 = .ok (.bipush 30, 2) := by decide +kernel
theorem d219_57 : fet 219 57 = .ok (.if_icmp .gt 64, 3) := by decide +kernel
theorem d219_60 : fet 219 60 = .ok (.iload_n 3, 1) := by decide +kernel
theorem d219_61 : fet 219 61 = .ok (.ldc 53, 2) := by decide +kernel
theorem d219_63 : fet 219 63 = .ok (.if_icmp .ne 58, 3) := by decide +kernel
theorem d219_66 : fet 219 66 = .ok (.aload_n 0, 1) := by decide +kernel
theorem d219_67 : fet 219 67 = .ok (.invokevirtual 217, 3) := by decide +kernel
theorem d219_70 : fet 219 70 = .ok (.iload 4, 2) := by decide +kernel
theorem d219_72 : fet 219 72 = .ok (.ifCond .le 18, 3) := by decide +kernel
theorem d219_75 : fet 219 75 = .ok (.aload_n 0, 1) := by decide +kernel
theorem d219_76 : fet 219 76 = .ok (.aload_n 0, 1) := by decide +kernel
theorem d219_77 : fet 219 77 = .ok (.getfield 7, 3) := by decide +kernel
theorem d219_80 : fet 219 80 = .ok (.bipush 45, 2) := by decide +kernel
theorem d219_82 : fet 219 82 = .ok (.iload_n 1, 1) := by decide +kernel
theorem d219_83 : fet 219 83 = .ok (.iadd, 1) := by decide +kernel
theorem d219_84 : fet 219 84 = .ok (.iaload, 1) := by decide +kernel
theorem d219_85 : fet 219 85 = .ok (.iload 4, 2) := by decide +kernel
theorem d219_87 : fet 219 87 = .ok (.invokevirtual 200, 3) := by decide +kernel
theorem d219_90 : fet 219 90 = .ok (.aload_n 0, 1) := by decide +kernel
theorem d219_91 : fet 219 91 = .ok (.iload_n 2, 1) := by decide +kernel
theorem d219_92 : fet 219 92 = .ok (.invokevirtual 220, 3) := by decide +kernel
theorem d219_95 : fet 219 95 = .ok (.aload_n 0, 1) := by decide +kernel
theorem d219_96 : fet 219 96 = .ok (.iload_n 1, 1) := by decide +kernel
theorem d219_97 : fet 219 97 = .ok (.invokevirtual 210, 3) := by decide +kernel
theorem d219_100 : fet 219 100 = .ok (.ifCond .eq 8, 3) := by decide +kernel
theorem d219_103 : fet 219 103 = .ok (.iload 4, 2) := by decide +kernel
theorem d219_105 : fet 219 105 = .ok (.goto 5, 3) := by decide +kernel
theorem d219_108 : fet 219 108 = .ok (.ldc 53, 2) := by decide +kernel
theorem d219_110 : fet 219 110 = .ok (.istore_n 3, 1) := by decide +kernel
theorem d219_111 : fet 219 111 = .ok (.aload_n 0, 1) := by decide +kernel
theorem d219_112 : fet 219 112 = .ok (.invokevirtual 226, 3) := by decide +kernel
theorem d219_115 : fet 219 115 = .ok (.iinc 4 1, 3) := by decide +kernel
theorem d219_118 : fet 219 118 = .ok (.goto (-65), 3) := by decide +kernel
theorem d219_121 : fet 219 121 = .ok (.iload_n 3, 1) := by decide +kernel
theorem d219_122 : fet 219 122 = .ok (.ireturn, 1) := by decide +kernel
theorem o220 : own 220 = RX12 := by decide +kernel
theorem d220_0 : fet 220 0 = .ok (.aload_n 0, 1) := by decide +kernel
theorem d220_1 : fet 220 1 = .ok (.getfield 7, 3) := by decide +kernel
theorem d220_4 : fet 220 4 = .ok (.bipush 81, 2) := by decide +kernel
theorem d220_6 : fet 220 6 = .ok (.iload_n 1, 1) := by decide +kernel
theorem d220_7 : fet 220 7 = .ok (.iadd, 1) := by decide +kernel
theorem d220_8 : fet 220 8 = .ok (.iaload, 1) := by decide +kernel
theorem d220_9 : fet 220 9 = .ok (.ldc 53, 2) := by decide +kernel
theorem d220_11 : fet 220 11 = .ok (.if_icmp .ne 49, 3) := by decide +kernel
theorem d220_14 : fet 220 14 = .ok (.aload_n 0, 1) := by decide +kernel
theorem d220_15 : fet 220 15 = .ok (.getfield 7, 3) := by decide +kernel
theorem d220_18 : fet 220 18 = .ok (.bipush 15, 2) := by decide +kernel
theorem d220_20 : fet 220 20 = .ok (.iload_n 1, 1) := by decide +kernel
theorem d220_21 : fet 220 21 = .ok (.iadd, 1) := by decide +kernel
theorem d220_22 : fet 220 22 = .ok (.iaload, 1) := by decide +kernel
theorem d220_23 : fet 220 23 = .ok (.iload_n 3, 1) := by decide +kernel
theorem d220_24 : fet 220 24 = .ok (.if_icmp .gt 36, 3) := by decide +kernel
theorem d220_27 : fet 220 27 = .ok (.aload_n 0, 1) := by decide +kernel
theorem d220_28 : fet 220 28 = .ok (.getfield 44, 3) := by decide +kernel
theorem d220_31 : fet 220 31 = .ok (.iload_n 2, 1) := by decide +kernel
theorem d220_32 : fet 220 32 = .ok (.baload, 1) := by decide +kernel
theorem d220_33 : fet 220 33 = .ok (.ifCond .eq 27, 3) := by decide +kernel
theorem d220_36 : fet 220 36 = .ok (.aload_n 0, 1) := by decide +kernel
theorem d220_37 : fet 220 37 = .ok (.getfield 7, 3) := by decide +kernel
theorem d220_40 : fet 220 40 = .ok (.bipush 11, 2) := by decide +kernel
theorem d220_42 : fet 220 42 = .ok (.iload_n 1, 1) := by decide +kernel
theorem d220_43 : fet 220 43 = .ok (.iadd, 1) := by decide +kernel
theorem d220_44 : fet 220 44 = .ok (.iaload, 1) := by decide +kernel
theorem d220_45 : fet 220 45 = .ok (.aload_n 0, 1) := by decide +kernel
theorem d220_46 : fet 220 46 = .ok (.getfield 7, 3) := by decide +kernel
theorem d220_49 : fet 220 49 = .ok (.iconst 5, 1) := by decide +kernel
theorem d220_50 : fet 220 50 = .ok (.iload_n 2, 1) := by decide +kernel
theorem d220_51 : fet 220 51 = .ok (.iadd, 1) := by decide +kernel
theorem d220_52 : fet 220 52 = .ok (.iaload, 1) := by decide +kernel
theorem d220_53 : fet 220 53 = .ok (.if_icmp .ne 7, 3) := by decide +kernel
theorem d220_56 : fet 220 56 = .ok (.iconst 1, 1) := by decide +kernel
theorem d220_57 : fet 220 57 = .ok (.goto 4, 3) := by decide +kernel
theorem d220_60 : fet 220 60 = .ok (.iconst 0, 1) := by decide +kernel
theorem d220_61 : fet 220 61 = .ok (.ireturn, 1) := by decide +kernel
theorem o221 : own 221 = RX12 := by decide +kernel
theorem d221_0 : fet 221 0 = .ok (.iconst 0, 1) := by decide +kernel
theorem d221_1 : fet 221 1 = .ok (.istore 4, 2) := by decide +kernel
theorem d221_3 : fet 221 3 = .ok (.iconst 1, 1) := by decide +kernel
theorem d221_4 : fet 221 4 = .ok (.istore 5, 2) := by decide +kernel
theorem d221_6 : fet 221 6 = .ok (.iload 5, 2) := by decide +kernel
theorem d221_8 : fet 221 8 = .ok (.iconst 5, 1) := by decide +kernel
theorem d221_9 : fet 221 9 = .ok (.if_icmp .gt 171, 3) := by decide +kernel
theorem d221_12 : fet 221 12 = .ok (.iconst 0, 1) := by decide +kernel
theorem d221_13 : fet 221 13 = .ok (.istore 6, 2) := by decide +kernel
theorem d221_15 : fet 221 15 = .ok (.iconst 0, 1) := by decide +kernel
theorem d221_16 : fet 221 16 = .ok (.istore 7, 2) := by decide +kernel
theorem d221_18 : fet 221 18 = .ok (.iload_n 1, 1) := by decide +kernel
theorem d221_19 : fet 221 19 = .ok (.istore 8, 2) := by decide +kernel
theorem d221_21 : fet 221 21 = .ok (.iload 8, 2) := by decide +kernel
theorem d221_23 : fet 221 23 = .ok (.aload_n 0, 1) := by decide +kernel
theorem d221_24 : fet 221 24 = .ok (.getfield 7, 3) := by decide +kernel
theorem d221_27 : fet 221 27 = .ok (.iconst 2, 1) := by decide +kernel
theorem d221_28 : fet 221 28 = .ok (.iaload, 1) := by decide +kernel
theorem d221_29 : fet 221 29 = .ok (.if_icmp .ge 63, 3) := by decide +kernel
theorem d221_32 : fet 221 32 = .ok (.iload 6, 2) := by decide +kernel
theorem d221_34 : fet 221 34 = .ok (.aload_n 0, 1) := by decide +kernel
theorem d221_35 : fet 221 35 = .ok (.getfield 7, 3) := by decide +kernel
theorem d221_38 : fet 221 38 = .ok (.bipush 81, 2) := by decide +kernel
theorem d221_40 : fet 221 40 = .ok (.iload 8, 2) := by decide +kernel
theorem d221_42 : fet 221 42 = .ok (.iadd, 1) := by decide +kernel
theorem d221_43 : fet 221 43 = .ok (.iaload, 1) := by decide +kernel
theorem d221_44 : fet 221 44 = .ok (.ldc 53, 2) := by decide +kernel
theorem d221_46 : fet 221 46 = .ok (.if_icmp .ne 36, 3) := by decide +kernel
theorem d221_49 : fet 221 49 = .ok (.aload_n 0, 1) := by decide +kernel
theorem d221_50 : fet 221 50 = .ok (.getfield 7, 3) := by decide +kernel
theorem d221_53 : fet 221 53 = .ok (.bipush 15, 2) := by decide +kernel
theorem d221_55 : fet 221 55 = .ok (.iload 8, 2) := by decide +kernel
theorem d221_57 : fet 221 57 = .ok (.iadd, 1) := by decide +kernel
theorem d221_58 : fet 221 58 = .ok (.iaload, 1) := by decide +kernel
theorem d221_59 : fet 221 59 = .ok (.iload_n 3, 1) := by decide +kernel
theorem d221_60 : fet 221 60 = .ok (.if_icmp .gt 22, 3) := by decide +kernel
theorem d221_63 : fet 221 63 = .ok (.aload_n 0, 1) := by decide +kernel
theorem d221_64 : fet 221 64 = .ok (.getfield 7, 3) := by decide +kernel
theorem d221_67 : fet 221 67 = .ok (.bipush 11, 2) := by decide +kernel
theorem d221_69 : fet 221 69 = .ok (.iload 8, 2) := by decide +kernel
theorem d221_71 : fet 221 71 = .ok (.iadd, 1) := by decide +kernel
theorem d221_72 : fet 221 72 = .ok (.iaload, 1) := by decide +kernel
theorem d221_73 : fet 221 73 = .ok (.iload 5, 2) := by decide +kernel
theorem d221_75 : fet 221 75 = .ok (.if_icmp .ne 7, 3) := by decide +kernel
theorem d221_78 : fet 221 78 = .ok (.iconst 1, 1) := by decide +kernel
theorem d221_79 : fet 221 79 = .ok (.goto 4, 3) := by decide +kernel
theorem d221_82 : fet 221 82 = .ok (.iconst 0, 1) := by decide +kernel
theorem d221_83 : fet 221 83 = .ok (.iadd, 1) := by decide +kernel
theorem d221_84 : fet 221 84 = .ok (.istore 6, 2) := by decide +kernel
theorem d221_86 : fet 221 86 = .ok (.iinc 8 1, 3) := by decide +kernel
theorem d221_89 : fet 221 89 = .ok (.goto (-68), 3) := by decide +kernel
theorem d221_92 : fet 221 92 = .ok (.iconst 0, 1) := by decide +kernel
theorem d221_93 : fet 221 93 = .ok (.istore 8, 2) := by decide +kernel
theorem d221_95 : fet 221 95 = .ok (.iload 8, 2) := by decide +kernel
theorem d221_97 : fet 221 97 = .ok (.aload_n 0, 1) := by decide +kernel
theorem d221_98 : fet 221 98 = .ok (.getfield 7, 3) := by decide +kernel
theorem d221_101 : fet 221 101 = .ok (.iconst 1, 1) := by decide +kernel
theorem d221_102 : fet 221 102 = .ok (.iaload, 1) := by decide +kernel
theorem d221_103 : fet 221 103 = .ok (.if_icmp .ge 52, 3) := by decide +kernel
theorem d221_106 : fet 221 106 = .ok (.iload 7, 2) := by decide +kernel
theorem d221_108 : fet 221 108 = .ok (.iload_n 2, 1) := by decide +kernel
theorem d221_109 : fet 221 109 = .ok (.iload 8, 2) := by decide +kernel
theorem d221_111 : fet 221 111 = .ok (.invokestatic 238, 3) := by decide +kernel
theorem d221_114 : fet 221 114 = .ok (.ifCond .eq 31, 3) := by decide +kernel
theorem d221_117 : fet 221 117 = .ok (.aload_n 0, 1) := by decide +kernel
theorem d221_118 : fet 221 118 = .ok (.getfield 44, 3) := by decide +kernel
theorem d221_121 : fet 221 121 = .ok (.iload 8, 2) := by decide +kernel
theorem d221_123 : fet 221 123 = .ok (.baload, 1) := by decide +kernel
theorem d221_124 : fet 221 124 = .ok (.ifCond .eq 21, 3) := by decide +kernel
theorem d221_127 : fet 221 127 = .ok (.aload_n 0, 1) := by decide +kernel
theorem d221_128 : fet 221 128 = .ok (.getfield 7, 3) := by decide +kernel
theorem d221_131 : fet 221 131 = .ok (.iconst 5, 1) := by decide +kernel
theorem d221_132 : fet 221 132 = .ok (.iload 8, 2) := by decide +kernel
theorem d221_134 : fet 221 134 = .ok (.iadd, 1) := by decide +kernel
theorem d221_135 : fet 221 135 = .ok (.iaload, 1) := by decide +kernel
theorem d221_136 : fet 221 136 = .ok (.iload 5, 2) := by decide +kernel
theorem d221_138 : fet 221 138 = .ok (.if_icmp .ne 7, 3) := by decide +kernel
theorem d221_141 : fet 221 141 = .ok (.iconst 1, 1) := by decide +kernel
theorem d221_142 : fet 221 142 = .ok (.goto 4, 3) := by decide +kernel
theorem d221_145 : fet 221 145 = .ok (.iconst 0, 1) := by decide +kernel
theorem d221_146 : fet 221 146 = .ok (.iadd, 1) := by decide +kernel
theorem d221_147 : fet 221 147 = .ok (.istore 7, 2) := by decide +kernel
theorem d221_149 : fet 221 149 = .ok (.iinc 8 1, 3) := by decide +kernel
theorem d221_152 : fet 221 152 = .ok (.goto (-57), 3) := by decide +kernel
theorem d221_155 : fet 221 155 = .ok (.iload 4, 2) := by decide +kernel
theorem d221_157 : fet 221 157 = .ok (.iload 6, 2) := by decide +kernel
theorem d221_159 : fet 221 159 = .ok (.iload 7, 2) := by decide +kernel
theorem d221_161 : fet 221 161 = .ok (.if_icmp .ge 8, 3) := by decide +kernel
theorem d221_164 : fet 221 164 = .ok (.iload 6, 2) := by decide +kernel
theorem d221_166 : fet 221 166 = .ok (.goto 5, 3) := by decide +kernel
theorem d221_169 : fet 221 169 = .ok (.iload 7, 2) := by decide +kernel
theorem d221_171 : fet 221 171 = .ok (.iadd, 1) := by decide +kernel
theorem d221_172 : fet 221 172 = .ok (.istore 4, 2) := by decide +kernel
theorem d221_174 : fet 221 174 = .ok (.iinc 5 1, 3) := by decide +kernel
theorem d221_177 : fet 221 177 = .ok (.goto (-171), 3) := by decide +kernel
theorem d221_180 : fet 221 180 = .ok (.iload 4, 2) := by decide +kernel
theorem d221_182 : fet 221 182 = .ok (.ireturn, 1) := by decide +kernel
theorem o222 : own 222 = RX12 := by decide +kernel
theorem d222_0 : fet 222 0 = .ok (.aload_n 0, 1) := by decide +kernel
theorem d222_1 : fet 222 1 = .ok (.invokevirtual 184, 3) := by decide +kernel
theorem d222_4 : fet 222 4 = .ok (.ifCond .ne 6, 3) := by decide +kernel
theorem d222_7 : fet 222 7 = .ok (.ldc 187, 2) := by decide +kernel
theorem d222_9 : fet 222 9 = .ok (.ireturn, 1) := by decide +kernel
theorem d222_10 : fet 222 10 = .ok (.iload_n 1, 1) := by decide +kernel
theorem d222_11 : fet 222 11 = .ok (.iconst 0, 1) := by decide +kernel
theorem d222_12 : fet 222 12 = .ok (.bipush 60, 2) := by decide +kernel
theorem d222_14 : fet 222 14 = .ok (.invokestatic 59, 3) := by decide +kernel
theorem d222_17 : fet 222 17 = .ok (.ifCond .eq 19, 3) := by decide +kernel
theorem d222_20 : fet 222 20 = .ok (.iload_n 2, 1) := by decide +kernel
theorem d222_21 : fet 222 21 = .ok (.iconst (-1), 1) := by decide +kernel
theorem d222_22 : fet 222 22 = .ok (.aload_n 0, 1) := by decide +kernel
theorem d222_23 : fet 222 23 = .ok (.getfield 7, 3) := by decide +kernel
theorem d222_26 : fet 222 26 = .ok (.iconst 2, 1) := by decide +kernel
theorem d222_27 : fet 222 27 = .ok (.iaload, 1) := by decide +kernel
theorem d222_28 : fet 222 28 = .ok (.iconst 1, 1) := by decide +kernel
theorem d222_29 : fet 222 29 = .ok (.isub, 1) := by decide +kernel
theorem d222_30 : fet 222 30 = .ok (.invokestatic 59, 3) := by decide +kernel
theorem d222_33 : fet 222 33 = .ok (.ifCond .ne 6, 3) := by decide +kernel
theorem d222_36 : fet 222 36 = .ok (.ldc 67, 2) := by decide +kernel
theorem d222_38 : fet 222 38 = .ok (.ireturn, 1) := by decide +kernel
theorem d222_39 : fet 222 39 = .ok (.aload_n 0, 1) := by decide +kernel
theorem d222_40 : fet 222 40 = .ok (.getfield 7, 3) := by decide +kernel
theorem d222_43 : fet 222 43 = .ok (.bipush 19, 2) := by decide +kernel
theorem d222_45 : fet 222 45 = .ok (.iaload, 1) := by decide +kernel
theorem d222_46 : fet 222 46 = .ok (.iload_n 1, 1) := by decide +kernel
theorem d222_47 : fet 222 47 = .ok (.iadd, 1) := by decide +kernel
theorem d222_48 : fet 222 48 = .ok (.istore_n 3, 1) := by decide +kernel
theorem d222_49 : fet 222 49 = .ok (.aload_n 0, 1) := by decide +kernel
theorem d222_50 : fet 222 50 = .ok (.invokevirtual 217, 3) := by decide +kernel
theorem d222_53 : fet 222 53 = .ok (.aload_n 0, 1) := by decide +kernel
theorem d222_54 : fet 222 54 = .ok (.iload_n 1, 1) := by decide +kernel
theorem d222_55 : fet 222 55 = .ok (.invokevirtual 220, 3) := by decide +kernel
theorem d222_58 : fet 222 58 = .ok (.iconst 0, 1) := by decide +kernel
theorem d222_59 : fet 222 59 = .ok (.istore 4, 2) := by decide +kernel
theorem d222_61 : fet 222 61 = .ok (.iload 4, 2) := by decide +kernel
theorem d222_63 : fet 222 63 = .ok (.aload_n 0, 1) := by decide +kernel
theorem d222_64 : fet 222 64 = .ok (.getfield 7, 3) := by decide +kernel
theorem d222_67 : fet 222 67 = .ok (.iconst 1, 1) := by decide +kernel
theorem d222_68 : fet 222 68 = .ok (.iaload, 1) := by decide +kernel
theorem d222_69 : fet 222 69 = .ok (.if_icmp .ge 39, 3) := by decide +kernel
theorem d222_72 : fet 222 72 = .ok (.aload_n 0, 1) := by decide +kernel
theorem d222_73 : fet 222 73 = .ok (.getfield 44, 3) := by decide +kernel
theorem d222_76 : fet 222 76 = .ok (.iload 4, 2) := by decide +kernel
theorem d222_78 : fet 222 78 = .ok (.aload_n 0, 1) := by decide +kernel
theorem d222_79 : fet 222 79 = .ok (.iload 4, 2) := by decide +kernel
theorem d222_81 : fet 222 81 = .ok (.invokevirtual 178, 3) := by decide +kernel
theorem d222_84 : fet 222 84 = .ok (.ifCond .ne 16, 3) := by decide +kernel
theorem d222_87 : fet 222 87 = .ok (.aload_n 0, 1) := by decide +kernel
theorem d222_88 : fet 222 88 = .ok (.iload 4, 2) := by decide +kernel
theorem d222_90 : fet 222 90 = .ok (.invokevirtual 210, 3) := by decide +kernel
theorem d222_93 : fet 222 93 = .ok (.ifCond .eq 7, 3) := by decide +kernel
theorem d222_96 : fet 222 96 = .ok (.iconst 1, 1) := by decide +kernel
theorem d222_97 : fet 222 97 = .ok (.goto 4, 3) := by decide +kernel
theorem d222_100 : fet 222 100 = .ok (.iconst 0, 1) := by decide +kernel
theorem d222_101 : fet 222 101 = .ok (.bastore, 1) := by decide +kernel
theorem d222_102 : fet 222 102 = .ok (.iinc 4 1, 3) := by decide +kernel
theorem d222_105 : fet 222 105 = .ok (.goto (-44), 3) := by decide +kernel
theorem d222_108 : fet 222 108 = .ok (.aload_n 0, 1) := by decide +kernel
theorem d222_109 : fet 222 109 = .ok (.invokevirtual 226, 3) := by decide +kernel
theorem d222_112 : fet 222 112 = .ok (.bipush 63, 2) := by decide +kernel
theorem d222_114 : fet 222 114 = .ok (.istore 4, 2) := by decide +kernel
theorem d222_116 : fet 222 116 = .ok (.aload_n 0, 1) := by decide +kernel
theorem d222_117 : fet 222 117 = .ok (.iconst 0, 1) := by decide +kernel
theorem d222_118 : fet 222 118 = .ok (.iload 4, 2) := by decide +kernel
theorem d222_120 : fet 222 120 = .ok (.iload_n 3, 1) := by decide +kernel
theorem d222_121 : fet 222 121 = .ok (.invokevirtual 241, 3) := by decide +kernel
theorem d222_124 : fet 222 124 = .ok (.istore 5, 2) := by decide +kernel
theorem d222_126 : fet 222 126 = .ok (.iload 5, 2) := by decide +kernel
theorem d222_128 : fet 222 128 = .ok (.istore 6, 2) := by decide +kernel
theorem d222_130 : fet 222 130 = .ok (.iconst 0, 1) := by decide +kernel
theorem d222_131 : fet 222 131 = .ok (.istore 7, 2) := by decide +kernel
theorem d222_133 : fet 222 133 = .ok (.iload 7, 2) := by decide +kernel
theorem d222_135 : fet 222 135 = .ok (.aload_n 0, 1) := by decide +kernel
theorem d222_136 : fet 222 136 = .ok (.getfield 7, 3) := by decide +kernel
theorem d222_139 : fet 222 139 = .ok (.iconst 2, 1) := by decide +kernel
theorem d222_140 : fet 222 140 = .ok (.iaload, 1) := by decide +kernel
theorem d222_141 : fet 222 141 = .ok (.if_icmp .ge 177, 3) := by decide +kernel
theorem d222_144 : fet 222 144 = .ok (.aload_n 0, 1) := by decide +kernel
theorem d222_145 : fet 222 145 = .ok (.getfield 47, 3) := by decide +kernel
theorem d222_148 : fet 222 148 = .ok (.iload 7, 2) := by decide +kernel
theorem d222_150 : fet 222 150 = .ok (.ldc 53, 2) := by decide +kernel
theorem d222_152 : fet 222 152 = .ok (.iastore, 1) := by decide +kernel
theorem d222_153 : fet 222 153 = .ok (.iconst 0, 1) := by decide +kernel
theorem d222_154 : fet 222 154 = .ok (.istore 8, 2) := by decide +kernel
theorem d222_156 : fet 222 156 = .ok (.iload 8, 2) := by decide +kernel
theorem d222_158 : fet 222 158 = .ok (.aload_n 0, 1) := by decide +kernel
theorem d222_159 : fet 222 159 = .ok (.getfield 7, 3) := by decide +kernel
theorem d222_162 : fet 222 162 = .ok (.iconst 1, 1) := by decide +kernel
theorem d222_163 : fet 222 163 = .ok (.iaload, 1) := by decide +kernel
theorem d222_164 : fet 222 164 = .ok (.if_icmp .ge 94, 3) := by decide +kernel
theorem d222_167 : fet 222 167 = .ok (.aload_n 0, 1) := by decide +kernel
theorem d222_168 : fet 222 168 = .ok (.getfield 47, 3) := by decide +kernel
theorem d222_171 : fet 222 171 = .ok (.iload 7, 2) := by decide +kernel
theorem d222_173 : fet 222 173 = .ok (.iaload, 1) := by decide +kernel
theorem d222_174 : fet 222 174 = .ok (.ldc 53, 2) := by decide +kernel
theorem d222_176 : fet 222 176 = .ok (.if_icmp .ne 82, 3) := by decide +kernel
theorem d222_179 : fet 222 179 = .ok (.iload 4, 2) := by decide +kernel
theorem d222_181 : fet 222 181 = .ok (.iload 8, 2) := by decide +kernel
theorem d222_183 : fet 222 183 = .ok (.invokestatic 238, 3) := by decide +kernel
theorem d222_186 : fet 222 186 = .ok (.ifCond .eq 44, 3) := by decide +kernel
theorem d222_189 : fet 222 189 = .ok (.aload_n 0, 1) := by decide +kernel
theorem d222_190 : fet 222 190 = .ok (.iload 7, 2) := by decide +kernel
theorem d222_192 : fet 222 192 = .ok (.iload 8, 2) := by decide +kernel
theorem d222_194 : fet 222 194 = .ok (.iload_n 3, 1) := by decide +kernel
theorem d222_195 : fet 222 195 = .ok (.invokevirtual 245, 3) := by decide +kernel
theorem d222_198 : fet 222 198 = .ok (.ifCond .eq 32, 3) := by decide +kernel
theorem d222_201 : fet 222 201 = .ok (.iconst 1, 1) := by decide +kernel
theorem d222_202 : fet 222 202 = .ok (.aload_n 0, 1) := by decide +kernel
theorem d222_203 : fet 222 203 = .ok (.iload 7, 2) := by decide +kernel
theorem d222_205 : fet 222 205 = .ok (.iconst 1, 1) := by decide +kernel
theorem d222_206 : fet 222 206 = .ok (.iadd, 1) := by decide +kernel
theorem d222_207 : fet 222 207 = .ok (.iload 4, 2) := by decide +kernel
theorem d222_209 : fet 222 209 = .ok (.iconst 1, 1) := by decide +kernel
theorem d222_210 : fet 222 210 = .ok (.iload 8, 2) := by decide +kernel
theorem d222_212 : fet 222 212 = .ok (.ishl, 1) := by decide +kernel
theorem d222_213 : fet 222 213 = .ok (.iconst (-1), 1) := by decide +kernel
theorem d222_214 : fet 222 214 = .ok (.ixor, 1) := by decide +kernel
theorem d222_215 : fet 222 215 = .ok (.iand, 1) := by decide +kernel
theorem d222_216 : fet 222 216 = .ok (.iload_n 3, 1) := by decide +kernel
theorem d222_217 : fet 222 217 = .ok (.invokevirtual 241, 3) := by decide +kernel
theorem d222_220 : fet 222 220 = .ok (.iadd, 1) := by decide +kernel
theorem d222_221 : fet 222 221 = .ok (.iload 6, 2) := by decide +kernel
theorem d222_223 : fet 222 223 = .ok (.if_icmp .ne 7, 3) := by decide +kernel
theorem d222_226 : fet 222 226 = .ok (.iconst 1, 1) := by decide +kernel
theorem d222_227 : fet 222 227 = .ok (.goto 4, 3) := by decide +kernel
theorem d222_230 : fet 222 230 = .ok (.iconst 0, 1) := by decide +kernel
theorem d222_231 : fet 222 231 = .ok (.istore 9, 2) := by decide +kernel
theorem d222_233 : fet 222 233 = .ok (.aload_n 0, 1) := by decide +kernel
theorem d222_234 : fet 222 234 = .ok (.getfield 47, 3) := by decide +kernel
theorem d222_237 : fet 222 237 = .ok (.iload 7, 2) := by decide +kernel
theorem d222_239 : fet 222 239 = .ok (.iload 9, 2) := by decide +kernel
theorem d222_241 : fet 222 241 = .ok (.ifCond .eq 8, 3) := by decide +kernel
theorem d222_244 : fet 222 244 = .ok (.iload 8, 2) := by decide +kernel
theorem d222_246 : fet 222 246 = .ok (.goto 5, 3) := by decide +kernel
theorem d222_249 : fet 222 249 = .ok (.ldc 53, 2) := by decide +kernel
theorem d222_251 : fet 222 251 = .ok (.iastore, 1) := by decide +kernel
theorem d222_252 : fet 222 252 = .ok (.iinc 8 1, 3) := by decide +kernel
theorem d222_255 : fet 222 255 = .ok (.goto (-99), 3) := by decide +kernel
theorem d222_258 : fet 222 258 = .ok (.iload 4, 2) := by decide +kernel
theorem d222_260 : fet 222 260 = .ok (.aload_n 0, 1) := by decide +kernel
theorem d222_261 : fet 222 261 = .ok (.getfield 47, 3) := by decide +kernel
theorem d222_264 : fet 222 264 = .ok (.iload 7, 2) := by decide +kernel
theorem d222_266 : fet 222 266 = .ok (.iaload, 1) := by decide +kernel
theorem d222_267 : fet 222 267 = .ok (.ldc 53, 2) := by decide +kernel
theorem d222_269 : fet 222 269 = .ok (.if_icmp .ne 7, 3) := by decide +kernel
theorem d222_272 : fet 222 272 = .ok (.iconst (-1), 1) := by decide +kernel
theorem d222_273 : fet 222 273 = .ok (.goto 14, 3) := by decide +kernel
theorem d222_276 : fet 222 276 = .ok (.iconst 1, 1) := by decide +kernel
theorem d222_277 : fet 222 277 = .ok (.aload_n 0, 1) := by decide +kernel
theorem d222_278 : fet 222 278 = .ok (.getfield 47, 3) := by decide +kernel
theorem d222_281 : fet 222 281 = .ok (.iload 7, 2) := by decide +kernel
theorem d222_283 : fet 222 283 = .ok (.iaload, 1) := by decide +kernel
theorem d222_284 : fet 222 284 = .ok (.ishl, 1) := by decide +kernel
theorem d222_285 : fet 222 285 = .ok (.iconst (-1), 1) := by decide +kernel
theorem d222_286 : fet 222 286 = .ok (.ixor, 1) := by decide +kernel
theorem d222_287 : fet 222 287 = .ok (.iand, 1) := by decide +kernel
theorem d222_288 : fet 222 288 = .ok (.istore 4, 2) := by decide +kernel
theorem d222_290 : fet 222 290 = .ok (.iload 6, 2) := by decide +kernel
theorem d222_292 : fet 222 292 = .ok (.aload_n 0, 1) := by decide +kernel
theorem d222_293 : fet 222 293 = .ok (.getfield 47, 3) := by decide +kernel
theorem d222_296 : fet 222 296 = .ok (.iload 7, 2) := by decide +kernel
theorem d222_298 : fet 222 298 = .ok (.iaload, 1) := by decide +kernel
theorem d222_299 : fet 222 299 = .ok (.ldc 53, 2) := by decide +kernel
theorem d222_301 : fet 222 301 = .ok (.if_icmp .ne 7, 3) := by decide +kernel
theorem d222_304 : fet 222 304 = .ok (.iconst 0, 1) := by decide +kernel
theorem d222_305 : fet 222 305 = .ok (.goto 4, 3) := by decide +kernel
theorem d222_308 : fet 222 308 = .ok (.iconst 1, 1) := by decide +kernel
theorem d222_309 : fet 222 309 = .ok (.isub, 1) := by decide +kernel
theorem d222_310 : fet 222 310 = .ok (.istore 6, 2) := by decide +kernel
theorem d222_312 : fet 222 312 = .ok (.iinc 7 1, 3) := by decide +kernel
theorem d222_315 : fet 222 315 = .ok (.goto (-182), 3) := by decide +kernel
theorem d222_318 : fet 222 318 = .ok (.iload_n 2, 1) := by decide +kernel
theorem d222_319 : fet 222 319 = .ok (.ifCond .ge 8, 3) := by decide +kernel
theorem d222_322 : fet 222 322 = .ok (.iload 5, 2) := by decide +kernel
theorem d222_324 : fet 222 324 = .ok (.goto 9, 3) := by decide +kernel
theorem d222_327 : fet 222 327 = .ok (.aload_n 0, 1) := by decide +kernel
theorem d222_328 : fet 222 328 = .ok (.getfield 47, 3) := by decide +kernel
theorem d222_331 : fet 222 331 = .ok (.iload_n 2, 1) := by decide +kernel
theorem d222_332 : fet 222 332 = .ok (.iaload, 1) := by decide +kernel
theorem d222_333 : fet 222 333 = .ok (.ireturn, 1) := by decide +kernel
theorem o223 : own 223 = RX12 := by decide +kernel
theorem d223_0 : fet 223 0 = .ok (.iconst 0, 1) := by decide +kernel
theorem d223_1 : fet 223 1 = .ok (.istore_n 2, 1) := by decide +kernel
theorem d223_2 : fet 223 2 = .ok (.iconst 0, 1) := by decide +kernel
theorem d223_3 : fet 223 3 = .ok (.istore_n 3, 1) := by decide +kernel
theorem d223_4 : fet 223 4 = .ok (.iload_n 3, 1) := by decide +kernel
theorem d223_5 : fet 223 5 = .ok (.aload_n 0, 1) := by decide +kernel
theorem d223_6 : fet 223 6 = .ok (.getfield 7, 3) := by decide +kernel
theorem d223_9 : fet 223 9 = .ok (.iconst 1, 1) := by decide +kernel
theorem d223_10 : fet 223 10 = .ok (.iaload, 1) := by decide +kernel
theorem d223_11 : fet 223 11 = .ok (.if_icmp .ge 64, 3) := by decide +kernel
theorem d223_14 : fet 223 14 = .ok (.iload_n 1, 1) := by decide +kernel
theorem d223_15 : fet 223 15 = .ok (.ifCond .eq 24, 3) := by decide +kernel
theorem d223_18 : fet 223 18 = .ok (.aload_n 0, 1) := by decide +kernel
theorem d223_19 : fet 223 19 = .ok (.getfield 7, 3) := by decide +kernel
theorem d223_22 : fet 223 22 = .ok (.bipush 75, 2) := by decide +kernel
theorem d223_24 : fet 223 24 = .ok (.iload_n 3, 1) := by decide +kernel
theorem d223_25 : fet 223 25 = .ok (.iadd, 1) := by decide +kernel
theorem d223_26 : fet 223 26 = .ok (.iaload, 1) := by decide +kernel
theorem d223_27 : fet 223 27 = .ok (.iconst 1, 1) := by decide +kernel
theorem d223_28 : fet 223 28 = .ok (.if_icmp .ne 7, 3) := by decide +kernel
theorem d223_31 : fet 223 31 = .ok (.iconst 1, 1) := by decide +kernel
theorem d223_32 : fet 223 32 = .ok (.goto 12, 3) := by decide +kernel
theorem d223_35 : fet 223 35 = .ok (.iconst 0, 1) := by decide +kernel
theorem d223_36 : fet 223 36 = .ok (.goto 8, 3) := by decide +kernel
theorem d223_39 : fet 223 39 = .ok (.aload_n 0, 1) := by decide +kernel
theorem d223_40 : fet 223 40 = .ok (.iload_n 3, 1) := by decide +kernel
theorem d223_41 : fet 223 41 = .ok (.invokevirtual 210, 3) := by decide +kernel
theorem d223_44 : fet 223 44 = .ok (.istore 4, 2) := by decide +kernel
theorem d223_46 : fet 223 46 = .ok (.iload_n 2, 1) := by decide +kernel
theorem d223_47 : fet 223 47 = .ok (.aload_n 0, 1) := by decide +kernel
theorem d223_48 : fet 223 48 = .ok (.iload_n 3, 1) := by decide +kernel
theorem d223_49 : fet 223 49 = .ok (.invokevirtual 178, 3) := by decide +kernel
theorem d223_52 : fet 223 52 = .ok (.ifCond .ne 14, 3) := by decide +kernel
theorem d223_55 : fet 223 55 = .ok (.iload 4, 2) := by decide +kernel
theorem d223_57 : fet 223 57 = .ok (.ifCond .eq 9, 3) := by decide +kernel
theorem d223_60 : fet 223 60 = .ok (.iconst 1, 1) := by decide +kernel
theorem d223_61 : fet 223 61 = .ok (.iload_n 3, 1) := by decide +kernel
theorem d223_62 : fet 223 62 = .ok (.ishl, 1) := by decide +kernel
theorem d223_63 : fet 223 63 = .ok (.goto 4, 3) := by decide +kernel
theorem d223_66 : fet 223 66 = .ok (.iconst 0, 1) := by decide +kernel
theorem d223_67 : fet 223 67 = .ok (.ior, 1) := by decide +kernel
theorem d223_68 : fet 223 68 = .ok (.istore_n 2, 1) := by decide +kernel
theorem d223_69 : fet 223 69 = .ok (.iinc 3 1, 3) := by decide +kernel
theorem d223_72 : fet 223 72 = .ok (.goto (-68), 3) := by decide +kernel
theorem d223_75 : fet 223 75 = .ok (.iload_n 2, 1) := by decide +kernel
theorem d223_76 : fet 223 76 = .ok (.ireturn, 1) := by decide +kernel
end
section
theorem o224 : own 224 = RX12 := by decide +kernel
theorem d224_0 : fet 224 0 = .ok (.ldc 53, 2) := by decide +kernel
theorem d224_2 : fet 224 2 = .ok (.istore_n 1, 1) := by decide +kernel
theorem d224_3 : fet 224 3 = .ok (.iconst 0, 1) := by decide +kernel
theorem d224_4 : fet 224 4 = .ok (.istore_n 2, 1) := by decide +kernel
theorem d224_5 : fet 224 5 = .ok (.iload_n 2, 1) := by decide +kernel
theorem d224_6 : fet 224 6 = .ok (.aload_n 0, 1) := by decide +kernel
theorem d224_7 : fet 224 7 = .ok (.getfield 7, 3) := by decide +kernel
theorem d224_10 : fet 224 10 = .ok (.iconst 1, 1) := by decide +kernel
theorem d224_11 : fet 224 11 = .ok (.iaload, 1) := by decide +kernel
theorem d224_12 : fet 224 12 = .ok (.if_icmp .ge 64, 3) := by decide +kernel
theorem d224_15 : fet 224 15 = .ok (.aload_n 0, 1) := by decide +kernel
theorem d224_16 : fet 224 16 = .ok (.iload_n 2, 1) := by decide +kernel
theorem d224_17 : fet 224 17 = .ok (.invokevirtual 163, 3) := by decide +kernel
theorem d224_20 : fet 224 20 = .ok (.ifCond .eq 19, 3) := by decide +kernel
theorem d224_23 : fet 224 23 = .ok (.aload_n 0, 1) := by decide +kernel
theorem d224_24 : fet 224 24 = .ok (.getfield 7, 3) := by decide +kernel
theorem d224_27 : fet 224 27 = .ok (.bipush 75, 2) := by decide +kernel
theorem d224_29 : fet 224 29 = .ok (.iload_n 2, 1) := by decide +kernel
theorem d224_30 : fet 224 30 = .ok (.iadd, 1) := by decide +kernel
theorem d224_31 : fet 224 31 = .ok (.iaload, 1) := by decide +kernel
theorem d224_32 : fet 224 32 = .ok (.ifCond .ne 7, 3) := by decide +kernel
theorem d224_35 : fet 224 35 = .ok (.iconst 1, 1) := by decide +kernel
theorem d224_36 : fet 224 36 = .ok (.goto 4, 3) := by decide +kernel
theorem d224_39 : fet 224 39 = .ok (.iconst 0, 1) := by decide +kernel
theorem d224_40 : fet 224 40 = .ok (.istore_n 3, 1) := by decide +kernel
theorem d224_41 : fet 224 41 = .ok (.iload_n 3, 1) := by decide +kernel
theorem d224_42 : fet 224 42 = .ok (.ifCond .eq 26, 3) := by decide +kernel
theorem d224_45 : fet 224 45 = .ok (.iload_n 1, 1) := by decide +kernel
theorem d224_46 : fet 224 46 = .ok (.ldc 53, 2) := by decide +kernel
theorem d224_48 : fet 224 48 = .ok (.if_icmp .eq 16, 3) := by decide +kernel
theorem d224_51 : fet 224 51 = .ok (.aload_n 0, 1) := by decide +kernel
theorem d224_52 : fet 224 52 = .ok (.iload_n 2, 1) := by decide +kernel
theorem d224_53 : fet 224 53 = .ok (.invokevirtual 160, 3) := by decide +kernel
theorem d224_56 : fet 224 56 = .ok (.aload_n 0, 1) := by decide +kernel
theorem d224_57 : fet 224 57 = .ok (.iload_n 1, 1) := by decide +kernel
theorem d224_58 : fet 224 58 = .ok (.invokevirtual 160, 3) := by decide +kernel
theorem d224_61 : fet 224 61 = .ok (.if_icmp .le 7, 3) := by decide +kernel
theorem d224_64 : fet 224 64 = .ok (.iload_n 2, 1) := by decide +kernel
theorem d224_65 : fet 224 65 = .ok (.goto 4, 3) := by decide +kernel
theorem d224_68 : fet 224 68 = .ok (.iload_n 1, 1) := by decide +kernel
theorem d224_69 : fet 224 69 = .ok (.istore_n 1, 1) := by decide +kernel
theorem d224_70 : fet 224 70 = .ok (.iinc 2 1, 3) := by decide +kernel
theorem d224_73 : fet 224 73 = .ok (.goto (-68), 3) := by decide +kernel
theorem d224_76 : fet 224 76 = .ok (.iload_n 1, 1) := by decide +kernel
theorem d224_77 : fet 224 77 = .ok (.ldc 53, 2) := by decide +kernel
theorem d224_79 : fet 224 79 = .ok (.if_icmp .eq 20, 3) := by decide +kernel
theorem d224_82 : fet 224 82 = .ok (.aload_n 0, 1) := by decide +kernel
theorem d224_83 : fet 224 83 = .ok (.iload_n 1, 1) := by decide +kernel
theorem d224_84 : fet 224 84 = .ok (.invokevirtual 160, 3) := by decide +kernel
theorem d224_87 : fet 224 87 = .ok (.aload_n 0, 1) := by decide +kernel
theorem d224_88 : fet 224 88 = .ok (.iload_n 1, 1) := by decide +kernel
theorem d224_89 : fet 224 89 = .ok (.invokevirtual 223, 3) := by decide +kernel
theorem d224_92 : fet 224 92 = .ok (.if_icmp .le 7, 3) := by decide +kernel
theorem d224_95 : fet 224 95 = .ok (.iload_n 1, 1) := by decide +kernel
theorem d224_96 : fet 224 96 = .ok (.goto 5, 3) := by decide +kernel
theorem d224_99 : fet 224 99 = .ok (.ldc 53, 2) := by decide +kernel
theorem d224_101 : fet 224 101 = .ok (.ireturn, 1) := by decide +kernel
theorem o225 : own 225 = RX12 := by decide +kernel
theorem d225_0 : fet 225 0 = .ok (.aload_n 0, 1) := by decide +kernel
theorem d225_1 : fet 225 1 = .ok (.invokevirtual 184, 3) := by decide +kernel
theorem d225_4 : fet 225 4 = .ok (.ifCond .ne 6, 3) := by decide +kernel
theorem d225_7 : fet 225 7 = .ok (.ldc 187, 2) := by decide +kernel
theorem d225_9 : fet 225 9 = .ok (.ireturn, 1) := by decide +kernel
theorem d225_10 : fet 225 10 = .ok (.iload_n 1, 1) := by decide +kernel
theorem d225_11 : fet 225 11 = .ok (.iconst 1, 1) := by decide +kernel
theorem d225_12 : fet 225 12 = .ok (.bipush 60, 2) := by decide +kernel
theorem d225_14 : fet 225 14 = .ok (.invokestatic 59, 3) := by decide +kernel
theorem d225_17 : fet 225 17 = .ok (.ifCond .eq 12, 3) := by decide +kernel
theorem d225_20 : fet 225 20 = .ok (.iload_n 2, 1) := by decide +kernel
theorem d225_21 : fet 225 21 = .ok (.iconst 0, 1) := by decide +kernel
theorem d225_22 : fet 225 22 = .ok (.iconst 2, 1) := by decide +kernel
theorem d225_23 : fet 225 23 = .ok (.invokestatic 59, 3) := by decide +kernel
theorem d225_26 : fet 225 26 = .ok (.ifCond .ne 6, 3) := by decide +kernel
theorem d225_29 : fet 225 29 = .ok (.ldc 67, 2) := by decide +kernel
theorem d225_31 : fet 225 31 = .ok (.ireturn, 1) := by decide +kernel
theorem d225_32 : fet 225 32 = .ok (.aload_n 0, 1) := by decide +kernel
theorem d225_33 : fet 225 33 = .ok (.invokevirtual 217, 3) := by decide +kernel
theorem d225_36 : fet 225 36 = .ok (.iconst 0, 1) := by decide +kernel
theorem d225_37 : fet 225 37 = .ok (.istore_n 3, 1) := by decide +kernel
theorem d225_38 : fet 225 38 = .ok (.iconst 0, 1) := by decide +kernel
theorem d225_39 : fet 225 39 = .ok (.istore 4, 2) := by decide +kernel
theorem d225_41 : fet 225 41 = .ok (.iload 4, 2) := by decide +kernel
theorem d225_43 : fet 225 43 = .ok (.iload_n 1, 1) := by decide +kernel
theorem d225_44 : fet 225 44 = .ok (.if_icmp .ge 51, 3) := by decide +kernel
theorem d225_47 : fet 225 47 = .ok (.aload_n 0, 1) := by decide +kernel
theorem d225_48 : fet 225 48 = .ok (.invokevirtual 248, 3) := by decide +kernel
theorem d225_51 : fet 225 51 = .ok (.istore 5, 2) := by decide +kernel
theorem d225_53 : fet 225 53 = .ok (.iload 5, 2) := by decide +kernel
theorem d225_55 : fet 225 55 = .ok (.ldc 53, 2) := by decide +kernel
theorem d225_57 : fet 225 57 = .ok (.if_icmp .eq 28, 3) := by decide +kernel
theorem d225_60 : fet 225 60 = .ok (.aload_n 0, 1) := by decide +kernel
theorem d225_61 : fet 225 61 = .ok (.getfield 7, 3) := by decide +kernel
theorem d225_64 : fet 225 64 = .ok (.bipush 69, 2) := by decide +kernel
theorem d225_66 : fet 225 66 = .ok (.iload 5, 2) := by decide +kernel
theorem d225_68 : fet 225 68 = .ok (.iadd, 1) := by decide +kernel
theorem d225_69 : fet 225 69 = .ok (.iconst 1, 1) := by decide +kernel
theorem d225_70 : fet 225 70 = .ok (.aload_n 0, 1) := by decide +kernel
theorem d225_71 : fet 225 71 = .ok (.getfield 7, 3) := by decide +kernel
theorem d225_74 : fet 225 74 = .ok (.bipush 69, 2) := by decide +kernel
theorem d225_76 : fet 225 76 = .ok (.iload 5, 2) := by decide +kernel
theorem d225_78 : fet 225 78 = .ok (.iadd, 1) := by decide +kernel
theorem d225_79 : fet 225 79 = .ok (.iaload, 1) := by decide +kernel
theorem d225_80 : fet 225 80 = .ok (.isub, 1) := by decide +kernel
theorem d225_81 : fet 225 81 = .ok (.iastore, 1) := by decide +kernel
theorem d225_82 : fet 225 82 = .ok (.iinc 3 1, 3) := by decide +kernel
theorem d225_85 : fet 225 85 = .ok (.aload_n 0, 1) := by decide +kernel
theorem d225_86 : fet 225 86 = .ok (.invokevirtual 191, 3) := by decide +kernel
theorem d225_89 : fet 225 89 = .ok (.iinc 4 1, 3) := by decide +kernel
theorem d225_92 : fet 225 92 = .ok (.goto (-51), 3) := by decide +kernel
theorem d225_95 : fet 225 95 = .ok (.iload_n 2, 1) := by decide +kernel
theorem d225_96 : fet 225 96 = .ok (.iconst 2, 1) := by decide +kernel
theorem d225_97 : fet 225 97 = .ok (.if_icmp .ne 7, 3) := by decide +kernel
theorem d225_100 : fet 225 100 = .ok (.iload_n 3, 1) := by decide +kernel
theorem d225_101 : fet 225 101 = .ok (.goto 16, 3) := by decide +kernel
theorem d225_104 : fet 225 104 = .ok (.aload_n 0, 1) := by decide +kernel
theorem d225_105 : fet 225 105 = .ok (.iload_n 2, 1) := by decide +kernel
theorem d225_106 : fet 225 106 = .ok (.ifCond .ne 7, 3) := by decide +kernel
theorem d225_109 : fet 225 109 = .ok (.iconst 1, 1) := by decide +kernel
theorem d225_110 : fet 225 110 = .ok (.goto 4, 3) := by decide +kernel
theorem d225_113 : fet 225 113 = .ok (.iconst 0, 1) := by decide +kernel
theorem d225_114 : fet 225 114 = .ok (.invokevirtual 251, 3) := by decide +kernel
theorem d225_117 : fet 225 117 = .ok (.istore 4, 2) := by decide +kernel
theorem d225_119 : fet 225 119 = .ok (.aload_n 0, 1) := by decide +kernel
theorem d225_120 : fet 225 120 = .ok (.invokevirtual 226, 3) := by decide +kernel
theorem d225_123 : fet 225 123 = .ok (.iload 4, 2) := by decide +kernel
theorem d225_125 : fet 225 125 = .ok (.ireturn, 1) := by decide +kernel
theorem o226 : own 226 = RX12 := by decide +kernel
theorem d226_0 : fet 226 0 = .ok (.iconst 1, 1) := by decide +kernel
theorem d226_1 : fet 226 1 = .ok (.istore 4, 2) := by decide +kernel
theorem d226_3 : fet 226 3 = .ok (.iconst 0, 1) := by decide +kernel
theorem d226_4 : fet 226 4 = .ok (.istore 5, 2) := by decide +kernel
theorem d226_6 : fet 226 6 = .ok (.iload 5, 2) := by decide +kernel
theorem d226_8 : fet 226 8 = .ok (.iload_n 3, 1) := by decide +kernel
theorem d226_9 : fet 226 9 = .ok (.if_icmp .ge 61, 3) := by decide +kernel
theorem d226_12 : fet 226 12 = .ok (.aload_n 0, 1) := by decide +kernel
theorem d226_13 : fet 226 13 = .ok (.getfield 29, 3) := by decide +kernel
theorem d226_16 : fet 226 16 = .ok (.bipush 40, 2) := by decide +kernel
theorem d226_18 : fet 226 18 = .ok (.iload_n 1, 1) := by decide +kernel
theorem d226_19 : fet 226 19 = .ok (.imul, 1) := by decide +kernel
theorem d226_20 : fet 226 20 = .ok (.iload_n 2, 1) := by decide +kernel
theorem d226_21 : fet 226 21 = .ok (.iadd, 1) := by decide +kernel
theorem d226_22 : fet 226 22 = .ok (.iload 5, 2) := by decide +kernel
theorem d226_24 : fet 226 24 = .ok (.iadd, 1) := by decide +kernel
theorem d226_25 : fet 226 25 = .ok (.iaload, 1) := by decide +kernel
theorem d226_26 : fet 226 26 = .ok (.istore 6, 2) := by decide +kernel
theorem d226_28 : fet 226 28 = .ok (.iload 4, 2) := by decide +kernel
theorem d226_30 : fet 226 30 = .ok (.ifCond .eq 31, 3) := by decide +kernel
theorem d226_33 : fet 226 33 = .ok (.iload 6, 2) := by decide +kernel
theorem d226_35 : fet 226 35 = .ok (.iconst (-1), 1) := by decide +kernel
theorem d226_36 : fet 226 36 = .ok (.if_icmp .eq 21, 3) := by decide +kernel
theorem d226_39 : fet 226 39 = .ok (.aload_n 0, 1) := by decide +kernel
theorem d226_40 : fet 226 40 = .ok (.iload 6, 2) := by decide +kernel
theorem d226_42 : fet 226 42 = .ok (.invokevirtual 194, 3) := by decide +kernel
theorem d226_45 : fet 226 45 = .ok (.ifCond .eq 16, 3) := by decide +kernel
theorem d226_48 : fet 226 48 = .ok (.aload_n 0, 1) := by decide +kernel
theorem d226_49 : fet 226 49 = .ok (.iload 6, 2) := by decide +kernel
theorem d226_51 : fet 226 51 = .ok (.invokevirtual 178, 3) := by decide +kernel
theorem d226_54 : fet 226 54 = .ok (.ifCond .ne 7, 3) := by decide +kernel
theorem d226_57 : fet 226 57 = .ok (.iconst 1, 1) := by decide +kernel
theorem d226_58 : fet 226 58 = .ok (.goto 4, 3) := by decide +kernel
theorem d226_61 : fet 226 61 = .ok (.iconst 0, 1) := by decide +kernel
theorem d226_62 : fet 226 62 = .ok (.istore 4, 2) := by decide +kernel
theorem d226_64 : fet 226 64 = .ok (.iinc 5 1, 3) := by decide +kernel
theorem d226_67 : fet 226 67 = .ok (.goto (-61), 3) := by decide +kernel
theorem d226_70 : fet 226 70 = .ok (.iload 4, 2) := by decide +kernel
theorem d226_72 : fet 226 72 = .ok (.ireturn, 1) := by decide +kernel
theorem o227 : own 227 = RX12 := by decide +kernel
theorem d227_0 : fet 227 0 = .ok (.aload_n 0, 1) := by decide +kernel
theorem d227_1 : fet 227 1 = .ok (.invokevirtual 184, 3) := by decide +kernel
theorem d227_4 : fet 227 4 = .ok (.ifCond .ne 6, 3) := by decide +kernel
theorem d227_7 : fet 227 7 = .ok (.ldc 187, 2) := by decide +kernel
theorem d227_9 : fet 227 9 = .ok (.ireturn, 1) := by decide +kernel
theorem d227_10 : fet 227 10 = .ok (.iload_n 1, 1) := by decide +kernel
theorem d227_11 : fet 227 11 = .ok (.invokestatic 63, 3) := by decide +kernel
theorem d227_14 : fet 227 14 = .ok (.ifCond .eq 13, 3) := by decide +kernel
theorem d227_17 : fet 227 17 = .ok (.iload_n 3, 1) := by decide +kernel
theorem d227_18 : fet 227 18 = .ok (.iconst 0, 1) := by decide +kernel
theorem d227_19 : fet 227 19 = .ok (.bipush 40, 2) := by decide +kernel
theorem d227_21 : fet 227 21 = .ok (.invokestatic 59, 3) := by decide +kernel
theorem d227_24 : fet 227 24 = .ok (.ifCond .ne 6, 3) := by decide +kernel
theorem d227_27 : fet 227 27 = .ok (.ldc 67, 2) := by decide +kernel
theorem d227_29 : fet 227 29 = .ok (.ireturn, 1) := by decide +kernel
theorem d227_30 : fet 227 30 = .ok (.aload_n 0, 1) := by decide +kernel
theorem d227_31 : fet 227 31 = .ok (.getfield 23, 3) := by decide +kernel
theorem d227_34 : fet 227 34 = .ok (.iload_n 1, 1) := by decide +kernel
theorem d227_35 : fet 227 35 = .ok (.iaload, 1) := by decide +kernel
theorem d227_36 : fet 227 36 = .ok (.ldc 53, 2) := by decide +kernel
theorem d227_38 : fet 227 38 = .ok (.if_icmp .ne 9, 3) := by decide +kernel
theorem d227_41 : fet 227 41 = .ok (.aload_n 0, 1) := by decide +kernel
theorem d227_42 : fet 227 42 = .ok (.iconst 1, 1) := by decide +kernel
theorem d227_43 : fet 227 43 = .ok (.invokevirtual 68, 3) := by decide +kernel
theorem d227_46 : fet 227 46 = .ok (.ireturn, 1) := by decide +kernel
theorem d227_47 : fet 227 47 = .ok (.aload_n 0, 1) := by decide +kernel
theorem d227_48 : fet 227 48 = .ok (.iload_n 1, 1) := by decide +kernel
theorem d227_49 : fet 227 49 = .ok (.iload_n 2, 1) := by decide +kernel
theorem d227_50 : fet 227 50 = .ok (.iload_n 3, 1) := by decide +kernel
theorem d227_51 : fet 227 51 = .ok (.invokevirtual 75, 3) := by decide +kernel
theorem d227_54 : fet 227 54 = .ok (.ifCond .ne 9, 3) := by decide +kernel
theorem d227_57 : fet 227 57 = .ok (.aload_n 0, 1) := by decide +kernel
theorem d227_58 : fet 227 58 = .ok (.iconst 2, 1) := by decide +kernel
theorem d227_59 : fet 227 59 = .ok (.invokevirtual 68, 3) := by decide +kernel
theorem d227_62 : fet 227 62 = .ok (.ireturn, 1) := by decide +kernel
theorem d227_63 : fet 227 63 = .ok (.aload_n 0, 1) := by decide +kernel
theorem d227_64 : fet 227 64 = .ok (.iload_n 1, 1) := by decide +kernel
theorem d227_65 : fet 227 65 = .ok (.iload_n 2, 1) := by decide +kernel
theorem d227_66 : fet 227 66 = .ok (.iload_n 3, 1) := by decide +kernel
theorem d227_67 : fet 227 67 = .ok (.invokevirtual 255, 3) := by decide +kernel
theorem d227_70 : fet 227 70 = .ok (.ifCond .ne 6, 3) := by decide +kernel
theorem d227_73 : fet 227 73 = .ok (.ldc 67, 2) := by decide +kernel
theorem d227_75 : fet 227 75 = .ok (.ireturn, 1) := by decide +kernel
theorem d227_76 : fet 227 76 = .ok (.aload_n 0, 1) := by decide +kernel
theorem d227_77 : fet 227 77 = .ok (.invokevirtual 217, 3) := by decide +kernel
theorem d227_80 : fet 227 80 = .ok (.iconst 0, 1) := by decide +kernel
theorem d227_81 : fet 227 81 = .ok (.istore 4, 2) := by decide +kernel
theorem d227_83 : fet 227 83 = .ok (.iload 4, 2) := by decide +kernel
theorem d227_85 : fet 227 85 = .ok (.iload_n 3, 1) := by decide +kernel
theorem d227_86 : fet 227 86 = .ok (.if_icmp .ge 56, 3) := by decide +kernel
theorem d227_89 : fet 227 89 = .ok (.aload_n 0, 1) := by decide +kernel
theorem d227_90 : fet 227 90 = .ok (.getfield 29, 3) := by decide +kernel
theorem d227_93 : fet 227 93 = .ok (.bipush 40, 2) := by decide +kernel
theorem d227_95 : fet 227 95 = .ok (.iload_n 1, 1) := by decide +kernel
theorem d227_96 : fet 227 96 = .ok (.imul, 1) := by decide +kernel
theorem d227_97 : fet 227 97 = .ok (.iload_n 2, 1) := by decide +kernel
theorem d227_98 : fet 227 98 = .ok (.iadd, 1) := by decide +kernel
theorem d227_99 : fet 227 99 = .ok (.iload 4, 2) := by decide +kernel
theorem d227_101 : fet 227 101 = .ok (.iadd, 1) := by decide +kernel
theorem d227_102 : fet 227 102 = .ok (.iaload, 1) := by decide +kernel
theorem d227_103 : fet 227 103 = .ok (.istore 5, 2) := by decide +kernel
theorem d227_105 : fet 227 105 = .ok (.iload 5, 2) := by decide +kernel
theorem d227_107 : fet 227 107 = .ok (.ifCond .lt 25, 3) := by decide +kernel
theorem d227_110 : fet 227 110 = .ok (.aload_n 0, 1) := by decide +kernel
theorem d227_111 : fet 227 111 = .ok (.getfield 7, 3) := by decide +kernel
theorem d227_114 : fet 227 114 = .ok (.bipush 69, 2) := by decide +kernel
theorem d227_116 : fet 227 116 = .ok (.iload 5, 2) := by decide +kernel
theorem d227_118 : fet 227 118 = .ok (.iadd, 1) := by decide +kernel
theorem d227_119 : fet 227 119 = .ok (.iconst 1, 1) := by decide +kernel
theorem d227_120 : fet 227 120 = .ok (.aload_n 0, 1) := by decide +kernel
theorem d227_121 : fet 227 121 = .ok (.getfield 7, 3) := by decide +kernel
theorem d227_124 : fet 227 124 = .ok (.bipush 69, 2) := by decide +kernel
theorem d227_126 : fet 227 126 = .ok (.iload 5, 2) := by decide +kernel
theorem d227_128 : fet 227 128 = .ok (.iadd, 1) := by decide +kernel
theorem d227_129 : fet 227 129 = .ok (.iaload, 1) := by decide +kernel
theorem d227_130 : fet 227 130 = .ok (.isub, 1) := by decide +kernel
theorem d227_131 : fet 227 131 = .ok (.iastore, 1) := by decide +kernel
theorem d227_132 : fet 227 132 = .ok (.aload_n 0, 1) := by decide +kernel
theorem d227_133 : fet 227 133 = .ok (.invokevirtual 191, 3) := by decide +kernel
theorem d227_136 : fet 227 136 = .ok (.iinc 4 1, 3) := by decide +kernel
theorem d227_139 : fet 227 139 = .ok (.goto (-56), 3) := by decide +kernel
theorem d227_142 : fet 227 142 = .ok (.aload_n 0, 1) := by decide +kernel
theorem d227_143 : fet 227 143 = .ok (.iconst 0, 1) := by decide +kernel
theorem d227_144 : fet 227 144 = .ok (.invokevirtual 251, 3) := by decide +kernel
theorem d227_147 : fet 227 147 = .ok (.istore 4, 2) := by decide +kernel
theorem d227_149 : fet 227 149 = .ok (.aload_n 0, 1) := by decide +kernel
theorem d227_150 : fet 227 150 = .ok (.invokevirtual 226, 3) := by decide +kernel
theorem d227_153 : fet 227 153 = .ok (.aload_n 0, 1) := by decide +kernel
theorem d227_154 : fet 227 154 = .ok (.iload 4, 2) := by decide +kernel
theorem d227_156 : fet 227 156 = .ok (.invokevirtual 72, 3) := by decide +kernel
theorem d227_159 : fet 227 159 = .ok (.ireturn, 1) := by decide +kernel
theorem o228 : own 228 = RX12 := by decide +kernel
theorem d228_0 : fet 228 0 = .ok (.iconst 0, 1) := by decide +kernel
theorem d228_1 : fet 228 1 = .ok (.istore_n 1, 1) := by decide +kernel
theorem d228_2 : fet 228 2 = .ok (.iconst 0, 1) := by decide +kernel
theorem d228_3 : fet 228 3 = .ok (.istore_n 2, 1) := by decide +kernel
theorem d228_4 : fet 228 4 = .ok (.iload_n 2, 1) := by decide +kernel
theorem d228_5 : fet 228 5 = .ok (.aload_n 0, 1) := by decide +kernel
theorem d228_6 : fet 228 6 = .ok (.getfield 7, 3) := by decide +kernel
theorem d228_9 : fet 228 9 = .ok (.bipush 20, 2) := by decide +kernel
theorem d228_11 : fet 228 11 = .ok (.iaload, 1) := by decide +kernel
theorem d228_12 : fet 228 12 = .ok (.if_icmp .ge 21, 3) := by decide +kernel
theorem d228_15 : fet 228 15 = .ok (.iload_n 1, 1) := by decide +kernel
theorem d228_16 : fet 228 16 = .ok (.aload_n 0, 1) := by decide +kernel
theorem d228_17 : fet 228 17 = .ok (.getfield 7, 3) := by decide +kernel
theorem d228_20 : fet 228 20 = .ok (.bipush 29, 2) := by decide +kernel
theorem d228_22 : fet 228 22 = .ok (.iload_n 2, 1) := by decide +kernel
theorem d228_23 : fet 228 23 = .ok (.iadd, 1) := by decide +kernel
theorem d228_24 : fet 228 24 = .ok (.iaload, 1) := by decide +kernel
theorem d228_25 : fet 228 25 = .ok (.iadd, 1) := by decide +kernel
theorem d228_26 : fet 228 26 = .ok (.istore_n 1, 1) := by decide +kernel
theorem d228_27 : fet 228 27 = .ok (.iinc 2 1, 3) := by decide +kernel
theorem d228_30 : fet 228 30 = .ok (.goto (-26), 3) := by decide +kernel
theorem d228_33 : fet 228 33 = .ok (.iload_n 1, 1) := by decide +kernel
theorem d228_34 : fet 228 34 = .ok (.ireturn, 1) := by decide +kernel
theorem o229 : own 229 = RX12 := by decide +kernel
theorem d229_0 : fet 229 0 = .ok (.aload_n 0, 1) := by decide +kernel
theorem d229_1 : fet 229 1 = .ok (.invokevirtual 184, 3) := by decide +kernel
theorem d229_4 : fet 229 4 = .ok (.ifCond .ne 6, 3) := by decide +kernel
theorem d229_7 : fet 229 7 = .ok (.ldc 187, 2) := by decide +kernel
theorem d229_9 : fet 229 9 = .ok (.ireturn, 1) := by decide +kernel
theorem d229_10 : fet 229 10 = .ok (.aload_n 0, 1) := by decide +kernel
theorem d229_11 : fet 229 11 = .ok (.invokevirtual 217, 3) := by decide +kernel
theorem d229_14 : fet 229 14 = .ok (.ldc 53, 2) := by decide +kernel
theorem d229_16 : fet 229 16 = .ok (.istore_n 1, 1) := by decide +kernel
theorem d229_17 : fet 229 17 = .ok (.iconst 0, 1) := by decide +kernel
theorem d229_18 : fet 229 18 = .ok (.istore_n 2, 1) := by decide +kernel
theorem d229_19 : fet 229 19 = .ok (.iload_n 2, 1) := by decide +kernel
theorem d229_20 : fet 229 20 = .ok (.sipush 200, 3) := by decide +kernel
theorem d229_23 : fet 229 23 = .ok (.if_icmp .gt 33, 3) := by decide +kernel
theorem d229_26 : fet 229 26 = .ok (.iload_n 1, 1) := by decide +kernel
theorem d229_27 : fet 229 27 = .ok (.ldc 53, 2) := by decide +kernel
theorem d229_29 : fet 229 29 = .ok (.if_icmp .ne 27, 3) := by decide +kernel
theorem d229_32 : fet 229 32 = .ok (.aload_n 0, 1) := by decide +kernel
theorem d229_33 : fet 229 33 = .ok (.invokevirtual 258, 3) := by decide +kernel
theorem d229_36 : fet 229 36 = .ok (.ifCond .ne 7, 3) := by decide +kernel
theorem d229_39 : fet 229 39 = .ok (.iload_n 2, 1) := by decide +kernel
theorem d229_40 : fet 229 40 = .ok (.goto 5, 3) := by decide +kernel
theorem d229_43 : fet 229 43 = .ok (.ldc 53, 2) := by decide +kernel
theorem d229_45 : fet 229 45 = .ok (.istore_n 1, 1) := by decide +kernel
theorem d229_46 : fet 229 46 = .ok (.aload_n 0, 1) := by decide +kernel
theorem d229_47 : fet 229 47 = .ok (.invokevirtual 191, 3) := by decide +kernel
theorem d229_50 : fet 229 50 = .ok (.iinc 2 1, 3) := by decide +kernel
theorem d229_53 : fet 229 53 = .ok (.goto (-34), 3) := by decide +kernel
theorem d229_56 : fet 229 56 = .ok (.aload_n 0, 1) := by decide +kernel
theorem d229_57 : fet 229 57 = .ok (.invokevirtual 226, 3) := by decide +kernel
theorem d229_60 : fet 229 60 = .ok (.iload_n 1, 1) := by decide +kernel
theorem d229_61 : fet 229 61 = .ok (.ireturn, 1) := by decide +kernel
theorem o230 : own 230 = RX12 := by decide +kernel
theorem d230_0 : fet 230 0 = .ok (.iload_n 1, 1) := by decide +kernel
theorem d230_1 : fet 230 1 = .ok (.iconst 0, 1) := by decide +kernel
theorem d230_2 : fet 230 2 = .ok (.iconst 1, 1) := by decide +kernel
theorem d230_3 : fet 230 3 = .ok (.invokestatic 59, 3) := by decide +kernel
theorem d230_6 : fet 230 6 = .ok (.ifCond .ne 6, 3) := by decide +kernel
theorem d230_9 : fet 230 9 = .ok (.ldc 67, 2) := by decide +kernel
theorem d230_11 : fet 230 11 = .ok (.ireturn, 1) := by decide +kernel
theorem d230_12 : fet 230 12 = .ok (.aload_n 0, 1) := by decide +kernel
theorem d230_13 : fet 230 13 = .ok (.invokevirtual 184, 3) := by decide +kernel
theorem d230_16 : fet 230 16 = .ok (.ifCond .ne 6, 3) := by decide +kernel
theorem d230_19 : fet 230 19 = .ok (.ldc 187, 2) := by decide +kernel
theorem d230_21 : fet 230 21 = .ok (.ireturn, 1) := by decide +kernel
theorem d230_22 : fet 230 22 = .ok (.iconst 0, 1) := by decide +kernel
theorem d230_23 : fet 230 23 = .ok (.istore_n 2, 1) := by decide +kernel
theorem d230_24 : fet 230 24 = .ok (.iload_n 2, 1) := by decide +kernel
theorem d230_25 : fet 230 25 = .ok (.bipush 85, 2) := by decide +kernel
theorem d230_27 : fet 230 27 = .ok (.if_icmp .ge 26, 3) := by decide +kernel
theorem d230_30 : fet 230 30 = .ok (.aload_n 0, 1) := by decide +kernel
theorem d230_31 : fet 230 31 = .ok (.getfield 13, 3) := by decide +kernel
theorem d230_34 : fet 230 34 = .ok (.bipush 85, 2) := by decide +kernel
theorem d230_36 : fet 230 36 = .ok (.iload_n 1, 1) := by decide +kernel
theorem d230_37 : fet 230 37 = .ok (.imul, 1) := by decide +kernel
theorem d230_38 : fet 230 38 = .ok (.iload_n 2, 1) := by decide +kernel
theorem d230_39 : fet 230 39 = .ok (.iadd, 1) := by decide +kernel
theorem d230_40 : fet 230 40 = .ok (.aload_n 0, 1) := by decide +kernel
theorem d230_41 : fet 230 41 = .ok (.getfield 7, 3) := by decide +kernel
theorem d230_44 : fet 230 44 = .ok (.iload_n 2, 1) := by decide +kernel
theorem d230_45 : fet 230 45 = .ok (.iaload, 1) := by decide +kernel
theorem d230_46 : fet 230 46 = .ok (.iastore, 1) := by decide +kernel
theorem d230_47 : fet 230 47 = .ok (.iinc 2 1, 3) := by decide +kernel
theorem d230_50 : fet 230 50 = .ok (.goto (-26), 3) := by decide +kernel
theorem d230_53 : fet 230 53 = .ok (.aload_n 0, 1) := by decide +kernel
theorem d230_54 : fet 230 54 = .ok (.getfield 16, 3) := by decide +kernel
theorem d230_57 : fet 230 57 = .ok (.iload_n 1, 1) := by decide +kernel
theorem d230_58 : fet 230 58 = .ok (.iconst 1, 1) := by decide +kernel
theorem d230_59 : fet 230 59 = .ok (.bastore, 1) := by decide +kernel
theorem d230_60 : fet 230 60 = .ok (.iconst 1, 1) := by decide +kernel
theorem d230_61 : fet 230 61 = .ok (.ireturn, 1) := by decide +kernel
theorem o231 : own 231 = RX12 := by decide +kernel
theorem d231_0 : fet 231 0 = .ok (.iload_n 1, 1) := by decide +kernel
theorem d231_1 : fet 231 1 = .ok (.iconst 0, 1) := by decide +kernel
theorem d231_2 : fet 231 2 = .ok (.iconst 1, 1) := by decide +kernel
theorem d231_3 : fet 231 3 = .ok (.invokestatic 59, 3) := by decide +kernel
theorem d231_6 : fet 231 6 = .ok (.ifCond .ne 6, 3) := by decide +kernel
theorem d231_9 : fet 231 9 = .ok (.ldc 67, 2) := by decide +kernel
theorem d231_11 : fet 231 11 = .ok (.ireturn, 1) := by decide +kernel
theorem d231_12 : fet 231 12 = .ok (.aload_n 0, 1) := by decide +kernel
theorem d231_13 : fet 231 13 = .ok (.getfield 16, 3) := by decide +kernel
theorem d231_16 : fet 231 16 = .ok (.iload_n 1, 1) := by decide +kernel
theorem d231_17 : fet 231 17 = .ok (.baload, 1) := by decide +kernel
theorem d231_18 : fet 231 18 = .ok (.ifCond .ne 6, 3) := by decide +kernel
theorem d231_21 : fet 231 21 = .ok (.ldc 187, 2) := by decide +kernel
theorem d231_23 : fet 231 23 = .ok (.ireturn, 1) := by decide +kernel
theorem d231_24 : fet 231 24 = .ok (.iconst 0, 1) := by decide +kernel
theorem d231_25 : fet 231 25 = .ok (.istore_n 2, 1) := by decide +kernel
theorem d231_26 : fet 231 26 = .ok (.iload_n 2, 1) := by decide +kernel
theorem d231_27 : fet 231 27 = .ok (.bipush 85, 2) := by decide +kernel
theorem d231_29 : fet 231 29 = .ok (.if_icmp .ge 26, 3) := by decide +kernel
theorem d231_32 : fet 231 32 = .ok (.aload_n 0, 1) := by decide +kernel
theorem d231_33 : fet 231 33 = .ok (.getfield 7, 3) := by decide +kernel
theorem d231_36 : fet 231 36 = .ok (.iload_n 2, 1) := by decide +kernel
theorem d231_37 : fet 231 37 = .ok (.aload_n 0, 1) := by decide +kernel
theorem d231_38 : fet 231 38 = .ok (.getfield 13, 3) := by decide +kernel
theorem d231_41 : fet 231 41 = .ok (.bipush 85, 2) := by decide +kernel
theorem d231_43 : fet 231 43 = .ok (.iload_n 1, 1) := by decide +kernel
theorem d231_44 : fet 231 44 = .ok (.imul, 1) := by decide +kernel
theorem d231_45 : fet 231 45 = .ok (.iload_n 2, 1) := by decide +kernel
theorem d231_46 : fet 231 46 = .ok (.iadd, 1) := by decide +kernel
theorem d231_47 : fet 231 47 = .ok (.iaload, 1) := by decide +kernel
theorem d231_48 : fet 231 48 = .ok (.iastore, 1) := by decide +kernel
theorem d231_49 : fet 231 49 = .ok (.iinc 2 1, 3) := by decide +kernel
theorem d231_52 : fet 231 52 = .ok (.goto (-26), 3) := by decide +kernel
theorem d231_55 : fet 231 55 = .ok (.aload_n 0, 1) := by decide +kernel
theorem d231_56 : fet 231 56 = .ok (.iconst 0, 1) := by decide +kernel
theorem d231_57 : fet 231 57 = .ok (.putfield 147, 3) := by decide +kernel
theorem d231_60 : fet 231 60 = .ok (.iconst 1, 1) := by decide +kernel
theorem d231_61 : fet 231 61 = .ok (.ireturn, 1) := by decide +kernel
theorem o232 : own 232 = RX12 := by decide +kernel
theorem d232_0 : fet 232 0 = .ok (.aload_n 0, 1) := by decide +kernel
theorem d232_1 : fet 232 1 = .ok (.iload_n 1, 1) := by decide +kernel
theorem d232_2 : fet 232 2 = .ok (.invokevirtual 194, 3) := by decide +kernel
theorem d232_5 : fet 232 5 = .ok (.ifCond .eq 14, 3) := by decide +kernel
theorem d232_8 : fet 232 8 = .ok (.aload_n 0, 1) := by decide +kernel
theorem d232_9 : fet 232 9 = .ok (.getfield 7, 3) := by decide +kernel
theorem d232_12 : fet 232 12 = .ok (.iconst 5, 1) := by decide +kernel
theorem d232_13 : fet 232 13 = .ok (.iload_n 1, 1) := by decide +kernel
theorem d232_14 : fet 232 14 = .ok (.iadd, 1) := by decide +kernel
theorem d232_15 : fet 232 15 = .ok (.iaload, 1) := by decide +kernel
theorem d232_16 : fet 232 16 = .ok (.goto 5, 3) := by decide +kernel
theorem d232_19 : fet 232 19 = .ok (.ldc 67, 2) := by decide +kernel
theorem d232_21 : fet 232 21 = .ok (.ireturn, 1) := by decide +kernel
theorem o233 : own 233 = RX12 := by decide +kernel
theorem d233_0 : fet 233 0 = .ok (.aload_n 0, 1) := by decide +kernel
theorem d233_1 : fet 233 1 = .ok (.iload_n 1, 1) := by decide +kernel
theorem d233_2 : fet 233 2 = .ok (.invokevirtual 194, 3) := by decide +kernel
theorem d233_5 : fet 233 5 = .ok (.ifCond .eq 12, 3) := by decide +kernel
theorem d233_8 : fet 233 8 = .ok (.iload_n 2, 1) := by decide +kernel
theorem d233_9 : fet 233 9 = .ok (.iconst 0, 1) := by decide +kernel
theorem d233_10 : fet 233 10 = .ok (.iconst 5, 1) := by decide +kernel
theorem d233_11 : fet 233 11 = .ok (.invokestatic 59, 3) := by decide +kernel
theorem d233_14 : fet 233 14 = .ok (.ifCond .ne 6, 3) := by decide +kernel
theorem d233_17 : fet 233 17 = .ok (.ldc 67, 2) := by decide +kernel
theorem d233_19 : fet 233 19 = .ok (.ireturn, 1) := by decide +kernel
theorem d233_20 : fet 233 20 = .ok (.aload_n 0, 1) := by decide +kernel
theorem d233_21 : fet 233 21 = .ok (.getfield 7, 3) := by decide +kernel
theorem d233_24 : fet 233 24 = .ok (.iconst 5, 1) := by decide +kernel
theorem d233_25 : fet 233 25 = .ok (.iload_n 1, 1) := by decide +kernel
theorem d233_26 : fet 233 26 = .ok (.iadd, 1) := by decide +kernel
theorem d233_27 : fet 233 27 = .ok (.iaload, 1) := by decide +kernel
theorem d233_28 : fet 233 28 = .ok (.iload_n 2, 1) := by decide +kernel
theorem d233_29 : fet 233 29 = .ok (.invokestatic 157, 3) := by decide +kernel
theorem d233_32 : fet 233 32 = .ok (.ifCond .eq 11, 3) := by decide +kernel
theorem d233_35 : fet 233 35 = .ok (.aload_n 0, 1) := by decide +kernel
theorem d233_36 : fet 233 36 = .ok (.iload_n 1, 1) := by decide +kernel
theorem d233_37 : fet 233 37 = .ok (.invokevirtual 72, 3) := by decide +kernel
theorem d233_40 : fet 233 40 = .ok (.goto 8, 3) := by decide +kernel
theorem d233_43 : fet 233 43 = .ok (.aload_n 0, 1) := by decide +kernel
theorem d233_44 : fet 233 44 = .ok (.iconst 3, 1) := by decide +kernel
theorem d233_45 : fet 233 45 = .ok (.invokevirtual 68, 3) := by decide +kernel
theorem d233_48 : fet 233 48 = .ok (.ireturn, 1) := by decide +kernel
theorem o234 : own 234 = RX12 := by decide +kernel
theorem d234_0 : fet 234 0 = .ok (.aload_n 0, 1) := by decide +kernel
theorem d234_1 : fet 234 1 = .ok (.getfield 261, 3) := by decide +kernel
theorem d234_4 : fet 234 4 = .ok (.bipush 16, 2) := by decide +kernel
theorem d234_6 : fet 234 6 = .ok (.if_icmp .ge 23, 3) := by decide +kernel
theorem d234_9 : fet 234 9 = .ok (.aload_n 0, 1) := by decide +kernel
theorem d234_10 : fet 234 10 = .ok (.getfield 50, 3) := by decide +kernel
theorem d234_13 : fet 234 13 = .ok (.aload_n 0, 1) := by decide +kernel
theorem d234_14 : fet 234 14 = .ok (.getfield 261, 3) := by decide +kernel
theorem d234_17 : fet 234 17 = .ok (.iload_n 1, 1) := by decide +kernel
theorem d234_18 : fet 234 18 = .ok (.iastore, 1) := by decide +kernel
theorem d234_19 : fet 234 19 = .ok (.aload_n 0, 1) := by decide +kernel
theorem d234_20 : fet 234 20 = .ok (.dup, 1) := by decide +kernel
theorem d234_21 : fet 234 21 = .ok (.getfield 261, 3) := by decide +kernel
theorem d234_24 : fet 234 24 = .ok (.iconst 1, 1) := by decide +kernel
theorem d234_25 : fet 234 25 = .ok (.iadd, 1) := by decide +kernel
theorem d234_26 : fet 234 26 = .ok (.putfield 261, 3) := by decide +kernel
theorem d234_29 : fet 234 29 = .ok (.return_, 1) := by decide +kernel
theorem o235 : own 235 = RX12 := by decide +kernel
theorem d235_0 : fet 235 0 = .ok (.aload_n 0, 1) := by decide +kernel
theorem d235_1 : fet 235 1 = .ok (.bipush 10, 2) := by decide +kernel
theorem d235_3 : fet 235 3 = .ok (.invokevirtual 264, 3) := by decide +kernel
theorem d235_6 : fet 235 6 = .ok (.aload_n 0, 1) := by decide +kernel
theorem d235_7 : fet 235 7 = .ok (.getfield 7, 3) := by decide +kernel
theorem d235_10 : fet 235 10 = .ok (.bipush 51, 2) := by decide +kernel
theorem d235_12 : fet 235 12 = .ok (.iload_n 1, 1) := by decide +kernel
theorem d235_13 : fet 235 13 = .ok (.iadd, 1) := by decide +kernel
theorem d235_14 : fet 235 14 = .ok (.iaload, 1) := by decide +kernel
theorem d235_15 : fet 235 15 = .ok (.ireturn, 1) := by decide +kernel
theorem o236 : own 236 = RX12 := by decide +kernel
theorem d236_0 : fet 236 0 = .ok (.aload_n 0, 1) := by decide +kernel
theorem d236_1 : fet 236 1 = .ok (.bipush 20, 2) := by decide +kernel
theorem d236_3 : fet 236 3 = .ok (.invokevirtual 264, 3) := by decide +kernel
theorem d236_6 : fet 236 6 = .ok (.iload_n 1, 1) := by decide +kernel
theorem d236_7 : fet 236 7 = .ok (.ireturn, 1) := by decide +kernel
theorem o237 : own 237 = RX12 := by decide +kernel
theorem d237_0 : fet 237 0 = .ok (.aload_n 0, 1) := by decide +kernel
theorem d237_1 : fet 237 1 = .ok (.bipush 21, 2) := by decide +kernel
theorem d237_3 : fet 237 3 = .ok (.invokevirtual 264, 3) := by decide +kernel
theorem d237_6 : fet 237 6 = .ok (.aload_n 0, 1) := by decide +kernel
theorem d237_7 : fet 237 7 = .ok (.iload_n 1, 1) := by decide +kernel
theorem d237_8 : fet 237 8 = .ok (.invokevirtual 267, 3) := by decide +kernel
theorem d237_11 : fet 237 11 = .ok (.aload_n 0, 1) := by decide +kernel
theorem d237_12 : fet 237 12 = .ok (.iload_n 1, 1) := by decide +kernel
theorem d237_13 : fet 237 13 = .ok (.invokevirtual 160, 3) := by decide +kernel
theorem d237_16 : fet 237 16 = .ok (.iadd, 1) := by decide +kernel
theorem d237_17 : fet 237 17 = .ok (.ireturn, 1) := by decide +kernel
theorem o238 : own 238 = RX12 := by decide +kernel
theorem d238_0 : fet 238 0 = .ok (.aload_n 0, 1) := by decide +kernel
theorem d238_1 : fet 238 1 = .ok (.getfield 7, 3) := by decide +kernel
theorem d238_4 : fet 238 4 = .ok (.iconst 5, 1) := by decide +kernel
theorem d238_5 : fet 238 5 = .ok (.iload_n 1, 1) := by decide +kernel
theorem d238_6 : fet 238 6 = .ok (.iadd, 1) := by decide +kernel
theorem d238_7 : fet 238 7 = .ok (.iaload, 1) := by decide +kernel
theorem d238_8 : fet 238 8 = .ok (.istore_n 2, 1) := by decide +kernel
theorem d238_9 : fet 238 9 = .ok (.iload_n 2, 1) := by decide +kernel
theorem d238_10 : fet 238 10 = .ok (.iconst 2, 1) := by decide +kernel
theorem d238_11 : fet 238 11 = .ok (.if_icmp .ne 17, 3) := by decide +kernel
theorem d238_14 : fet 238 14 = .ok (.aload_n 0, 1) := by decide +kernel
theorem d238_15 : fet 238 15 = .ok (.bipush 24, 2) := by decide +kernel
theorem d238_17 : fet 238 17 = .ok (.invokevirtual 264, 3) := by decide +kernel
theorem d238_20 : fet 238 20 = .ok (.iconst 2, 1) := by decide +kernel
theorem d238_21 : fet 238 21 = .ok (.aload_n 0, 1) := by decide +kernel
theorem d238_22 : fet 238 22 = .ok (.iload_n 1, 1) := by decide +kernel
theorem d238_23 : fet 238 23 = .ok (.invokevirtual 270, 3) := by decide +kernel
theorem d238_26 : fet 238 26 = .ok (.imul, 1) := by decide +kernel
theorem d238_27 : fet 238 27 = .ok (.ireturn, 1) := by decide +kernel
theorem d238_28 : fet 238 28 = .ok (.iload_n 2, 1) := by decide +kernel
theorem d238_29 : fet 238 29 = .ok (.iconst 3, 1) := by decide +kernel
theorem d238_30 : fet 238 30 = .ok (.if_icmp .ne 19, 3) := by decide +kernel
theorem d238_33 : fet 238 33 = .ok (.aload_n 0, 1) := by decide +kernel
theorem d238_34 : fet 238 34 = .ok (.bipush 22, 2) := by decide +kernel
theorem d238_36 : fet 238 36 = .ok (.invokevirtual 264, 3) := by decide +kernel
theorem d238_39 : fet 238 39 = .ok (.aload_n 0, 1) := by decide +kernel
theorem d238_40 : fet 238 40 = .ok (.iload_n 1, 1) := by decide +kernel
theorem d238_41 : fet 238 41 = .ok (.invokevirtual 270, 3) := by decide +kernel
theorem d238_44 : fet 238 44 = .ok (.sipush 1000, 3) := by decide +kernel
theorem d238_47 : fet 238 47 = .ok (.isub, 1) := by decide +kernel
theorem d238_48 : fet 238 48 = .ok (.ireturn, 1) := by decide +kernel
theorem d238_49 : fet 238 49 = .ok (.aload_n 0, 1) := by decide +kernel
theorem d238_50 : fet 238 50 = .ok (.iload_n 1, 1) := by decide +kernel
theorem d238_51 : fet 238 51 = .ok (.invokevirtual 270, 3) := by decide +kernel
theorem d238_54 : fet 238 54 = .ok (.ireturn, 1) := by decide +kernel
theorem o239 : own 239 = RX12 := by decide +kernel
theorem d239_0 : fet 239 0 = .ok (.aload_n 0, 1) := by decide +kernel
theorem d239_1 : fet 239 1 = .ok (.bipush 11, 2) := by decide +kernel
theorem d239_3 : fet 239 3 = .ok (.invokevirtual 264, 3) := by decide +kernel
theorem d239_6 : fet 239 6 = .ok (.aload_n 0, 1) := by decide +kernel
theorem d239_7 : fet 239 7 = .ok (.iload_n 1, 1) := by decide +kernel
theorem d239_8 : fet 239 8 = .ok (.invokevirtual 273, 3) := by decide +kernel
theorem d239_11 : fet 239 11 = .ok (.istore_n 2, 1) := by decide +kernel
theorem d239_12 : fet 239 12 = .ok (.iload_n 2, 1) := by decide +kernel
theorem d239_13 : fet 239 13 = .ok (.aload_n 0, 1) := by decide +kernel
theorem d239_14 : fet 239 14 = .ok (.iload_n 1, 1) := by decide +kernel
theorem d239_15 : fet 239 15 = .ok (.invokevirtual 276, 3) := by decide +kernel
theorem d239_18 : fet 239 18 = .ok (.iadd, 1) := by decide +kernel
theorem d239_19 : fet 239 19 = .ok (.ireturn, 1) := by decide +kernel
theorem o240 : own 240 = RX12 := by decide +kernel
theorem d240_0 : fet 240 0 = .ok (.aload_n 0, 1) := by decide +kernel
theorem d240_1 : fet 240 1 = .ok (.bipush 13, 2) := by decide +kernel
theorem d240_3 : fet 240 3 = .ok (.invokevirtual 264, 3) := by decide +kernel
theorem d240_6 : fet 240 6 = .ok (.aload_n 0, 1) := by decide +kernel
theorem d240_7 : fet 240 7 = .ok (.iload_n 1, 1) := by decide +kernel
theorem d240_8 : fet 240 8 = .ok (.invokevirtual 273, 3) := by decide +kernel
theorem d240_11 : fet 240 11 = .ok (.bipush 100, 2) := by decide +kernel
theorem d240_13 : fet 240 13 = .ok (.isub, 1) := by decide +kernel
theorem d240_14 : fet 240 14 = .ok (.ireturn, 1) := by decide +kernel
theorem o241 : own 241 = RX12 := by decide +kernel
theorem d241_0 : fet 241 0 = .ok (.aload_n 0, 1) := by decide +kernel
theorem d241_1 : fet 241 1 = .ok (.getfield 7, 3) := by decide +kernel
theorem d241_4 : fet 241 4 = .ok (.iconst 5, 1) := by decide +kernel
theorem d241_5 : fet 241 5 = .ok (.iload_n 1, 1) := by decide +kernel
theorem d241_6 : fet 241 6 = .ok (.iadd, 1) := by decide +kernel
theorem d241_7 : fet 241 7 = .ok (.iaload, 1) := by decide +kernel
theorem d241_8 : fet 241 8 = .ok (.iconst 5, 1) := by decide +kernel
theorem d241_9 : fet 241 9 = .ok (.if_icmp .ne 17, 3) := by decide +kernel
theorem d241_12 : fet 241 12 = .ok (.aload_n 0, 1) := by decide +kernel
theorem d241_13 : fet 241 13 = .ok (.bipush 14, 2) := by decide +kernel
theorem d241_15 : fet 241 15 = .ok (.invokevirtual 264, 3) := by decide +kernel
theorem d241_18 : fet 241 18 = .ok (.iconst 2, 1) := by decide +kernel
theorem d241_19 : fet 241 19 = .ok (.aload_n 0, 1) := by decide +kernel
theorem d241_20 : fet 241 20 = .ok (.iload_n 1, 1) := by decide +kernel
theorem d241_21 : fet 241 21 = .ok (.invokevirtual 279, 3) := by decide +kernel
theorem d241_24 : fet 241 24 = .ok (.imul, 1) := by decide +kernel
theorem d241_25 : fet 241 25 = .ok (.ireturn, 1) := by decide +kernel
theorem d241_26 : fet 241 26 = .ok (.aload_n 0, 1) := by decide +kernel
theorem d241_27 : fet 241 27 = .ok (.iload_n 1, 1) := by decide +kernel
theorem d241_28 : fet 241 28 = .ok (.invokevirtual 279, 3) := by decide +kernel
theorem d241_31 : fet 241 31 = .ok (.ireturn, 1) := by decide +kernel
theorem o242 : own 242 = RX12 := by decide +kernel
theorem d242_0 : fet 242 0 = .ok (.aload_n 0, 1) := by decide +kernel
theorem d242_1 : fet 242 1 = .ok (.getfield 7, 3) := by decide +kernel
theorem d242_4 : fet 242 4 = .ok (.iconst 5, 1) := by decide +kernel
theorem d242_5 : fet 242 5 = .ok (.iload_n 1, 1) := by decide +kernel
theorem d242_6 : fet 242 6 = .ok (.iadd, 1) := by decide +kernel
theorem d242_7 : fet 242 7 = .ok (.iaload, 1) := by decide +kernel
theorem d242_8 : fet 242 8 = .ok (.iconst 4, 1) := by decide +kernel
theorem d242_9 : fet 242 9 = .ok (.iconst 5, 1) := by decide +kernel
theorem d242_10 : fet 242 10 = .ok (.invokestatic 59, 3) := by decide +kernel
theorem d242_13 : fet 242 13 = .ok (.ifCond .eq 9, 3) := by decide +kernel
theorem d242_16 : fet 242 16 = .ok (.aload_n 0, 1) := by decide +kernel
theorem d242_17 : fet 242 17 = .ok (.iload_n 1, 1) := by decide +kernel
theorem d242_18 : fet 242 18 = .ok (.invokevirtual 282, 3) := by decide +kernel
theorem d242_21 : fet 242 21 = .ok (.ireturn, 1) := by decide +kernel
theorem d242_22 : fet 242 22 = .ok (.aload_n 0, 1) := by decide +kernel
theorem d242_23 : fet 242 23 = .ok (.getfield 7, 3) := by decide +kernel
theorem d242_26 : fet 242 26 = .ok (.iconst 5, 1) := by decide +kernel
theorem d242_27 : fet 242 27 = .ok (.iload_n 1, 1) := by decide +kernel
theorem d242_28 : fet 242 28 = .ok (.iadd, 1) := by decide +kernel
theorem d242_29 : fet 242 29 = .ok (.iaload, 1) := by decide +kernel
theorem d242_30 : fet 242 30 = .ok (.iconst 2, 1) := by decide +kernel
theorem d242_31 : fet 242 31 = .ok (.if_icmp .ne 16, 3) := by decide +kernel
theorem d242_34 : fet 242 34 = .ok (.aload_n 0, 1) := by decide +kernel
theorem d242_35 : fet 242 35 = .ok (.bipush 12, 2) := by decide +kernel
theorem d242_37 : fet 242 37 = .ok (.invokevirtual 264, 3) := by decide +kernel
theorem d242_40 : fet 242 40 = .ok (.aload_n 0, 1) := by decide +kernel
theorem d242_41 : fet 242 41 = .ok (.iload_n 1, 1) := by decide +kernel
theorem d242_42 : fet 242 42 = .ok (.invokevirtual 285, 3) := by decide +kernel
theorem d242_45 : fet 242 45 = .ok (.ineg, 1) := by decide +kernel
theorem d242_46 : fet 242 46 = .ok (.ireturn, 1) := by decide +kernel
theorem d242_47 : fet 242 47 = .ok (.aload_n 0, 1) := by decide +kernel
theorem d242_48 : fet 242 48 = .ok (.iload_n 1, 1) := by decide +kernel
theorem d242_49 : fet 242 49 = .ok (.invokevirtual 285, 3) := by decide +kernel
theorem d242_52 : fet 242 52 = .ok (.ireturn, 1) := by decide +kernel
theorem o243 : own 243 = RX12 := by decide +kernel
theorem d243_0 : fet 243 0 = .ok (.aload_n 0, 1) := by decide +kernel
theorem d243_1 : fet 243 1 = .ok (.getfield 7, 3) := by decide +kernel
theorem d243_4 : fet 243 4 = .ok (.iconst 5, 1) := by decide +kernel
theorem d243_5 : fet 243 5 = .ok (.iload_n 1, 1) := by decide +kernel
theorem d243_6 : fet 243 6 = .ok (.iadd, 1) := by decide +kernel
theorem d243_7 : fet 243 7 = .ok (.iaload, 1) := by decide +kernel
theorem d243_8 : fet 243 8 = .ok (.iconst 4, 1) := by decide +kernel
theorem d243_9 : fet 243 9 = .ok (.iconst 5, 1) := by decide +kernel
theorem d243_10 : fet 243 10 = .ok (.invokestatic 59, 3) := by decide +kernel
theorem d243_13 : fet 243 13 = .ok (.ifCond .ne 9, 3) := by decide +kernel
theorem d243_16 : fet 243 16 = .ok (.aload_n 0, 1) := by decide +kernel
theorem d243_17 : fet 243 17 = .ok (.iload_n 1, 1) := by decide +kernel
theorem d243_18 : fet 243 18 = .ok (.invokevirtual 276, 3) := by decide +kernel
theorem d243_21 : fet 243 21 = .ok (.ireturn, 1) := by decide +kernel
theorem d243_22 : fet 243 22 = .ok (.aload_n 0, 1) := by decide +kernel
theorem d243_23 : fet 243 23 = .ok (.bipush 23, 2) := by decide +kernel
theorem d243_25 : fet 243 25 = .ok (.invokevirtual 264, 3) := by decide +kernel
theorem d243_28 : fet 243 28 = .ok (.aload_n 0, 1) := by decide +kernel
theorem d243_29 : fet 243 29 = .ok (.iload_n 1, 1) := by decide +kernel
theorem d243_30 : fet 243 30 = .ok (.invokevirtual 267, 3) := by decide +kernel
theorem d243_33 : fet 243 33 = .ok (.istore_n 2, 1) := by decide +kernel
theorem d243_34 : fet 243 34 = .ok (.iload_n 2, 1) := by decide +kernel
theorem d243_35 : fet 243 35 = .ok (.aload_n 0, 1) := by decide +kernel
theorem d243_36 : fet 243 36 = .ok (.iload_n 1, 1) := by decide +kernel
theorem d243_37 : fet 243 37 = .ok (.invokevirtual 282, 3) := by decide +kernel
theorem d243_40 : fet 243 40 = .ok (.isub, 1) := by decide +kernel
theorem d243_41 : fet 243 41 = .ok (.ireturn, 1) := by decide +kernel
theorem o244 : own 244 = RX12 := by decide +kernel
theorem d244_0 : fet 244 0 = .ok (.aload_n 0, 1) := by decide +kernel
theorem d244_1 : fet 244 1 = .ok (.iload_n 1, 1) := by decide +kernel
theorem d244_2 : fet 244 2 = .ok (.invokevirtual 194, 3) := by decide +kernel
theorem d244_5 : fet 244 5 = .ok (.ifCond .eq 12, 3) := by decide +kernel
theorem d244_8 : fet 244 8 = .ok (.iload_n 2, 1) := by decide +kernel
theorem d244_9 : fet 244 9 = .ok (.iconst 0, 1) := by decide +kernel
theorem d244_10 : fet 244 10 = .ok (.iconst 1, 1) := by decide +kernel
theorem d244_11 : fet 244 11 = .ok (.invokestatic 59, 3) := by decide +kernel
theorem d244_14 : fet 244 14 = .ok (.ifCond .ne 6, 3) := by decide +kernel
theorem d244_17 : fet 244 17 = .ok (.ldc 67, 2) := by decide +kernel
theorem d244_19 : fet 244 19 = .ok (.ireturn, 1) := by decide +kernel
theorem d244_20 : fet 244 20 = .ok (.aload_n 0, 1) := by decide +kernel
theorem d244_21 : fet 244 21 = .ok (.iconst 0, 1) := by decide +kernel
theorem d244_22 : fet 244 22 = .ok (.putfield 261, 3) := by decide +kernel
theorem d244_25 : fet 244 25 = .ok (.iload_n 2, 1) := by decide +kernel
theorem d244_26 : fet 244 26 = .ok (.ifCond .ne 11, 3) := by decide +kernel
theorem d244_29 : fet 244 29 = .ok (.aload_n 0, 1) := by decide +kernel
theorem d244_30 : fet 244 30 = .ok (.iload_n 1, 1) := by decide +kernel
theorem d244_31 : fet 244 31 = .ok (.invokevirtual 288, 3) := by decide +kernel
theorem d244_34 : fet 244 34 = .ok (.goto 8, 3) := by decide +kernel
theorem d244_37 : fet 244 37 = .ok (.aload_n 0, 1) := by decide +kernel
theorem d244_38 : fet 244 38 = .ok (.iload_n 1, 1) := by decide +kernel
theorem d244_39 : fet 244 39 = .ok (.invokevirtual 291, 3) := by decide +kernel
theorem d244_42 : fet 244 42 = .ok (.ireturn, 1) := by decide +kernel
theorem o245 : own 245 = RX12 := by decide +kernel
theorem d245_0 : fet 245 0 = .ok (.iload_n 1, 1) := by decide +kernel
theorem d245_1 : fet 245 1 = .ok (.iconst 0, 1) := by decide +kernel
theorem d245_2 : fet 245 2 = .ok (.aload_n 0, 1) := by decide +kernel
theorem d245_3 : fet 245 3 = .ok (.getfield 261, 3) := by decide +kernel
theorem d245_6 : fet 245 6 = .ok (.iconst 1, 1) := by decide +kernel
theorem d245_7 : fet 245 7 = .ok (.isub, 1) := by decide +kernel
theorem d245_8 : fet 245 8 = .ok (.invokestatic 59, 3) := by decide +kernel
theorem d245_11 : fet 245 11 = .ok (.ifCond .eq 12, 3) := by decide +kernel
theorem d245_14 : fet 245 14 = .ok (.aload_n 0, 1) := by decide +kernel
theorem d245_15 : fet 245 15 = .ok (.getfield 50, 3) := by decide +kernel
theorem d245_18 : fet 245 18 = .ok (.iload_n 1, 1) := by decide +kernel
theorem d245_19 : fet 245 19 = .ok (.iaload, 1) := by decide +kernel
theorem d245_20 : fet 245 20 = .ok (.goto 5, 3) := by decide +kernel
theorem d245_23 : fet 245 23 = .ok (.ldc 53, 2) := by decide +kernel
theorem d245_25 : fet 245 25 = .ok (.ireturn, 1) := by decide +kernel
theorem o246 : own 246 = RX12 := by decide +kernel
theorem d246_0 : fet 246 0 = .ok (.iconst 0, 1) := by decide +kernel
theorem d246_1 : fet 246 1 = .ok (.istore_n 2, 1) := by decide +kernel
theorem d246_2 : fet 246 2 = .ok (.iconst 0, 1) := by decide +kernel
theorem d246_3 : fet 246 3 = .ok (.istore_n 3, 1) := by decide +kernel
theorem d246_4 : fet 246 4 = .ok (.iload_n 3, 1) := by decide +kernel
theorem d246_5 : fet 246 5 = .ok (.bipush 8, 2) := by decide +kernel
theorem d246_7 : fet 246 7 = .ok (.if_icmp .ge 28, 3) := by decide +kernel
theorem d246_10 : fet 246 10 = .ok (.iload_n 2, 1) := by decide +kernel
theorem d246_11 : fet 246 11 = .ok (.aload_n 0, 1) := by decide +kernel
theorem d246_12 : fet 246 12 = .ok (.getfield 23, 3) := by decide +kernel
theorem d246_15 : fet 246 15 = .ok (.iload_n 3, 1) := by decide +kernel
theorem d246_16 : fet 246 16 = .ok (.iaload, 1) := by decide +kernel
theorem d246_17 : fet 246 17 = .ok (.ldc 53, 2) := by decide +kernel
theorem d246_19 : fet 246 19 = .ok (.if_icmp .ne 7, 3) := by decide +kernel
theorem d246_22 : fet 246 22 = .ok (.iconst 0, 1) := by decide +kernel
theorem d246_23 : fet 246 23 = .ok (.goto 4, 3) := by decide +kernel
theorem d246_26 : fet 246 26 = .ok (.iconst 1, 1) := by decide +kernel
theorem d246_27 : fet 246 27 = .ok (.iadd, 1) := by decide +kernel
theorem d246_28 : fet 246 28 = .ok (.istore_n 2, 1) := by decide +kernel
theorem d246_29 : fet 246 29 = .ok (.iinc 3 1, 3) := by decide +kernel
theorem d246_32 : fet 246 32 = .ok (.goto (-28), 3) := by decide +kernel
theorem d246_35 : fet 246 35 = .ok (.iload_n 1, 1) := by decide +kernel
theorem d246_36 : fet 246 36 = .ok (.tableswitch 104 0 8 #[52, 54, 61, 69, 76, 84, 89, 94, 99], 52) := by decide +kernel
theorem d246_88 : fet 246 88 = .ok (.iload_n 2, 1) := by decide +kernel
theorem d246_89 : fet 246 89 = .ok (.ireturn, 1) := by decide +kernel
theorem d246_90 : fet 246 90 = .ok (.aload_n 0, 1) := by decide +kernel
theorem d246_91 : fet 246 91 = .ok (.getfield 7, 3) := by decide +kernel
theorem d246_94 : fet 246 94 = .ok (.iconst 1, 1) := by decide +kernel
theorem d246_95 : fet 246 95 = .ok (.iaload, 1) := by decide +kernel
theorem d246_96 : fet 246 96 = .ok (.ireturn, 1) := by decide +kernel
theorem d246_97 : fet 246 97 = .ok (.aload_n 0, 1) := by decide +kernel
theorem d246_98 : fet 246 98 = .ok (.getfield 7, 3) := by decide +kernel
theorem d246_101 : fet 246 101 = .ok (.bipush 20, 2) := by decide +kernel
theorem d246_103 : fet 246 103 = .ok (.iaload, 1) := by decide +kernel
theorem d246_104 : fet 246 104 = .ok (.ireturn, 1) := by decide +kernel
theorem d246_105 : fet 246 105 = .ok (.aload_n 0, 1) := by decide +kernel
theorem d246_106 : fet 246 106 = .ok (.getfield 7, 3) := by decide +kernel
theorem d246_109 : fet 246 109 = .ok (.iconst 2, 1) := by decide +kernel
theorem d246_110 : fet 246 110 = .ok (.iaload, 1) := by decide +kernel
theorem d246_111 : fet 246 111 = .ok (.ireturn, 1) := by decide +kernel
theorem d246_112 : fet 246 112 = .ok (.aload_n 0, 1) := by decide +kernel
theorem d246_113 : fet 246 113 = .ok (.getfield 7, 3) := by decide +kernel
theorem d246_116 : fet 246 116 = .ok (.bipush 19, 2) := by decide +kernel
theorem d246_118 : fet 246 118 = .ok (.iaload, 1) := by decide +kernel
theorem d246_119 : fet 246 119 = .ok (.ireturn, 1) := by decide +kernel
theorem d246_120 : fet 246 120 = .ok (.aload_n 0, 1) := by decide +kernel
theorem d246_121 : fet 246 121 = .ok (.invokevirtual 213, 3) := by decide +kernel
theorem d246_124 : fet 246 124 = .ok (.ireturn, 1) := by decide +kernel
theorem d246_125 : fet 246 125 = .ok (.aload_n 0, 1) := by decide +kernel
theorem d246_126 : fet 246 126 = .ok (.invokevirtual 258, 3) := by decide +kernel
theorem d246_129 : fet 246 129 = .ok (.ireturn, 1) := by decide +kernel
theorem d246_130 : fet 246 130 = .ok (.aload_n 0, 1) := by decide +kernel
theorem d246_131 : fet 246 131 = .ok (.getfield 147, 3) := by decide +kernel
theorem d246_134 : fet 246 134 = .ok (.ireturn, 1) := by decide +kernel
theorem d246_135 : fet 246 135 = .ok (.aload_n 0, 1) := by decide +kernel
theorem d246_136 : fet 246 136 = .ok (.getfield 78, 3) := by decide +kernel
theorem d246_139 : fet 246 139 = .ok (.ireturn, 1) := by decide +kernel
theorem d246_140 : fet 246 140 = .ok (.ldc 67, 2) := by decide +kernel
theorem d246_142 : fet 246 142 = .ok (.ireturn, 1) := by decide +kernel
theorem o247 : own 247 = RX12 := by decide +kernel
theorem d247_0 : fet 247 0 = .ok (.aload_n 0, 1) := by decide +kernel
theorem d247_1 : fet 247 1 = .ok (.getfield 54, 3) := by decide +kernel
theorem d247_4 : fet 247 4 = .ok (.ireturn, 1) := by decide +kernel
theorem o248 : own 248 = RJ6 := by decide +kernel
theorem d248_0 : fet 248 0 = .ok (.iload_n 0, 1) := by decide +kernel
theorem d248_1 : fet 248 1 = .ok (.iload_n 0, 1) := by decide +kernel
theorem d248_2 : fet 248 2 = .ok (.iconst 1, 1) := by decide +kernel
theorem d248_3 : fet 248 3 = .ok (.iushr, 1) := by decide +kernel
theorem d248_4 : fet 248 4 = .ok (.ldc_w 265, 3) := by decide +kernel
theorem d248_7 : fet 248 7 = .ok (.iand, 1) := by decide +kernel
theorem d248_8 : fet 248 8 = .ok (.isub, 1) := by decide +kernel
theorem d248_9 : fet 248 9 = .ok (.istore_n 0, 1) := by decide +kernel
theorem d248_10 : fet 248 10 = .ok (.iload_n 0, 1) := by decide +kernel
theorem d248_11 : fet 248 11 = .ok (.ldc_w 266, 3) := by decide +kernel
theorem d248_14 : fet 248 14 = .ok (.iand, 1) := by decide +kernel
theorem d248_15 : fet 248 15 = .ok (.iload_n 0, 1) := by decide +kernel
theorem d248_16 : fet 248 16 = .ok (.iconst 2, 1) := by decide +kernel
theorem d248_17 : fet 248 17 = .ok (.iushr, 1) := by decide +kernel
theorem d248_18 : fet 248 18 = .ok (.ldc_w 266, 3) := by decide +kernel
theorem d248_21 : fet 248 21 = .ok (.iand, 1) := by decide +kernel
theorem d248_22 : fet 248 22 = .ok (.iadd, 1) := by decide +kernel
theorem d248_23 : fet 248 23 = .ok (.istore_n 0, 1) := by decide +kernel
theorem d248_24 : fet 248 24 = .ok (.iload_n 0, 1) := by decide +kernel
theorem d248_25 : fet 248 25 = .ok (.iload_n 0, 1) := by decide +kernel
theorem d248_26 : fet 248 26 = .ok (.iconst 4, 1) := by decide +kernel
theorem d248_27 : fet 248 27 = .ok (.iushr, 1) := by decide +kernel
theorem d248_28 : fet 248 28 = .ok (.iadd, 1) := by decide +kernel
theorem d248_29 : fet 248 29 = .ok (.ldc_w 267, 3) := by decide +kernel
theorem d248_32 : fet 248 32 = .ok (.iand, 1) := by decide +kernel
theorem d248_33 : fet 248 33 = .ok (.istore_n 0, 1) := by decide +kernel
theorem d248_34 : fet 248 34 = .ok (.iload_n 0, 1) := by decide +kernel
theorem d248_35 : fet 248 35 = .ok (.iload_n 0, 1) := by decide +kernel
theorem d248_36 : fet 248 36 = .ok (.bipush 8, 2) := by decide +kernel
theorem d248_38 : fet 248 38 = .ok (.iushr, 1) := by decide +kernel
theorem d248_39 : fet 248 39 = .ok (.iadd, 1) := by decide +kernel
theorem d248_40 : fet 248 40 = .ok (.istore_n 0, 1) := by decide +kernel
theorem d248_41 : fet 248 41 = .ok (.iload_n 0, 1) := by decide +kernel
theorem d248_42 : fet 248 42 = .ok (.iload_n 0, 1) := by decide +kernel
theorem d248_43 : fet 248 43 = .ok (.bipush 16, 2) := by decide +kernel
theorem d248_45 : fet 248 45 = .ok (.iushr, 1) := by decide +kernel
theorem d248_46 : fet 248 46 = .ok (.iadd, 1) := by decide +kernel
theorem d248_47 : fet 248 47 = .ok (.istore_n 0, 1) := by decide +kernel
theorem d248_48 : fet 248 48 = .ok (.iload_n 0, 1) := by decide +kernel
theorem d248_49 : fet 248 49 = .ok (.bipush 63, 2) := by decide +kernel
theorem d248_51 : fet 248 51 = .ok (.iand, 1) := by decide +kernel
theorem d248_52 : fet 248 52 = .ok (.ireturn, 1) := by decide +kernel
theorem o249 : own 249 = RJ9 := by decide +kernel
theorem d249_0 : fet 249 0 = .ok (.iload_n 0, 1) := by decide +kernel
theorem d249_1 : fet 249 1 = .ok (.ifCond .ge 8, 3) := by decide +kernel
theorem d249_4 : fet 249 4 = .ok (.iload_n 0, 1) := by decide +kernel
theorem d249_5 : fet 249 5 = .ok (.ineg, 1) := by decide +kernel
theorem d249_6 : fet 249 6 = .ok (.goto 4, 3) := by decide +kernel
theorem d249_9 : fet 249 9 = .ok (.iload_n 0, 1) := by decide +kernel
theorem d249_10 : fet 249 10 = .ok (.ireturn, 1) := by decide +kernel
theorem o250 : own 250 = RJ9 := by decide +kernel
theorem d250_0 : fet 250 0 = .ok (.iload_n 0, 1) := by decide +kernel
theorem d250_1 : fet 250 1 = .ok (.iload_n 1, 1) := by decide +kernel
theorem d250_2 : fet 250 2 = .ok (.if_icmp .lt 7, 3) := by decide +kernel
theorem d250_5 : fet 250 5 = .ok (.iload_n 0, 1) := by decide +kernel
theorem d250_6 : fet 250 6 = .ok (.goto 4, 3) := by decide +kernel
theorem d250_9 : fet 250 9 = .ok (.iload_n 1, 1) := by decide +kernel
theorem d250_10 : fet 250 10 = .ok (.ireturn, 1) := by decide +kernel
theorem o251 : own 251 = RJ9 := by decide +kernel
theorem d251_0 : fet 251 0 = .ok (.iload_n 0, 1) := by decide +kernel
theorem d251_1 : fet 251 1 = .ok (.iload_n 1, 1) := by decide +kernel
theorem d251_2 : fet 251 2 = .ok (.if_icmp .gt 7, 3) := by decide +kernel
theorem d251_5 : fet 251 5 = .ok (.iload_n 0, 1) := by decide +kernel
theorem d251_6 : fet 251 6 = .ok (.goto 4, 3) := by decide +kernel
theorem d251_9 : fet 251 9 = .ok (.iload_n 1, 1) := by decide +kernel
theorem d251_10 : fet 251 10 = .ok (.ireturn, 1) := by decide +kernel
theorem o252 : own 252 = RL := by decide +kernel
theorem d252_0 : fet 252 0 = .ok (.new 7, 3) := by decide +kernel
theorem d252_3 : fet 252 3 = .ok (.dup, 1) := by decide +kernel
theorem d252_4 : fet 252 4 = .ok (.invokespecial 9, 3) := by decide +kernel
theorem d252_7 : fet 252 7 = .ok (.astore_n 1, 1) := by decide +kernel
theorem d252_8 : fet 252 8 = .ok (.new 10, 3) := by decide +kernel
theorem d252_11 : fet 252 11 = .ok (.dup, 1) := by decide +kernel
theorem d252_12 : fet 252 12 = .ok (.invokespecial 12, 3) := by decide +kernel
theorem d252_15 : fet 252 15 = .ok (.astore_n 2, 1) := by decide +kernel
theorem d252_16 : fet 252 16 = .ok (.iconst 0, 1) := by decide +kernel
theorem d252_17 : fet 252 17 = .ok (.istore_n 3, 1) := by decide +kernel
theorem d252_18 : fet 252 18 = .ok (.iload_n 3, 1) := by decide +kernel
theorem d252_19 : fet 252 19 = .ok (.aload_n 0, 1) := by decide +kernel
theorem d252_20 : fet 252 20 = .ok (.arraylength, 1) := by decide +kernel
theorem d252_21 : fet 252 21 = .ok (.bipush 6, 2) := by decide +kernel
theorem d252_23 : fet 252 23 = .ok (.isub, 1) := by decide +kernel
theorem d252_24 : fet 252 24 = .ok (.if_icmp .gt 1286, 3) := by decide +kernel
theorem d252_27 : fet 252 27 = .ok (.aload_n 0, 1) := by decide +kernel
theorem d252_28 : fet 252 28 = .ok (.iload_n 3, 1) := by decide +kernel
theorem d252_29 : fet 252 29 = .ok (.iaload, 1) := by decide +kernel
theorem d252_30 : fet 252 30 = .ok (.bipush 63, 2) := by decide +kernel
theorem d252_32 : fet 252 32 = .ok (.iand, 1) := by decide +kernel
theorem d252_33 : fet 252 33 = .ok (.tableswitch 1271 0 37 #[167, 210, 253, 316, 339, 362, 375, 388, 411, 434, 467, 500, 513, 546, 559, 592, 625, 658, 681, 724, 757, 780, 803, 836, 879, 922, 955, 988, 1021, 1064, 1077, 1100, 1123, 1146, 1179, 1212, 1235, 1258], 167) := by decide +kernel
theorem d252_200 : fet 252 200 = .ok (.aload_n 1, 1) := by decide +kernel
theorem d252_201 : fet 252 201 = .ok (.aload_n 0, 1) := by decide +kernel
theorem d252_202 : fet 252 202 = .ok (.iload_n 3, 1) := by decide +kernel
theorem d252_203 : fet 252 203 = .ok (.iconst 1, 1) := by decide +kernel
theorem d252_204 : fet 252 204 = .ok (.iadd, 1) := by decide +kernel
theorem d252_205 : fet 252 205 = .ok (.iaload, 1) := by decide +kernel
theorem d252_206 : fet 252 206 = .ok (.aload_n 0, 1) := by decide +kernel
theorem d252_207 : fet 252 207 = .ok (.iload_n 3, 1) := by decide +kernel
theorem d252_208 : fet 252 208 = .ok (.iconst 2, 1) := by decide +kernel
theorem d252_209 : fet 252 209 = .ok (.iadd, 1) := by decide +kernel
theorem d252_210 : fet 252 210 = .ok (.iaload, 1) := by decide +kernel
theorem d252_211 : fet 252 211 = .ok (.aload_n 0, 1) := by decide +kernel
theorem d252_212 : fet 252 212 = .ok (.iload_n 3, 1) := by decide +kernel
theorem d252_213 : fet 252 213 = .ok (.iconst 3, 1) := by decide +kernel
theorem d252_214 : fet 252 214 = .ok (.iadd, 1) := by decide +kernel
theorem d252_215 : fet 252 215 = .ok (.iaload, 1) := by decide +kernel
theorem d252_216 : fet 252 216 = .ok (.invokevirtual 13, 3) := by decide +kernel
theorem d252_219 : fet 252 219 = .ok (.aload_n 2, 1) := by decide +kernel
theorem d252_220 : fet 252 220 = .ok (.aload_n 0, 1) := by decide +kernel
theorem d252_221 : fet 252 221 = .ok (.iload_n 3, 1) := by decide +kernel
theorem d252_222 : fet 252 222 = .ok (.iconst 1, 1) := by decide +kernel
theorem d252_223 : fet 252 223 = .ok (.iadd, 1) := by decide +kernel
theorem d252_224 : fet 252 224 = .ok (.iaload, 1) := by decide +kernel
theorem d252_225 : fet 252 225 = .ok (.aload_n 0, 1) := by decide +kernel
theorem d252_226 : fet 252 226 = .ok (.iload_n 3, 1) := by decide +kernel
theorem d252_227 : fet 252 227 = .ok (.iconst 2, 1) := by decide +kernel
theorem d252_228 : fet 252 228 = .ok (.iadd, 1) := by decide +kernel
theorem d252_229 : fet 252 229 = .ok (.iaload, 1) := by decide +kernel
theorem d252_230 : fet 252 230 = .ok (.aload_n 0, 1) := by decide +kernel
theorem d252_231 : fet 252 231 = .ok (.iload_n 3, 1) := by decide +kernel
theorem d252_232 : fet 252 232 = .ok (.iconst 3, 1) := by decide +kernel
theorem d252_233 : fet 252 233 = .ok (.iadd, 1) := by decide +kernel
theorem d252_234 : fet 252 234 = .ok (.iaload, 1) := by decide +kernel
theorem d252_235 : fet 252 235 = .ok (.invokevirtual 17, 3) := by decide +kernel
theorem d252_238 : fet 252 238 = .ok (.if_icmp .eq 1066, 3) := by decide +kernel
theorem d252_241 : fet 252 241 = .ok (.iconst 0, 1) := by decide +kernel
theorem d252_242 : fet 252 242 = .ok (.ireturn, 1) := by decide +kernel
theorem d252_243 : fet 252 243 = .ok (.aload_n 1, 1) := by decide +kernel
theorem d252_244 : fet 252 244 = .ok (.aload_n 0, 1) := by decide +kernel
theorem d252_245 : fet 252 245 = .ok (.iload_n 3, 1) := by decide +kernel
theorem d252_246 : fet 252 246 = .ok (.iconst 1, 1) := by decide +kernel
theorem d252_247 : fet 252 247 = .ok (.iadd, 1) := by decide +kernel
theorem d252_248 : fet 252 248 = .ok (.iaload, 1) := by decide +kernel
theorem d252_249 : fet 252 249 = .ok (.aload_n 0, 1) := by decide +kernel
theorem d252_250 : fet 252 250 = .ok (.iload_n 3, 1) := by decide +kernel
theorem d252_251 : fet 252 251 = .ok (.iconst 2, 1) := by decide +kernel
theorem d252_252 : fet 252 252 = .ok (.iadd, 1) := by decide +kernel
theorem d252_253 : fet 252 253 = .ok (.iaload, 1) := by decide +kernel
theorem d252_254 : fet 252 254 = .ok (.aload_n 0, 1) := by decide +kernel
theorem d252_255 : fet 252 255 = .ok (.iload_n 3, 1) := by decide +kernel
theorem d252_256 : fet 252 256 = .ok (.iconst 3, 1) := by decide +kernel
theorem d252_257 : fet 252 257 = .ok (.iadd, 1) := by decide +kernel
theorem d252_258 : fet 252 258 = .ok (.iaload, 1) := by decide +kernel
theorem d252_259 : fet 252 259 = .ok (.invokevirtual 18, 3) := by decide +kernel
theorem d252_262 : fet 252 262 = .ok (.aload_n 2, 1) := by decide +kernel
theorem d252_263 : fet 252 263 = .ok (.aload_n 0, 1) := by decide +kernel
theorem d252_264 : fet 252 264 = .ok (.iload_n 3, 1) := by decide +kernel
theorem d252_265 : fet 252 265 = .ok (.iconst 1, 1) := by decide +kernel
theorem d252_266 : fet 252 266 = .ok (.iadd, 1) := by decide +kernel
theorem d252_267 : fet 252 267 = .ok (.iaload, 1) := by decide +kernel
theorem d252_268 : fet 252 268 = .ok (.aload_n 0, 1) := by decide +kernel
theorem d252_269 : fet 252 269 = .ok (.iload_n 3, 1) := by decide +kernel
theorem d252_270 : fet 252 270 = .ok (.iconst 2, 1) := by decide +kernel
theorem d252_271 : fet 252 271 = .ok (.iadd, 1) := by decide +kernel
theorem d252_272 : fet 252 272 = .ok (.iaload, 1) := by decide +kernel
theorem d252_273 : fet 252 273 = .ok (.aload_n 0, 1) := by decide +kernel
theorem d252_274 : fet 252 274 = .ok (.iload_n 3, 1) := by decide +kernel
theorem d252_275 : fet 252 275 = .ok (.iconst 3, 1) := by decide +kernel
theorem d252_276 : fet 252 276 = .ok (.iadd, 1) := by decide +kernel
theorem d252_277 : fet 252 277 = .ok (.iaload, 1) := by decide +kernel
theorem d252_278 : fet 252 278 = .ok (.invokevirtual 21, 3) := by decide +kernel
theorem d252_281 : fet 252 281 = .ok (.if_icmp .eq 1023, 3) := by decide +kernel
theorem d252_284 : fet 252 284 = .ok (.iconst 0, 1) := by decide +kernel
theorem d252_285 : fet 252 285 = .ok (.ireturn, 1) := by decide +kernel
theorem d252_286 : fet 252 286 = .ok (.aload_n 1, 1) := by decide +kernel
theorem d252_287 : fet 252 287 = .ok (.aload_n 0, 1) := by decide +kernel
theorem d252_288 : fet 252 288 = .ok (.iload_n 3, 1) := by decide +kernel
theorem d252_289 : fet 252 289 = .ok (.iconst 1, 1) := by decide +kernel
theorem d252_290 : fet 252 290 = .ok (.iadd, 1) := by decide +kernel
theorem d252_291 : fet 252 291 = .ok (.iaload, 1) := by decide +kernel
theorem d252_292 : fet 252 292 = .ok (.aload_n 0, 1) := by decide +kernel
theorem d252_293 : fet 252 293 = .ok (.iload_n 3, 1) := by decide +kernel
theorem d252_294 : fet 252 294 = .ok (.iconst 2, 1) := by decide +kernel
theorem d252_295 : fet 252 295 = .ok (.iadd, 1) := by decide +kernel
theorem d252_296 : fet 252 296 = .ok (.iaload, 1) := by decide +kernel
theorem d252_297 : fet 252 297 = .ok (.aload_n 0, 1) := by decide +kernel
theorem d252_298 : fet 252 298 = .ok (.iload_n 3, 1) := by decide +kernel
theorem d252_299 : fet 252 299 = .ok (.iconst 3, 1) := by decide +kernel
theorem d252_300 : fet 252 300 = .ok (.iadd, 1) := by decide +kernel
theorem d252_301 : fet 252 301 = .ok (.iaload, 1) := by decide +kernel
theorem d252_302 : fet 252 302 = .ok (.aload_n 0, 1) := by decide +kernel
theorem d252_303 : fet 252 303 = .ok (.iload_n 3, 1) := by decide +kernel
theorem d252_304 : fet 252 304 = .ok (.iconst 4, 1) := by decide +kernel
theorem d252_305 : fet 252 305 = .ok (.iadd, 1) := by decide +kernel
theorem d252_306 : fet 252 306 = .ok (.iaload, 1) := by decide +kernel
theorem d252_307 : fet 252 307 = .ok (.aload_n 0, 1) := by decide +kernel
theorem d252_308 : fet 252 308 = .ok (.iload_n 3, 1) := by decide +kernel
theorem d252_309 : fet 252 309 = .ok (.iconst 5, 1) := by decide +kernel
theorem d252_310 : fet 252 310 = .ok (.iadd, 1) := by decide +kernel
theorem d252_311 : fet 252 311 = .ok (.iaload, 1) := by decide +kernel
theorem d252_312 : fet 252 312 = .ok (.invokevirtual 22, 3) := by decide +kernel
theorem d252_315 : fet 252 315 = .ok (.aload_n 2, 1) := by decide +kernel
theorem d252_316 : fet 252 316 = .ok (.aload_n 0, 1) := by decide +kernel
theorem d252_317 : fet 252 317 = .ok (.iload_n 3, 1) := by decide +kernel
theorem d252_318 : fet 252 318 = .ok (.iconst 1, 1) := by decide +kernel
theorem d252_319 : fet 252 319 = .ok (.iadd, 1) := by decide +kernel
theorem d252_320 : fet 252 320 = .ok (.iaload, 1) := by decide +kernel
theorem d252_321 : fet 252 321 = .ok (.aload_n 0, 1) := by decide +kernel
theorem d252_322 : fet 252 322 = .ok (.iload_n 3, 1) := by decide +kernel
theorem d252_323 : fet 252 323 = .ok (.iconst 2, 1) := by decide +kernel
theorem d252_324 : fet 252 324 = .ok (.iadd, 1) := by decide +kernel
theorem d252_325 : fet 252 325 = .ok (.iaload, 1) := by decide +kernel
theorem d252_326 : fet 252 326 = .ok (.aload_n 0, 1) := by decide +kernel
theorem d252_327 : fet 252 327 = .ok (.iload_n 3, 1) := by decide +kernel
theorem d252_328 : fet 252 328 = .ok (.iconst 3, 1) := by decide +kernel
theorem d252_329 : fet 252 329 = .ok (.iadd, 1) := by decide +kernel
theorem d252_330 : fet 252 330 = .ok (.iaload, 1) := by decide +kernel
theorem d252_331 : fet 252 331 = .ok (.aload_n 0, 1) := by decide +kernel
theorem d252_332 : fet 252 332 = .ok (.iload_n 3, 1) := by decide +kernel
theorem d252_333 : fet 252 333 = .ok (.iconst 4, 1) := by decide +kernel
theorem d252_334 : fet 252 334 = .ok (.iadd, 1) := by decide +kernel
theorem d252_335 : fet 252 335 = .ok (.iaload, 1) := by decide +kernel
theorem d252_336 : fet 252 336 = .ok (.aload_n 0, 1) := by decide +kernel
theorem d252_337 : fet 252 337 = .ok (.iload_n 3, 1) := by decide +kernel
theorem d252_338 : fet 252 338 = .ok (.iconst 5, 1) := by decide +kernel
theorem d252_339 : fet 252 339 = .ok (.iadd, 1) := by decide +kernel
theorem d252_340 : fet 252 340 = .ok (.iaload, 1) := by decide +kernel
theorem d252_341 : fet 252 341 = .ok (.invokevirtual 26, 3) := by decide +kernel
theorem d252_344 : fet 252 344 = .ok (.if_icmp .eq 960, 3) := by decide +kernel
theorem d252_347 : fet 252 347 = .ok (.iconst 0, 1) := by decide +kernel
theorem d252_348 : fet 252 348 = .ok (.ireturn, 1) := by decide +kernel
theorem d252_349 : fet 252 349 = .ok (.aload_n 1, 1) := by decide +kernel
theorem d252_350 : fet 252 350 = .ok (.aload_n 0, 1) := by decide +kernel
theorem d252_351 : fet 252 351 = .ok (.iload_n 3, 1) := by decide +kernel
theorem d252_352 : fet 252 352 = .ok (.iconst 1, 1) := by decide +kernel
theorem d252_353 : fet 252 353 = .ok (.iadd, 1) := by decide +kernel
theorem d252_354 : fet 252 354 = .ok (.iaload, 1) := by decide +kernel
theorem d252_355 : fet 252 355 = .ok (.invokevirtual 27, 3) := by decide +kernel
theorem d252_358 : fet 252 358 = .ok (.aload_n 2, 1) := by decide +kernel
theorem d252_359 : fet 252 359 = .ok (.aload_n 0, 1) := by decide +kernel
theorem d252_360 : fet 252 360 = .ok (.iload_n 3, 1) := by decide +kernel
theorem d252_361 : fet 252 361 = .ok (.iconst 1, 1) := by decide +kernel
theorem d252_362 : fet 252 362 = .ok (.iadd, 1) := by decide +kernel
theorem d252_363 : fet 252 363 = .ok (.iaload, 1) := by decide +kernel
theorem d252_364 : fet 252 364 = .ok (.invokevirtual 31, 3) := by decide +kernel
theorem d252_367 : fet 252 367 = .ok (.if_icmp .eq 937, 3) := by decide +kernel
theorem d252_370 : fet 252 370 = .ok (.iconst 0, 1) := by decide +kernel
theorem d252_371 : fet 252 371 = .ok (.ireturn, 1) := by decide +kernel
theorem d252_372 : fet 252 372 = .ok (.aload_n 1, 1) := by decide +kernel
theorem d252_373 : fet 252 373 = .ok (.aload_n 0, 1) := by decide +kernel
theorem d252_374 : fet 252 374 = .ok (.iload_n 3, 1) := by decide +kernel
theorem d252_375 : fet 252 375 = .ok (.iconst 1, 1) := by decide +kernel
theorem d252_376 : fet 252 376 = .ok (.iadd, 1) := by decide +kernel
theorem d252_377 : fet 252 377 = .ok (.iaload, 1) := by decide +kernel
theorem d252_378 : fet 252 378 = .ok (.invokevirtual 32, 3) := by decide +kernel
theorem d252_381 : fet 252 381 = .ok (.aload_n 2, 1) := by decide +kernel
theorem d252_382 : fet 252 382 = .ok (.aload_n 0, 1) := by decide +kernel
theorem d252_383 : fet 252 383 = .ok (.iload_n 3, 1) := by decide +kernel
theorem d252_384 : fet 252 384 = .ok (.iconst 1, 1) := by decide +kernel
theorem d252_385 : fet 252 385 = .ok (.iadd, 1) := by decide +kernel
theorem d252_386 : fet 252 386 = .ok (.iaload, 1) := by decide +kernel
theorem d252_387 : fet 252 387 = .ok (.invokevirtual 35, 3) := by decide +kernel
theorem d252_390 : fet 252 390 = .ok (.if_icmp .eq 914, 3) := by decide +kernel
theorem d252_393 : fet 252 393 = .ok (.iconst 0, 1) := by decide +kernel
theorem d252_394 : fet 252 394 = .ok (.ireturn, 1) := by decide +kernel
theorem d252_395 : fet 252 395 = .ok (.aload_n 1, 1) := by decide +kernel
theorem d252_396 : fet 252 396 = .ok (.invokevirtual 36, 3) := by decide +kernel
theorem d252_399 : fet 252 399 = .ok (.aload_n 2, 1) := by decide +kernel
theorem d252_400 : fet 252 400 = .ok (.invokevirtual 40, 3) := by decide +kernel
theorem d252_403 : fet 252 403 = .ok (.if_icmp .eq 901, 3) := by decide +kernel
theorem d252_406 : fet 252 406 = .ok (.iconst 0, 1) := by decide +kernel
theorem d252_407 : fet 252 407 = .ok (.ireturn, 1) := by decide +kernel
theorem d252_408 : fet 252 408 = .ok (.aload_n 1, 1) := by decide +kernel
theorem d252_409 : fet 252 409 = .ok (.invokevirtual 41, 3) := by decide +kernel
theorem d252_412 : fet 252 412 = .ok (.aload_n 2, 1) := by decide +kernel
theorem d252_413 : fet 252 413 = .ok (.invokevirtual 44, 3) := by decide +kernel
theorem d252_416 : fet 252 416 = .ok (.if_icmp .eq 888, 3) := by decide +kernel
theorem d252_419 : fet 252 419 = .ok (.iconst 0, 1) := by decide +kernel
theorem d252_420 : fet 252 420 = .ok (.ireturn, 1) := by decide +kernel
theorem d252_421 : fet 252 421 = .ok (.aload_n 1, 1) := by decide +kernel
theorem d252_422 : fet 252 422 = .ok (.aload_n 0, 1) := by decide +kernel
theorem d252_423 : fet 252 423 = .ok (.iload_n 3, 1) := by decide +kernel
theorem d252_424 : fet 252 424 = .ok (.iconst 1, 1) := by decide +kernel
theorem d252_425 : fet 252 425 = .ok (.iadd, 1) := by decide +kernel
theorem d252_426 : fet 252 426 = .ok (.iaload, 1) := by decide +kernel
theorem d252_427 : fet 252 427 = .ok (.invokevirtual 45, 3) := by decide +kernel
theorem d252_430 : fet 252 430 = .ok (.aload_n 2, 1) := by decide +kernel
theorem d252_431 : fet 252 431 = .ok (.aload_n 0, 1) := by decide +kernel
theorem d252_432 : fet 252 432 = .ok (.iload_n 3, 1) := by decide +kernel
theorem d252_433 : fet 252 433 = .ok (.iconst 1, 1) := by decide +kernel
theorem d252_434 : fet 252 434 = .ok (.iadd, 1) := by decide +kernel
theorem d252_435 : fet 252 435 = .ok (.iaload, 1) := by decide +kernel
theorem d252_436 : fet 252 436 = .ok (.invokevirtual 48, 3) := by decide +kernel
theorem d252_439 : fet 252 439 = .ok (.if_icmp .eq 865, 3) := by decide +kernel
theorem d252_442 : fet 252 442 = .ok (.iconst 0, 1) := by decide +kernel
theorem d252_443 : fet 252 443 = .ok (.ireturn, 1) := by decide +kernel
theorem d252_444 : fet 252 444 = .ok (.aload_n 1, 1) := by decide +kernel
theorem d252_445 : fet 252 445 = .ok (.aload_n 0, 1) := by decide +kernel
theorem d252_446 : fet 252 446 = .ok (.iload_n 3, 1) := by decide +kernel
theorem d252_447 : fet 252 447 = .ok (.iconst 1, 1) := by decide +kernel
theorem d252_448 : fet 252 448 = .ok (.iadd, 1) := by decide +kernel
theorem d252_449 : fet 252 449 = .ok (.iaload, 1) := by decide +kernel
theorem d252_450 : fet 252 450 = .ok (.invokevirtual 49, 3) := by decide +kernel
theorem d252_453 : fet 252 453 = .ok (.aload_n 2, 1) := by decide +kernel
theorem d252_454 : fet 252 454 = .ok (.aload_n 0, 1) := by decide +kernel
theorem d252_455 : fet 252 455 = .ok (.iload_n 3, 1) := by decide +kernel
theorem d252_456 : fet 252 456 = .ok (.iconst 1, 1) := by decide +kernel
theorem d252_457 : fet 252 457 = .ok (.iadd, 1) := by decide +kernel
theorem d252_458 : fet 252 458 = .ok (.iaload, 1) := by decide +kernel
theorem d252_459 : fet 252 459 = .ok (.invokevirtual 52, 3) := by decide +kernel
theorem d252_462 : fet 252 462 = .ok (.if_icmp .eq 842, 3) := by decide +kernel
theorem d252_465 : fet 252 465 = .ok (.iconst 0, 1) := by decide +kernel
theorem d252_466 : fet 252 466 = .ok (.ireturn, 1) := by decide +kernel
theorem d252_467 : fet 252 467 = .ok (.aload_n 1, 1) := by decide +kernel
theorem d252_468 : fet 252 468 = .ok (.aload_n 0, 1) := by decide +kernel
theorem d252_469 : fet 252 469 = .ok (.iload_n 3, 1) := by decide +kernel
theorem d252_470 : fet 252 470 = .ok (.iconst 1, 1) := by decide +kernel
theorem d252_471 : fet 252 471 = .ok (.iadd, 1) := by decide +kernel
theorem d252_472 : fet 252 472 = .ok (.iaload, 1) := by decide +kernel
theorem d252_473 : fet 252 473 = .ok (.aload_n 0, 1) := by decide +kernel
theorem d252_474 : fet 252 474 = .ok (.iload_n 3, 1) := by decide +kernel
theorem d252_475 : fet 252 475 = .ok (.iconst 2, 1) := by decide +kernel
theorem d252_476 : fet 252 476 = .ok (.iadd, 1) := by decide +kernel
theorem d252_477 : fet 252 477 = .ok (.iaload, 1) := by decide +kernel
theorem d252_478 : fet 252 478 = .ok (.invokevirtual 53, 3) := by decide +kernel
theorem d252_481 : fet 252 481 = .ok (.aload_n 2, 1) := by decide +kernel
theorem d252_482 : fet 252 482 = .ok (.aload_n 0, 1) := by decide +kernel
theorem d252_483 : fet 252 483 = .ok (.iload_n 3, 1) := by decide +kernel
theorem d252_484 : fet 252 484 = .ok (.iconst 1, 1) := by decide +kernel
theorem d252_485 : fet 252 485 = .ok (.iadd, 1) := by decide +kernel
theorem d252_486 : fet 252 486 = .ok (.iaload, 1) := by decide +kernel
theorem d252_487 : fet 252 487 = .ok (.aload_n 0, 1) := by decide +kernel
theorem d252_488 : fet 252 488 = .ok (.iload_n 3, 1) := by decide +kernel
theorem d252_489 : fet 252 489 = .ok (.iconst 2, 1) := by decide +kernel
theorem d252_490 : fet 252 490 = .ok (.iadd, 1) := by decide +kernel
theorem d252_491 : fet 252 491 = .ok (.iaload, 1) := by decide +kernel
theorem d252_492 : fet 252 492 = .ok (.invokevirtual 57, 3) := by decide +kernel
theorem d252_495 : fet 252 495 = .ok (.if_icmp .eq 809, 3) := by decide +kernel
theorem d252_498 : fet 252 498 = .ok (.iconst 0, 1) := by decide +kernel
theorem d252_499 : fet 252 499 = .ok (.ireturn, 1) := by decide +kernel
theorem d252_500 : fet 252 500 = .ok (.aload_n 1, 1) := by decide +kernel
theorem d252_501 : fet 252 501 = .ok (.aload_n 0, 1) := by decide +kernel
theorem d252_502 : fet 252 502 = .ok (.iload_n 3, 1) := by decide +kernel
theorem d252_503 : fet 252 503 = .ok (.iconst 1, 1) := by decide +kernel
theorem d252_504 : fet 252 504 = .ok (.iadd, 1) := by decide +kernel
theorem d252_505 : fet 252 505 = .ok (.iaload, 1) := by decide +kernel
theorem d252_506 : fet 252 506 = .ok (.aload_n 0, 1) := by decide +kernel
theorem d252_507 : fet 252 507 = .ok (.iload_n 3, 1) := by decide +kernel
theorem d252_508 : fet 252 508 = .ok (.iconst 2, 1) := by decide +kernel
theorem d252_509 : fet 252 509 = .ok (.iadd, 1) := by decide +kernel
theorem d252_510 : fet 252 510 = .ok (.iaload, 1) := by decide +kernel
theorem d252_511 : fet 252 511 = .ok (.invokevirtual 58, 3) := by decide +kernel
theorem d252_514 : fet 252 514 = .ok (.aload_n 2, 1) := by decide +kernel
theorem d252_515 : fet 252 515 = .ok (.aload_n 0, 1) := by decide +kernel
theorem d252_516 : fet 252 516 = .ok (.iload_n 3, 1) := by decide +kernel
theorem d252_517 : fet 252 517 = .ok (.iconst 1, 1) := by decide +kernel
theorem d252_518 : fet 252 518 = .ok (.iadd, 1) := by decide +kernel
theorem d252_519 : fet 252 519 = .ok (.iaload, 1) := by decide +kernel
theorem d252_520 : fet 252 520 = .ok (.aload_n 0, 1) := by decide +kernel
theorem d252_521 : fet 252 521 = .ok (.iload_n 3, 1) := by decide +kernel
theorem d252_522 : fet 252 522 = .ok (.iconst 2, 1) := by decide +kernel
theorem d252_523 : fet 252 523 = .ok (.iadd, 1) := by decide +kernel
theorem d252_524 : fet 252 524 = .ok (.iaload, 1) := by decide +kernel
theorem d252_525 : fet 252 525 = .ok (.invokevirtual 61, 3) := by decide +kernel
theorem d252_528 : fet 252 528 = .ok (.if_icmp .eq 776, 3) := by decide +kernel
theorem d252_531 : fet 252 531 = .ok (.iconst 0, 1) := by decide +kernel
theorem d252_532 : fet 252 532 = .ok (.ireturn, 1) := by decide +kernel
theorem d252_533 : fet 252 533 = .ok (.aload_n 1, 1) := by decide +kernel
theorem d252_534 : fet 252 534 = .ok (.invokevirtual 62, 3) := by decide +kernel
theorem d252_537 : fet 252 537 = .ok (.aload_n 2, 1) := by decide +kernel
theorem d252_538 : fet 252 538 = .ok (.invokevirtual 65, 3) := by decide +kernel
theorem d252_541 : fet 252 541 = .ok (.if_icmp .eq 763, 3) := by decide +kernel
theorem d252_544 : fet 252 544 = .ok (.iconst 0, 1) := by decide +kernel
theorem d252_545 : fet 252 545 = .ok (.ireturn, 1) := by decide +kernel
theorem d252_546 : fet 252 546 = .ok (.aload_n 1, 1) := by decide +kernel
theorem d252_547 : fet 252 547 = .ok (.aload_n 0, 1) := by decide +kernel
theorem d252_548 : fet 252 548 = .ok (.iload_n 3, 1) := by decide +kernel
theorem d252_549 : fet 252 549 = .ok (.iconst 1, 1) := by decide +kernel
theorem d252_550 : fet 252 550 = .ok (.iadd, 1) := by decide +kernel
theorem d252_551 : fet 252 551 = .ok (.iaload, 1) := by decide +kernel
theorem d252_552 : fet 252 552 = .ok (.aload_n 0, 1) := by decide +kernel
theorem d252_553 : fet 252 553 = .ok (.iload_n 3, 1) := by decide +kernel
theorem d252_554 : fet 252 554 = .ok (.iconst 2, 1) := by decide +kernel
theorem d252_555 : fet 252 555 = .ok (.iadd, 1) := by decide +kernel
theorem d252_556 : fet 252 556 = .ok (.iaload, 1) := by decide +kernel
theorem d252_557 : fet 252 557 = .ok (.invokevirtual 66, 3) := by decide +kernel
theorem d252_560 : fet 252 560 = .ok (.aload_n 2, 1) := by decide +kernel
theorem d252_561 : fet 252 561 = .ok (.aload_n 0, 1) := by decide +kernel
theorem d252_562 : fet 252 562 = .ok (.iload_n 3, 1) := by decide +kernel
theorem d252_563 : fet 252 563 = .ok (.iconst 1, 1) := by decide +kernel
theorem d252_564 : fet 252 564 = .ok (.iadd, 1) := by decide +kernel
theorem d252_565 : fet 252 565 = .ok (.iaload, 1) := by decide +kernel
theorem d252_566 : fet 252 566 = .ok (.aload_n 0, 1) := by decide +kernel
theorem d252_567 : fet 252 567 = .ok (.iload_n 3, 1) := by decide +kernel
theorem d252_568 : fet 252 568 = .ok (.iconst 2, 1) := by decide +kernel
theorem d252_569 : fet 252 569 = .ok (.iadd, 1) := by decide +kernel
theorem d252_570 : fet 252 570 = .ok (.iaload, 1) := by decide +kernel
theorem d252_571 : fet 252 571 = .ok (.invokevirtual 69, 3) := by decide +kernel
theorem d252_574 : fet 252 574 = .ok (.if_icmp .eq 730, 3) := by decide +kernel
theorem d252_577 : fet 252 577 = .ok (.iconst 0, 1) := by decide +kernel
theorem d252_578 : fet 252 578 = .ok (.ireturn, 1) := by decide +kernel
theorem d252_579 : fet 252 579 = .ok (.aload_n 1, 1) := by decide +kernel
theorem d252_580 : fet 252 580 = .ok (.invokevirtual 70, 3) := by decide +kernel
theorem d252_583 : fet 252 583 = .ok (.aload_n 2, 1) := by decide +kernel
theorem d252_584 : fet 252 584 = .ok (.invokevirtual 73, 3) := by decide +kernel
theorem d252_587 : fet 252 587 = .ok (.if_icmp .eq 717, 3) := by decide +kernel
theorem d252_590 : fet 252 590 = .ok (.iconst 0, 1) := by decide +kernel
theorem d252_591 : fet 252 591 = .ok (.ireturn, 1) := by decide +kernel
theorem d252_592 : fet 252 592 = .ok (.aload_n 1, 1) := by decide +kernel
theorem d252_593 : fet 252 593 = .ok (.aload_n 0, 1) := by decide +kernel
theorem d252_594 : fet 252 594 = .ok (.iload_n 3, 1) := by decide +kernel
theorem d252_595 : fet 252 595 = .ok (.iconst 1, 1) := by decide +kernel
theorem d252_596 : fet 252 596 = .ok (.iadd, 1) := by decide +kernel
theorem d252_597 : fet 252 597 = .ok (.iaload, 1) := by decide +kernel
theorem d252_598 : fet 252 598 = .ok (.aload_n 0, 1) := by decide +kernel
theorem d252_599 : fet 252 599 = .ok (.iload_n 3, 1) := by decide +kernel
theorem d252_600 : fet 252 600 = .ok (.iconst 2, 1) := by decide +kernel
theorem d252_601 : fet 252 601 = .ok (.iadd, 1) := by decide +kernel
theorem d252_602 : fet 252 602 = .ok (.iaload, 1) := by decide +kernel
theorem d252_603 : fet 252 603 = .ok (.invokevirtual 74, 3) := by decide +kernel
theorem d252_606 : fet 252 606 = .ok (.aload_n 2, 1) := by decide +kernel
theorem d252_607 : fet 252 607 = .ok (.aload_n 0, 1) := by decide +kernel
theorem d252_608 : fet 252 608 = .ok (.iload_n 3, 1) := by decide +kernel
theorem d252_609 : fet 252 609 = .ok (.iconst 1, 1) := by decide +kernel
theorem d252_610 : fet 252 610 = .ok (.iadd, 1) := by decide +kernel
theorem d252_611 : fet 252 611 = .ok (.iaload, 1) := by decide +kernel
theorem d252_612 : fet 252 612 = .ok (.aload_n 0, 1) := by decide +kernel
theorem d252_613 : fet 252 613 = .ok (.iload_n 3, 1) := by decide +kernel
theorem d252_614 : fet 252 614 = .ok (.iconst 2, 1) := by decide +kernel
theorem d252_615 : fet 252 615 = .ok (.iadd, 1) := by decide +kernel
theorem d252_616 : fet 252 616 = .ok (.iaload, 1) := by decide +kernel
theorem d252_617 : fet 252 617 = .ok (.invokevirtual 77, 3) := by decide +kernel
theorem d252_620 : fet 252 620 = .ok (.if_icmp .eq 684, 3) := by decide +kernel
theorem d252_623 : fet 252 623 = .ok (.iconst 0, 1) := by decide +kernel
theorem d252_624 : fet 252 624 = .ok (.ireturn, 1) := by decide +kernel
theorem d252_625 : fet 252 625 = .ok (.aload_n 1, 1) := by decide +kernel
theorem d252_626 : fet 252 626 = .ok (.aload_n 0, 1) := by decide +kernel
theorem d252_627 : fet 252 627 = .ok (.iload_n 3, 1) := by decide +kernel
theorem d252_628 : fet 252 628 = .ok (.iconst 1, 1) := by decide +kernel
theorem d252_629 : fet 252 629 = .ok (.iadd, 1) := by decide +kernel
theorem d252_630 : fet 252 630 = .ok (.iaload, 1) := by decide +kernel
theorem d252_631 : fet 252 631 = .ok (.aload_n 0, 1) := by decide +kernel
theorem d252_632 : fet 252 632 = .ok (.iload_n 3, 1) := by decide +kernel
theorem d252_633 : fet 252 633 = .ok (.iconst 2, 1) := by decide +kernel
theorem d252_634 : fet 252 634 = .ok (.iadd, 1) := by decide +kernel
theorem d252_635 : fet 252 635 = .ok (.iaload, 1) := by decide +kernel
theorem d252_636 : fet 252 636 = .ok (.invokevirtual 78, 3) := by decide +kernel
theorem d252_639 : fet 252 639 = .ok (.aload_n 2, 1) := by decide +kernel
theorem d252_640 : fet 252 640 = .ok (.aload_n 0, 1) := by decide +kernel
theorem d252_641 : fet 252 641 = .ok (.iload_n 3, 1) := by decide +kernel
theorem d252_642 : fet 252 642 = .ok (.iconst 1, 1) := by decide +kernel
theorem d252_643 : fet 252 643 = .ok (.iadd, 1) := by decide +kernel
theorem d252_644 : fet 252 644 = .ok (.iaload, 1) := by decide +kernel
theorem d252_645 : fet 252 645 = .ok (.aload_n 0, 1) := by decide +kernel
theorem d252_646 : fet 252 646 = .ok (.iload_n 3, 1) := by decide +kernel
theorem d252_647 : fet 252 647 = .ok (.iconst 2, 1) := by decide +kernel
theorem d252_648 : fet 252 648 = .ok (.iadd, 1) := by decide +kernel
theorem d252_649 : fet 252 649 = .ok (.iaload, 1) := by decide +kernel
theorem d252_650 : fet 252 650 = .ok (.invokevirtual 81, 3) := by decide +kernel
theorem d252_653 : fet 252 653 = .ok (.if_icmp .eq 651, 3) := by decide +kernel
theorem d252_656 : fet 252 656 = .ok (.iconst 0, 1) := by decide +kernel
theorem d252_657 : fet 252 657 = .ok (.ireturn, 1) := by decide +kernel
theorem d252_658 : fet 252 658 = .ok (.aload_n 1, 1) := by decide +kernel
theorem d252_659 : fet 252 659 = .ok (.aload_n 0, 1) := by decide +kernel
theorem d252_660 : fet 252 660 = .ok (.iload_n 3, 1) := by decide +kernel
theorem d252_661 : fet 252 661 = .ok (.iconst 1, 1) := by decide +kernel
theorem d252_662 : fet 252 662 = .ok (.iadd, 1) := by decide +kernel
theorem d252_663 : fet 252 663 = .ok (.iaload, 1) := by decide +kernel
theorem d252_664 : fet 252 664 = .ok (.aload_n 0, 1) := by decide +kernel
theorem d252_665 : fet 252 665 = .ok (.iload_n 3, 1) := by decide +kernel
theorem d252_666 : fet 252 666 = .ok (.iconst 2, 1) := by decide +kernel
theorem d252_667 : fet 252 667 = .ok (.iadd, 1) := by decide +kernel
theorem d252_668 : fet 252 668 = .ok (.iaload, 1) := by decide +kernel
theorem d252_669 : fet 252 669 = .ok (.invokevirtual 82, 3) := by decide +kernel
theorem d252_672 : fet 252 672 = .ok (.aload_n 2, 1) := by decide +kernel
theorem d252_673 : fet 252 673 = .ok (.aload_n 0, 1) := by decide +kernel
theorem d252_674 : fet 252 674 = .ok (.iload_n 3, 1) := by decide +kernel
theorem d252_675 : fet 252 675 = .ok (.iconst 1, 1) := by decide +kernel
theorem d252_676 : fet 252 676 = .ok (.iadd, 1) := by decide +kernel
theorem d252_677 : fet 252 677 = .ok (.iaload, 1) := by decide +kernel
theorem d252_678 : fet 252 678 = .ok (.aload_n 0, 1) := by decide +kernel
theorem d252_679 : fet 252 679 = .ok (.iload_n 3, 1) := by decide +kernel
theorem d252_680 : fet 252 680 = .ok (.iconst 2, 1) := by decide +kernel
theorem d252_681 : fet 252 681 = .ok (.iadd, 1) := by decide +kernel
theorem d252_682 : fet 252 682 = .ok (.iaload, 1) := by decide +kernel
theorem d252_683 : fet 252 683 = .ok (.invokevirtual 85, 3) := by decide +kernel
theorem d252_686 : fet 252 686 = .ok (.if_icmp .eq 618, 3) := by decide +kernel
theorem d252_689 : fet 252 689 = .ok (.iconst 0, 1) := by decide +kernel
theorem d252_690 : fet 252 690 = .ok (.ireturn, 1) := by decide +kernel
theorem d252_691 : fet 252 691 = .ok (.aload_n 1, 1) := by decide +kernel
theorem d252_692 : fet 252 692 = .ok (.aload_n 0, 1) := by decide +kernel
theorem d252_693 : fet 252 693 = .ok (.iload_n 3, 1) := by decide +kernel
theorem d252_694 : fet 252 694 = .ok (.iconst 1, 1) := by decide +kernel
theorem d252_695 : fet 252 695 = .ok (.iadd, 1) := by decide +kernel
theorem d252_696 : fet 252 696 = .ok (.iaload, 1) := by decide +kernel
theorem d252_697 : fet 252 697 = .ok (.invokevirtual 86, 3) := by decide +kernel
theorem d252_700 : fet 252 700 = .ok (.aload_n 2, 1) := by decide +kernel
theorem d252_701 : fet 252 701 = .ok (.aload_n 0, 1) := by decide +kernel
theorem d252_702 : fet 252 702 = .ok (.iload_n 3, 1) := by decide +kernel
theorem d252_703 : fet 252 703 = .ok (.iconst 1, 1) := by decide +kernel
theorem d252_704 : fet 252 704 = .ok (.iadd, 1) := by decide +kernel
theorem d252_705 : fet 252 705 = .ok (.iaload, 1) := by decide +kernel
theorem d252_706 : fet 252 706 = .ok (.invokevirtual 89, 3) := by decide +kernel
theorem d252_709 : fet 252 709 = .ok (.if_icmp .eq 595, 3) := by decide +kernel
theorem d252_712 : fet 252 712 = .ok (.iconst 0, 1) := by decide +kernel
theorem d252_713 : fet 252 713 = .ok (.ireturn, 1) := by decide +kernel
theorem d252_714 : fet 252 714 = .ok (.aload_n 1, 1) := by decide +kernel
theorem d252_715 : fet 252 715 = .ok (.aload_n 0, 1) := by decide +kernel
theorem d252_716 : fet 252 716 = .ok (.iload_n 3, 1) := by decide +kernel
theorem d252_717 : fet 252 717 = .ok (.iconst 1, 1) := by decide +kernel
theorem d252_718 : fet 252 718 = .ok (.iadd, 1) := by decide +kernel
theorem d252_719 : fet 252 719 = .ok (.iaload, 1) := by decide +kernel
theorem d252_720 : fet 252 720 = .ok (.aload_n 0, 1) := by decide +kernel
theorem d252_721 : fet 252 721 = .ok (.iload_n 3, 1) := by decide +kernel
theorem d252_722 : fet 252 722 = .ok (.iconst 2, 1) := by decide +kernel
theorem d252_723 : fet 252 723 = .ok (.iadd, 1) := by decide +kernel
theorem d252_724 : fet 252 724 = .ok (.iaload, 1) := by decide +kernel
theorem d252_725 : fet 252 725 = .ok (.aload_n 0, 1) := by decide +kernel
theorem d252_726 : fet 252 726 = .ok (.iload_n 3, 1) := by decide +kernel
theorem d252_727 : fet 252 727 = .ok (.iconst 3, 1) := by decide +kernel
theorem d252_728 : fet 252 728 = .ok (.iadd, 1) := by decide +kernel
theorem d252_729 : fet 252 729 = .ok (.iaload, 1) := by decide +kernel
theorem d252_730 : fet 252 730 = .ok (.invokevirtual 90, 3) := by decide +kernel
theorem d252_733 : fet 252 733 = .ok (.aload_n 2, 1) := by decide +kernel
theorem d252_734 : fet 252 734 = .ok (.aload_n 0, 1) := by decide +kernel
theorem d252_735 : fet 252 735 = .ok (.iload_n 3, 1) := by decide +kernel
theorem d252_736 : fet 252 736 = .ok (.iconst 1, 1) := by decide +kernel
theorem d252_737 : fet 252 737 = .ok (.iadd, 1) := by decide +kernel
theorem d252_738 : fet 252 738 = .ok (.iaload, 1) := by decide +kernel
theorem d252_739 : fet 252 739 = .ok (.aload_n 0, 1) := by decide +kernel
theorem d252_740 : fet 252 740 = .ok (.iload_n 3, 1) := by decide +kernel
theorem d252_741 : fet 252 741 = .ok (.iconst 2, 1) := by decide +kernel
theorem d252_742 : fet 252 742 = .ok (.iadd, 1) := by decide +kernel
theorem d252_743 : fet 252 743 = .ok (.iaload, 1) := by decide +kernel
theorem d252_744 : fet 252 744 = .ok (.aload_n 0, 1) := by decide +kernel
theorem d252_745 : fet 252 745 = .ok (.iload_n 3, 1) := by decide +kernel
theorem d252_746 : fet 252 746 = .ok (.iconst 3, 1) := by decide +kernel
theorem d252_747 : fet 252 747 = .ok (.iadd, 1) := by decide +kernel
theorem d252_748 : fet 252 748 = .ok (.iaload, 1) := by decide +kernel
theorem d252_749 : fet 252 749 = .ok (.invokevirtual 93, 3) := by decide +kernel
theorem d252_752 : fet 252 752 = .ok (.if_icmp .eq 552, 3) := by decide +kernel
theorem d252_755 : fet 252 755 = .ok (.iconst 0, 1) := by decide +kernel
theorem d252_756 : fet 252 756 = .ok (.ireturn, 1) := by decide +kernel
theorem d252_757 : fet 252 757 = .ok (.aload_n 1, 1) := by decide +kernel
theorem d252_758 : fet 252 758 = .ok (.aload_n 0, 1) := by decide +kernel
theorem d252_759 : fet 252 759 = .ok (.iload_n 3, 1) := by decide +kernel
theorem d252_760 : fet 252 760 = .ok (.iconst 1, 1) := by decide +kernel
theorem d252_761 : fet 252 761 = .ok (.iadd, 1) := by decide +kernel
theorem d252_762 : fet 252 762 = .ok (.iaload, 1) := by decide +kernel
theorem d252_763 : fet 252 763 = .ok (.aload_n 0, 1) := by decide +kernel
theorem d252_764 : fet 252 764 = .ok (.iload_n 3, 1) := by decide +kernel
theorem d252_765 : fet 252 765 = .ok (.iconst 2, 1) := by decide +kernel
theorem d252_766 : fet 252 766 = .ok (.iadd, 1) := by decide +kernel
theorem d252_767 : fet 252 767 = .ok (.iaload, 1) := by decide +kernel
theorem d252_768 : fet 252 768 = .ok (.invokevirtual 94, 3) := by decide +kernel
theorem d252_771 : fet 252 771 = .ok (.aload_n 2, 1) := by decide +kernel
theorem d252_772 : fet 252 772 = .ok (.aload_n 0, 1) := by decide +kernel
theorem d252_773 : fet 252 773 = .ok (.iload_n 3, 1) := by decide +kernel
theorem d252_774 : fet 252 774 = .ok (.iconst 1, 1) := by decide +kernel
theorem d252_775 : fet 252 775 = .ok (.iadd, 1) := by decide +kernel
theorem d252_776 : fet 252 776 = .ok (.iaload, 1) := by decide +kernel
theorem d252_777 : fet 252 777 = .ok (.aload_n 0, 1) := by decide +kernel
theorem d252_778 : fet 252 778 = .ok (.iload_n 3, 1) := by decide +kernel
theorem d252_779 : fet 252 779 = .ok (.iconst 2, 1) := by decide +kernel
theorem d252_780 : fet 252 780 = .ok (.iadd, 1) := by decide +kernel
theorem d252_781 : fet 252 781 = .ok (.iaload, 1) := by decide +kernel
theorem d252_782 : fet 252 782 = .ok (.invokevirtual 97, 3) := by decide +kernel
theorem d252_785 : fet 252 785 = .ok (.if_icmp .eq 519, 3) := by decide +kernel
theorem d252_788 : fet 252 788 = .ok (.iconst 0, 1) := by decide +kernel
theorem d252_789 : fet 252 789 = .ok (.ireturn, 1) := by decide +kernel
theorem d252_790 : fet 252 790 = .ok (.aload_n 1, 1) := by decide +kernel
theorem d252_791 : fet 252 791 = .ok (.aload_n 0, 1) := by decide +kernel
theorem d252_792 : fet 252 792 = .ok (.iload_n 3, 1) := by decide +kernel
theorem d252_793 : fet 252 793 = .ok (.iconst 1, 1) := by decide +kernel
theorem d252_794 : fet 252 794 = .ok (.iadd, 1) := by decide +kernel
theorem d252_795 : fet 252 795 = .ok (.iaload, 1) := by decide +kernel
theorem d252_796 : fet 252 796 = .ok (.invokevirtual 98, 3) := by decide +kernel
theorem d252_799 : fet 252 799 = .ok (.aload_n 2, 1) := by decide +kernel
theorem d252_800 : fet 252 800 = .ok (.aload_n 0, 1) := by decide +kernel
theorem d252_801 : fet 252 801 = .ok (.iload_n 3, 1) := by decide +kernel
theorem d252_802 : fet 252 802 = .ok (.iconst 1, 1) := by decide +kernel
theorem d252_803 : fet 252 803 = .ok (.iadd, 1) := by decide +kernel
theorem d252_804 : fet 252 804 = .ok (.iaload, 1) := by decide +kernel
theorem d252_805 : fet 252 805 = .ok (.invokevirtual 101, 3) := by decide +kernel
theorem d252_808 : fet 252 808 = .ok (.if_icmp .eq 496, 3) := by decide +kernel
theorem d252_811 : fet 252 811 = .ok (.iconst 0, 1) := by decide +kernel
theorem d252_812 : fet 252 812 = .ok (.ireturn, 1) := by decide +kernel
theorem d252_813 : fet 252 813 = .ok (.aload_n 1, 1) := by decide +kernel
theorem d252_814 : fet 252 814 = .ok (.aload_n 0, 1) := by decide +kernel
theorem d252_815 : fet 252 815 = .ok (.iload_n 3, 1) := by decide +kernel
theorem d252_816 : fet 252 816 = .ok (.iconst 1, 1) := by decide +kernel
theorem d252_817 : fet 252 817 = .ok (.iadd, 1) := by decide +kernel
theorem d252_818 : fet 252 818 = .ok (.iaload, 1) := by decide +kernel
theorem d252_819 : fet 252 819 = .ok (.invokevirtual 102, 3) := by decide +kernel
theorem d252_822 : fet 252 822 = .ok (.aload_n 2, 1) := by decide +kernel
theorem d252_823 : fet 252 823 = .ok (.aload_n 0, 1) := by decide +kernel
theorem d252_824 : fet 252 824 = .ok (.iload_n 3, 1) := by decide +kernel
theorem d252_825 : fet 252 825 = .ok (.iconst 1, 1) := by decide +kernel
theorem d252_826 : fet 252 826 = .ok (.iadd, 1) := by decide +kernel
theorem d252_827 : fet 252 827 = .ok (.iaload, 1) := by decide +kernel
theorem d252_828 : fet 252 828 = .ok (.invokevirtual 105, 3) := by decide +kernel
theorem d252_831 : fet 252 831 = .ok (.if_icmp .eq 473, 3) := by decide +kernel
theorem d252_834 : fet 252 834 = .ok (.iconst 0, 1) := by decide +kernel
theorem d252_835 : fet 252 835 = .ok (.ireturn, 1) := by decide +kernel
theorem d252_836 : fet 252 836 = .ok (.aload_n 1, 1) := by decide +kernel
theorem d252_837 : fet 252 837 = .ok (.aload_n 0, 1) := by decide +kernel
theorem d252_838 : fet 252 838 = .ok (.iload_n 3, 1) := by decide +kernel
theorem d252_839 : fet 252 839 = .ok (.iconst 1, 1) := by decide +kernel
theorem d252_840 : fet 252 840 = .ok (.iadd, 1) := by decide +kernel
theorem d252_841 : fet 252 841 = .ok (.iaload, 1) := by decide +kernel
theorem d252_842 : fet 252 842 = .ok (.aload_n 0, 1) := by decide +kernel
theorem d252_843 : fet 252 843 = .ok (.iload_n 3, 1) := by decide +kernel
theorem d252_844 : fet 252 844 = .ok (.iconst 2, 1) := by decide +kernel
theorem d252_845 : fet 252 845 = .ok (.iadd, 1) := by decide +kernel
theorem d252_846 : fet 252 846 = .ok (.iaload, 1) := by decide +kernel
theorem d252_847 : fet 252 847 = .ok (.invokevirtual 106, 3) := by decide +kernel
theorem d252_850 : fet 252 850 = .ok (.aload_n 2, 1) := by decide +kernel
theorem d252_851 : fet 252 851 = .ok (.aload_n 0, 1) := by decide +kernel
theorem d252_852 : fet 252 852 = .ok (.iload_n 3, 1) := by decide +kernel
theorem d252_853 : fet 252 853 = .ok (.iconst 1, 1) := by decide +kernel
theorem d252_854 : fet 252 854 = .ok (.iadd, 1) := by decide +kernel
theorem d252_855 : fet 252 855 = .ok (.iaload, 1) := by decide +kernel
theorem d252_856 : fet 252 856 = .ok (.aload_n 0, 1) := by decide +kernel
theorem d252_857 : fet 252 857 = .ok (.iload_n 3, 1) := by decide +kernel
theorem d252_858 : fet 252 858 = .ok (.iconst 2, 1) := by decide +kernel
theorem d252_859 : fet 252 859 = .ok (.iadd, 1) := by decide +kernel
theorem d252_860 : fet 252 860 = .ok (.iaload, 1) := by decide +kernel
theorem d252_861 : fet 252 861 = .ok (.invokevirtual 109, 3) := by decide +kernel
theorem d252_864 : fet 252 864 = .ok (.if_icmp .eq 440, 3) := by decide +kernel
theorem d252_867 : fet 252 867 = .ok (.iconst 0, 1) := by decide +kernel
theorem d252_868 : fet 252 868 = .ok (.ireturn, 1) := by decide +kernel
theorem d252_869 : fet 252 869 = .ok (.aload_n 1, 1) := by decide +kernel
theorem d252_870 : fet 252 870 = .ok (.aload_n 0, 1) := by decide +kernel
theorem d252_871 : fet 252 871 = .ok (.iload_n 3, 1) := by decide +kernel
theorem d252_872 : fet 252 872 = .ok (.iconst 1, 1) := by decide +kernel
theorem d252_873 : fet 252 873 = .ok (.iadd, 1) := by decide +kernel
theorem d252_874 : fet 252 874 = .ok (.iaload, 1) := by decide +kernel
theorem d252_875 : fet 252 875 = .ok (.aload_n 0, 1) := by decide +kernel
theorem d252_876 : fet 252 876 = .ok (.iload_n 3, 1) := by decide +kernel
theorem d252_877 : fet 252 877 = .ok (.iconst 2, 1) := by decide +kernel
theorem d252_878 : fet 252 878 = .ok (.iadd, 1) := by decide +kernel
theorem d252_879 : fet 252 879 = .ok (.iaload, 1) := by decide +kernel
theorem d252_880 : fet 252 880 = .ok (.aload_n 0, 1) := by decide +kernel
theorem d252_881 : fet 252 881 = .ok (.iload_n 3, 1) := by decide +kernel
theorem d252_882 : fet 252 882 = .ok (.iconst 3, 1) := by decide +kernel
theorem d252_883 : fet 252 883 = .ok (.iadd, 1) := by decide +kernel
theorem d252_884 : fet 252 884 = .ok (.iaload, 1) := by decide +kernel
theorem d252_885 : fet 252 885 = .ok (.invokevirtual 110, 3) := by decide +kernel
theorem d252_888 : fet 252 888 = .ok (.aload_n 2, 1) := by decide +kernel
theorem d252_889 : fet 252 889 = .ok (.aload_n 0, 1) := by decide +kernel
theorem d252_890 : fet 252 890 = .ok (.iload_n 3, 1) := by decide +kernel
theorem d252_891 : fet 252 891 = .ok (.iconst 1, 1) := by decide +kernel
theorem d252_892 : fet 252 892 = .ok (.iadd, 1) := by decide +kernel
theorem d252_893 : fet 252 893 = .ok (.iaload, 1) := by decide +kernel
theorem d252_894 : fet 252 894 = .ok (.aload_n 0, 1) := by decide +kernel
theorem d252_895 : fet 252 895 = .ok (.iload_n 3, 1) := by decide +kernel
theorem d252_896 : fet 252 896 = .ok (.iconst 2, 1) := by decide +kernel
theorem d252_897 : fet 252 897 = .ok (.iadd, 1) := by decide +kernel
theorem d252_898 : fet 252 898 = .ok (.iaload, 1) := by decide +kernel
theorem d252_899 : fet 252 899 = .ok (.aload_n 0, 1) := by decide +kernel
theorem d252_900 : fet 252 900 = .ok (.iload_n 3, 1) := by decide +kernel
theorem d252_901 : fet 252 901 = .ok (.iconst 3, 1) := by decide +kernel
theorem d252_902 : fet 252 902 = .ok (.iadd, 1) := by decide +kernel
theorem d252_903 : fet 252 903 = .ok (.iaload, 1) := by decide +kernel
theorem d252_904 : fet 252 904 = .ok (.invokevirtual 113, 3) := by decide +kernel
theorem d252_907 : fet 252 907 = .ok (.if_icmp .eq 397, 3) := by decide +kernel
theorem d252_910 : fet 252 910 = .ok (.iconst 0, 1) := by decide +kernel
theorem d252_911 : fet 252 911 = .ok (.ireturn, 1) := by decide +kernel
theorem d252_912 : fet 252 912 = .ok (.aload_n 1, 1) := by decide +kernel
theorem d252_913 : fet 252 913 = .ok (.aload_n 0, 1) := by decide +kernel
theorem d252_914 : fet 252 914 = .ok (.iload_n 3, 1) := by decide +kernel
theorem d252_915 : fet 252 915 = .ok (.iconst 1, 1) := by decide +kernel
theorem d252_916 : fet 252 916 = .ok (.iadd, 1) := by decide +kernel
theorem d252_917 : fet 252 917 = .ok (.iaload, 1) := by decide +kernel
theorem d252_918 : fet 252 918 = .ok (.aload_n 0, 1) := by decide +kernel
theorem d252_919 : fet 252 919 = .ok (.iload_n 3, 1) := by decide +kernel
theorem d252_920 : fet 252 920 = .ok (.iconst 2, 1) := by decide +kernel
theorem d252_921 : fet 252 921 = .ok (.iadd, 1) := by decide +kernel
theorem d252_922 : fet 252 922 = .ok (.iaload, 1) := by decide +kernel
theorem d252_923 : fet 252 923 = .ok (.aload_n 0, 1) := by decide +kernel
theorem d252_924 : fet 252 924 = .ok (.iload_n 3, 1) := by decide +kernel
theorem d252_925 : fet 252 925 = .ok (.iconst 3, 1) := by decide +kernel
theorem d252_926 : fet 252 926 = .ok (.iadd, 1) := by decide +kernel
theorem d252_927 : fet 252 927 = .ok (.iaload, 1) := by decide +kernel
theorem d252_928 : fet 252 928 = .ok (.invokevirtual 114, 3) := by decide +kernel
theorem d252_931 : fet 252 931 = .ok (.aload_n 2, 1) := by decide +kernel
theorem d252_932 : fet 252 932 = .ok (.aload_n 0, 1) := by decide +kernel
theorem d252_933 : fet 252 933 = .ok (.iload_n 3, 1) := by decide +kernel
theorem d252_934 : fet 252 934 = .ok (.iconst 1, 1) := by decide +kernel
theorem d252_935 : fet 252 935 = .ok (.iadd, 1) := by decide +kernel
theorem d252_936 : fet 252 936 = .ok (.iaload, 1) := by decide +kernel
theorem d252_937 : fet 252 937 = .ok (.aload_n 0, 1) := by decide +kernel
theorem d252_938 : fet 252 938 = .ok (.iload_n 3, 1) := by decide +kernel
theorem d252_939 : fet 252 939 = .ok (.iconst 2, 1) := by decide +kernel
theorem d252_940 : fet 252 940 = .ok (.iadd, 1) := by decide +kernel
theorem d252_941 : fet 252 941 = .ok (.iaload, 1) := by decide +kernel
theorem d252_942 : fet 252 942 = .ok (.aload_n 0, 1) := by decide +kernel
theorem d252_943 : fet 252 943 = .ok (.iload_n 3, 1) := by decide +kernel
theorem d252_944 : fet 252 944 = .ok (.iconst 3, 1) := by decide +kernel
theorem d252_945 : fet 252 945 = .ok (.iadd, 1) := by decide +kernel
theorem d252_946 : fet 252 946 = .ok (.iaload, 1) := by decide +kernel
theorem d252_947 : fet 252 947 = .ok (.invokevirtual 117, 3) := by decide +kernel
theorem d252_950 : fet 252 950 = .ok (.if_icmp .eq 354, 3) := by decide +kernel
theorem d252_953 : fet 252 953 = .ok (.iconst 0, 1) := by decide +kernel
theorem d252_954 : fet 252 954 = .ok (.ireturn, 1) := by decide +kernel
theorem d252_955 : fet 252 955 = .ok (.aload_n 1, 1) := by decide +kernel
theorem d252_956 : fet 252 956 = .ok (.aload_n 0, 1) := by decide +kernel
theorem d252_957 : fet 252 957 = .ok (.iload_n 3, 1) := by decide +kernel
theorem d252_958 : fet 252 958 = .ok (.iconst 1, 1) := by decide +kernel
theorem d252_959 : fet 252 959 = .ok (.iadd, 1) := by decide +kernel
theorem d252_960 : fet 252 960 = .ok (.iaload, 1) := by decide +kernel
theorem d252_961 : fet 252 961 = .ok (.aload_n 0, 1) := by decide +kernel
theorem d252_962 : fet 252 962 = .ok (.iload_n 3, 1) := by decide +kernel
theorem d252_963 : fet 252 963 = .ok (.iconst 2, 1) := by decide +kernel
theorem d252_964 : fet 252 964 = .ok (.iadd, 1) := by decide +kernel
theorem d252_965 : fet 252 965 = .ok (.iaload, 1) := by decide +kernel
theorem d252_966 : fet 252 966 = .ok (.invokevirtual 118, 3) := by decide +kernel
theorem d252_969 : fet 252 969 = .ok (.aload_n 2, 1) := by decide +kernel
theorem d252_970 : fet 252 970 = .ok (.aload_n 0, 1) := by decide +kernel
theorem d252_971 : fet 252 971 = .ok (.iload_n 3, 1) := by decide +kernel
theorem d252_972 : fet 252 972 = .ok (.iconst 1, 1) := by decide +kernel
theorem d252_973 : fet 252 973 = .ok (.iadd, 1) := by decide +kernel
theorem d252_974 : fet 252 974 = .ok (.iaload, 1) := by decide +kernel
theorem d252_975 : fet 252 975 = .ok (.aload_n 0, 1) := by decide +kernel
theorem d252_976 : fet 252 976 = .ok (.iload_n 3, 1) := by decide +kernel
theorem d252_977 : fet 252 977 = .ok (.iconst 2, 1) := by decide +kernel
theorem d252_978 : fet 252 978 = .ok (.iadd, 1) := by decide +kernel
theorem d252_979 : fet 252 979 = .ok (.iaload, 1) := by decide +kernel
theorem d252_980 : fet 252 980 = .ok (.invokevirtual 121, 3) := by decide +kernel
theorem d252_983 : fet 252 983 = .ok (.if_icmp .eq 321, 3) := by decide +kernel
theorem d252_986 : fet 252 986 = .ok (.iconst 0, 1) := by decide +kernel
theorem d252_987 : fet 252 987 = .ok (.ireturn, 1) := by decide +kernel
theorem d252_988 : fet 252 988 = .ok (.aload_n 1, 1) := by decide +kernel
theorem d252_989 : fet 252 989 = .ok (.aload_n 0, 1) := by decide +kernel
theorem d252_990 : fet 252 990 = .ok (.iload_n 3, 1) := by decide +kernel
theorem d252_991 : fet 252 991 = .ok (.iconst 1, 1) := by decide +kernel
theorem d252_992 : fet 252 992 = .ok (.iadd, 1) := by decide +kernel
theorem d252_993 : fet 252 993 = .ok (.iaload, 1) := by decide +kernel
theorem d252_994 : fet 252 994 = .ok (.aload_n 0, 1) := by decide +kernel
theorem d252_995 : fet 252 995 = .ok (.iload_n 3, 1) := by decide +kernel
theorem d252_996 : fet 252 996 = .ok (.iconst 2, 1) := by decide +kernel
theorem d252_997 : fet 252 997 = .ok (.iadd, 1) := by decide +kernel
theorem d252_998 : fet 252 998 = .ok (.iaload, 1) := by decide +kernel
theorem d252_999 : fet 252 999 = .ok (.invokevirtual 122, 3) := by decide +kernel
theorem d252_1002 : fet 252 1002 = .ok (.aload_n 2, 1) := by decide +kernel
theorem d252_1003 : fet 252 1003 = .ok (.aload_n 0, 1) := by decide +kernel
theorem d252_1004 : fet 252 1004 = .ok (.iload_n 3, 1) := by decide +kernel
theorem d252_1005 : fet 252 1005 = .ok (.iconst 1, 1) := by decide +kernel
theorem d252_1006 : fet 252 1006 = .ok (.iadd, 1) := by decide +kernel
theorem d252_1007 : fet 252 1007 = .ok (.iaload, 1) := by decide +kernel
theorem d252_1008 : fet 252 1008 = .ok (.aload_n 0, 1) := by decide +kernel
theorem d252_1009 : fet 252 1009 = .ok (.iload_n 3, 1) := by decide +kernel
theorem d252_1010 : fet 252 1010 = .ok (.iconst 2, 1) := by decide +kernel
theorem d252_1011 : fet 252 1011 = .ok (.iadd, 1) := by decide +kernel
theorem d252_1012 : fet 252 1012 = .ok (.iaload, 1) := by decide +kernel
theorem d252_1013 : fet 252 1013 = .ok (.invokevirtual 125, 3) := by decide +kernel
theorem d252_1016 : fet 252 1016 = .ok (.if_icmp .eq 288, 3) := by decide +kernel
theorem d252_1019 : fet 252 1019 = .ok (.iconst 0, 1) := by decide +kernel
theorem d252_1020 : fet 252 1020 = .ok (.ireturn, 1) := by decide +kernel
theorem d252_1021 : fet 252 1021 = .ok (.aload_n 1, 1) := by decide +kernel
theorem d252_1022 : fet 252 1022 = .ok (.aload_n 0, 1) := by decide +kernel
theorem d252_1023 : fet 252 1023 = .ok (.iload_n 3, 1) := by decide +kernel
theorem d252_1024 : fet 252 1024 = .ok (.iconst 1, 1) := by decide +kernel
theorem d252_1025 : fet 252 1025 = .ok (.iadd, 1) := by decide +kernel
theorem d252_1026 : fet 252 1026 = .ok (.iaload, 1) := by decide +kernel
theorem d252_1027 : fet 252 1027 = .ok (.aload_n 0, 1) := by decide +kernel
theorem d252_1028 : fet 252 1028 = .ok (.iload_n 3, 1) := by decide +kernel
theorem d252_1029 : fet 252 1029 = .ok (.iconst 2, 1) := by decide +kernel
theorem d252_1030 : fet 252 1030 = .ok (.iadd, 1) := by decide +kernel
theorem d252_1031 : fet 252 1031 = .ok (.iaload, 1) := by decide +kernel
theorem d252_1032 : fet 252 1032 = .ok (.invokevirtual 126, 3) := by decide +kernel
theorem d252_1035 : fet 252 1035 = .ok (.aload_n 2, 1) := by decide +kernel
theorem d252_1036 : fet 252 1036 = .ok (.aload_n 0, 1) := by decide +kernel
theorem d252_1037 : fet 252 1037 = .ok (.iload_n 3, 1) := by decide +kernel
theorem d252_1038 : fet 252 1038 = .ok (.iconst 1, 1) := by decide +kernel
theorem d252_1039 : fet 252 1039 = .ok (.iadd, 1) := by decide +kernel
theorem d252_1040 : fet 252 1040 = .ok (.iaload, 1) := by decide +kernel
theorem d252_1041 : fet 252 1041 = .ok (.aload_n 0, 1) := by decide +kernel
theorem d252_1042 : fet 252 1042 = .ok (.iload_n 3, 1) := by decide +kernel
theorem d252_1043 : fet 252 1043 = .ok (.iconst 2, 1) := by decide +kernel
theorem d252_1044 : fet 252 1044 = .ok (.iadd, 1) := by decide +kernel
theorem d252_1045 : fet 252 1045 = .ok (.iaload, 1) := by decide +kernel
theorem d252_1046 : fet 252 1046 = .ok (.invokevirtual 129, 3) := by decide +kernel
theorem d252_1049 : fet 252 1049 = .ok (.if_icmp .eq 255, 3) := by decide +kernel
theorem d252_1052 : fet 252 1052 = .ok (.iconst 0, 1) := by decide +kernel
theorem d252_1053 : fet 252 1053 = .ok (.ireturn, 1) := by decide +kernel
theorem d252_1054 : fet 252 1054 = .ok (.aload_n 1, 1) := by decide +kernel
theorem d252_1055 : fet 252 1055 = .ok (.aload_n 0, 1) := by decide +kernel
theorem d252_1056 : fet 252 1056 = .ok (.iload_n 3, 1) := by decide +kernel
theorem d252_1057 : fet 252 1057 = .ok (.iconst 1, 1) := by decide +kernel
theorem d252_1058 : fet 252 1058 = .ok (.iadd, 1) := by decide +kernel
theorem d252_1059 : fet 252 1059 = .ok (.iaload, 1) := by decide +kernel
theorem d252_1060 : fet 252 1060 = .ok (.aload_n 0, 1) := by decide +kernel
theorem d252_1061 : fet 252 1061 = .ok (.iload_n 3, 1) := by decide +kernel
theorem d252_1062 : fet 252 1062 = .ok (.iconst 2, 1) := by decide +kernel
theorem d252_1063 : fet 252 1063 = .ok (.iadd, 1) := by decide +kernel
theorem d252_1064 : fet 252 1064 = .ok (.iaload, 1) := by decide +kernel
theorem d252_1065 : fet 252 1065 = .ok (.aload_n 0, 1) := by decide +kernel
theorem d252_1066 : fet 252 1066 = .ok (.iload_n 3, 1) := by decide +kernel
theorem d252_1067 : fet 252 1067 = .ok (.iconst 3, 1) := by decide +kernel
theorem d252_1068 : fet 252 1068 = .ok (.iadd, 1) := by decide +kernel
theorem d252_1069 : fet 252 1069 = .ok (.iaload, 1) := by decide +kernel
theorem d252_1070 : fet 252 1070 = .ok (.invokevirtual 130, 3) := by decide +kernel
theorem d252_1073 : fet 252 1073 = .ok (.aload_n 2, 1) := by decide +kernel
theorem d252_1074 : fet 252 1074 = .ok (.aload_n 0, 1) := by decide +kernel
theorem d252_1075 : fet 252 1075 = .ok (.iload_n 3, 1) := by decide +kernel
theorem d252_1076 : fet 252 1076 = .ok (.iconst 1, 1) := by decide +kernel
theorem d252_1077 : fet 252 1077 = .ok (.iadd, 1) := by decide +kernel
theorem d252_1078 : fet 252 1078 = .ok (.iaload, 1) := by decide +kernel
theorem d252_1079 : fet 252 1079 = .ok (.aload_n 0, 1) := by decide +kernel
theorem d252_1080 : fet 252 1080 = .ok (.iload_n 3, 1) := by decide +kernel
theorem d252_1081 : fet 252 1081 = .ok (.iconst 2, 1) := by decide +kernel
theorem d252_1082 : fet 252 1082 = .ok (.iadd, 1) := by decide +kernel
theorem d252_1083 : fet 252 1083 = .ok (.iaload, 1) := by decide +kernel
theorem d252_1084 : fet 252 1084 = .ok (.aload_n 0, 1) := by decide +kernel
theorem d252_1085 : fet 252 1085 = .ok (.iload_n 3, 1) := by decide +kernel
theorem d252_1086 : fet 252 1086 = .ok (.iconst 3, 1) := by decide +kernel
theorem d252_1087 : fet 252 1087 = .ok (.iadd, 1) := by decide +kernel
theorem d252_1088 : fet 252 1088 = .ok (.iaload, 1) := by decide +kernel
theorem d252_1089 : fet 252 1089 = .ok (.invokevirtual 133, 3) := by decide +kernel
theorem d252_1092 : fet 252 1092 = .ok (.if_icmp .eq 212, 3) := by decide +kernel
theorem d252_1095 : fet 252 1095 = .ok (.iconst 0, 1) := by decide +kernel
theorem d252_1096 : fet 252 1096 = .ok (.ireturn, 1) := by decide +kernel
theorem d252_1097 : fet 252 1097 = .ok (.aload_n 1, 1) := by decide +kernel
theorem d252_1098 : fet 252 1098 = .ok (.invokevirtual 134, 3) := by decide +kernel
theorem d252_1101 : fet 252 1101 = .ok (.aload_n 2, 1) := by decide +kernel
theorem d252_1102 : fet 252 1102 = .ok (.invokevirtual 137, 3) := by decide +kernel
theorem d252_1105 : fet 252 1105 = .ok (.if_icmp .eq 199, 3) := by decide +kernel
theorem d252_1108 : fet 252 1108 = .ok (.iconst 0, 1) := by decide +kernel
theorem d252_1109 : fet 252 1109 = .ok (.ireturn, 1) := by decide +kernel
theorem d252_1110 : fet 252 1110 = .ok (.aload_n 1, 1) := by decide +kernel
theorem d252_1111 : fet 252 1111 = .ok (.aload_n 0, 1) := by decide +kernel
theorem d252_1112 : fet 252 1112 = .ok (.iload_n 3, 1) := by decide +kernel
theorem d252_1113 : fet 252 1113 = .ok (.iconst 1, 1) := by decide +kernel
theorem d252_1114 : fet 252 1114 = .ok (.iadd, 1) := by decide +kernel
theorem d252_1115 : fet 252 1115 = .ok (.iaload, 1) := by decide +kernel
theorem d252_1116 : fet 252 1116 = .ok (.invokevirtual 138, 3) := by decide +kernel
theorem d252_1119 : fet 252 1119 = .ok (.aload_n 2, 1) := by decide +kernel
theorem d252_1120 : fet 252 1120 = .ok (.aload_n 0, 1) := by decide +kernel
theorem d252_1121 : fet 252 1121 = .ok (.iload_n 3, 1) := by decide +kernel
theorem d252_1122 : fet 252 1122 = .ok (.iconst 1, 1) := by decide +kernel
theorem d252_1123 : fet 252 1123 = .ok (.iadd, 1) := by decide +kernel
theorem d252_1124 : fet 252 1124 = .ok (.iaload, 1) := by decide +kernel
theorem d252_1125 : fet 252 1125 = .ok (.invokevirtual 141, 3) := by decide +kernel
theorem d252_1128 : fet 252 1128 = .ok (.if_icmp .eq 176, 3) := by decide +kernel
theorem d252_1131 : fet 252 1131 = .ok (.iconst 0, 1) := by decide +kernel
theorem d252_1132 : fet 252 1132 = .ok (.ireturn, 1) := by decide +kernel
theorem d252_1133 : fet 252 1133 = .ok (.aload_n 1, 1) := by decide +kernel
theorem d252_1134 : fet 252 1134 = .ok (.aload_n 0, 1) := by decide +kernel
theorem d252_1135 : fet 252 1135 = .ok (.iload_n 3, 1) := by decide +kernel
theorem d252_1136 : fet 252 1136 = .ok (.iconst 1, 1) := by decide +kernel
theorem d252_1137 : fet 252 1137 = .ok (.iadd, 1) := by decide +kernel
theorem d252_1138 : fet 252 1138 = .ok (.iaload, 1) := by decide +kernel
theorem d252_1139 : fet 252 1139 = .ok (.invokevirtual 142, 3) := by decide +kernel
theorem d252_1142 : fet 252 1142 = .ok (.aload_n 2, 1) := by decide +kernel
theorem d252_1143 : fet 252 1143 = .ok (.aload_n 0, 1) := by decide +kernel
theorem d252_1144 : fet 252 1144 = .ok (.iload_n 3, 1) := by decide +kernel
theorem d252_1145 : fet 252 1145 = .ok (.iconst 1, 1) := by decide +kernel
theorem d252_1146 : fet 252 1146 = .ok (.iadd, 1) := by decide +kernel
theorem d252_1147 : fet 252 1147 = .ok (.iaload, 1) := by decide +kernel
theorem d252_1148 : fet 252 1148 = .ok (.invokevirtual 145, 3) := by decide +kernel
theorem d252_1151 : fet 252 1151 = .ok (.if_icmp .eq 153, 3) := by decide +kernel
theorem d252_1154 : fet 252 1154 = .ok (.iconst 0, 1) := by decide +kernel
theorem d252_1155 : fet 252 1155 = .ok (.ireturn, 1) := by decide +kernel
theorem d252_1156 : fet 252 1156 = .ok (.aload_n 1, 1) := by decide +kernel
theorem d252_1157 : fet 252 1157 = .ok (.aload_n 0, 1) := by decide +kernel
theorem d252_1158 : fet 252 1158 = .ok (.iload_n 3, 1) := by decide +kernel
theorem d252_1159 : fet 252 1159 = .ok (.iconst 1, 1) := by decide +kernel
theorem d252_1160 : fet 252 1160 = .ok (.iadd, 1) := by decide +kernel
theorem d252_1161 : fet 252 1161 = .ok (.iaload, 1) := by decide +kernel
theorem d252_1162 : fet 252 1162 = .ok (.invokevirtual 146, 3) := by decide +kernel
theorem d252_1165 : fet 252 1165 = .ok (.aload_n 2, 1) := by decide +kernel
theorem d252_1166 : fet 252 1166 = .ok (.aload_n 0, 1) := by decide +kernel
theorem d252_1167 : fet 252 1167 = .ok (.iload_n 3, 1) := by decide +kernel
theorem d252_1168 : fet 252 1168 = .ok (.iconst 1, 1) := by decide +kernel
theorem d252_1169 : fet 252 1169 = .ok (.iadd, 1) := by decide +kernel
theorem d252_1170 : fet 252 1170 = .ok (.iaload, 1) := by decide +kernel
theorem d252_1171 : fet 252 1171 = .ok (.invokevirtual 149, 3) := by decide +kernel
theorem d252_1174 : fet 252 1174 = .ok (.if_icmp .eq 130, 3) := by decide +kernel
theorem d252_1177 : fet 252 1177 = .ok (.iconst 0, 1) := by decide +kernel
theorem d252_1178 : fet 252 1178 = .ok (.ireturn, 1) := by decide +kernel
theorem d252_1179 : fet 252 1179 = .ok (.aload_n 1, 1) := by decide +kernel
theorem d252_1180 : fet 252 1180 = .ok (.aload_n 0, 1) := by decide +kernel
theorem d252_1181 : fet 252 1181 = .ok (.iload_n 3, 1) := by decide +kernel
theorem d252_1182 : fet 252 1182 = .ok (.iconst 1, 1) := by decide +kernel
theorem d252_1183 : fet 252 1183 = .ok (.iadd, 1) := by decide +kernel
theorem d252_1184 : fet 252 1184 = .ok (.iaload, 1) := by decide +kernel
theorem d252_1185 : fet 252 1185 = .ok (.aload_n 0, 1) := by decide +kernel
theorem d252_1186 : fet 252 1186 = .ok (.iload_n 3, 1) := by decide +kernel
theorem d252_1187 : fet 252 1187 = .ok (.iconst 2, 1) := by decide +kernel
theorem d252_1188 : fet 252 1188 = .ok (.iadd, 1) := by decide +kernel
theorem d252_1189 : fet 252 1189 = .ok (.iaload, 1) := by decide +kernel
theorem d252_1190 : fet 252 1190 = .ok (.invokevirtual 150, 3) := by decide +kernel
theorem d252_1193 : fet 252 1193 = .ok (.aload_n 2, 1) := by decide +kernel
theorem d252_1194 : fet 252 1194 = .ok (.aload_n 0, 1) := by decide +kernel
theorem d252_1195 : fet 252 1195 = .ok (.iload_n 3, 1) := by decide +kernel
theorem d252_1196 : fet 252 1196 = .ok (.iconst 1, 1) := by decide +kernel
theorem d252_1197 : fet 252 1197 = .ok (.iadd, 1) := by decide +kernel
theorem d252_1198 : fet 252 1198 = .ok (.iaload, 1) := by decide +kernel
theorem d252_1199 : fet 252 1199 = .ok (.aload_n 0, 1) := by decide +kernel
theorem d252_1200 : fet 252 1200 = .ok (.iload_n 3, 1) := by decide +kernel
theorem d252_1201 : fet 252 1201 = .ok (.iconst 2, 1) := by decide +kernel
theorem d252_1202 : fet 252 1202 = .ok (.iadd, 1) := by decide +kernel
theorem d252_1203 : fet 252 1203 = .ok (.iaload, 1) := by decide +kernel
theorem d252_1204 : fet 252 1204 = .ok (.invokevirtual 153, 3) := by decide +kernel
theorem d252_1207 : fet 252 1207 = .ok (.if_icmp .eq 97, 3) := by decide +kernel
theorem d252_1210 : fet 252 1210 = .ok (.iconst 0, 1) := by decide +kernel
theorem d252_1211 : fet 252 1211 = .ok (.ireturn, 1) := by decide +kernel
theorem d252_1212 : fet 252 1212 = .ok (.aload_n 1, 1) := by decide +kernel
theorem d252_1213 : fet 252 1213 = .ok (.aload_n 0, 1) := by decide +kernel
theorem d252_1214 : fet 252 1214 = .ok (.iload_n 3, 1) := by decide +kernel
theorem d252_1215 : fet 252 1215 = .ok (.iconst 1, 1) := by decide +kernel
theorem d252_1216 : fet 252 1216 = .ok (.iadd, 1) := by decide +kernel
theorem d252_1217 : fet 252 1217 = .ok (.iaload, 1) := by decide +kernel
theorem d252_1218 : fet 252 1218 = .ok (.aload_n 0, 1) := by decide +kernel
theorem d252_1219 : fet 252 1219 = .ok (.iload_n 3, 1) := by decide +kernel
theorem d252_1220 : fet 252 1220 = .ok (.iconst 2, 1) := by decide +kernel
theorem d252_1221 : fet 252 1221 = .ok (.iadd, 1) := by decide +kernel
theorem d252_1222 : fet 252 1222 = .ok (.iaload, 1) := by decide +kernel
theorem d252_1223 : fet 252 1223 = .ok (.invokevirtual 154, 3) := by decide +kernel
theorem d252_1226 : fet 252 1226 = .ok (.aload_n 2, 1) := by decide +kernel
theorem d252_1227 : fet 252 1227 = .ok (.aload_n 0, 1) := by decide +kernel
theorem d252_1228 : fet 252 1228 = .ok (.iload_n 3, 1) := by decide +kernel
theorem d252_1229 : fet 252 1229 = .ok (.iconst 1, 1) := by decide +kernel
theorem d252_1230 : fet 252 1230 = .ok (.iadd, 1) := by decide +kernel
theorem d252_1231 : fet 252 1231 = .ok (.iaload, 1) := by decide +kernel
theorem d252_1232 : fet 252 1232 = .ok (.aload_n 0, 1) := by decide +kernel
theorem d252_1233 : fet 252 1233 = .ok (.iload_n 3, 1) := by decide +kernel
theorem d252_1234 : fet 252 1234 = .ok (.iconst 2, 1) := by decide +kernel
theorem d252_1235 : fet 252 1235 = .ok (.iadd, 1) := by decide +kernel
theorem d252_1236 : fet 252 1236 = .ok (.iaload, 1) := by decide +kernel
theorem d252_1237 : fet 252 1237 = .ok (.invokevirtual 157, 3) := by decide +kernel
theorem d252_1240 : fet 252 1240 = .ok (.if_icmp .eq 64, 3) := by decide +kernel
theorem d252_1243 : fet 252 1243 = .ok (.iconst 0, 1) := by decide +kernel
theorem d252_1244 : fet 252 1244 = .ok (.ireturn, 1) := by decide +kernel
theorem d252_1245 : fet 252 1245 = .ok (.aload_n 1, 1) := by decide +kernel
theorem d252_1246 : fet 252 1246 = .ok (.aload_n 0, 1) := by decide +kernel
theorem d252_1247 : fet 252 1247 = .ok (.iload_n 3, 1) := by decide +kernel
theorem d252_1248 : fet 252 1248 = .ok (.iconst 1, 1) := by decide +kernel
theorem d252_1249 : fet 252 1249 = .ok (.iadd, 1) := by decide +kernel
theorem d252_1250 : fet 252 1250 = .ok (.iaload, 1) := by decide +kernel
theorem d252_1251 : fet 252 1251 = .ok (.invokevirtual 158, 3) := by decide +kernel
theorem d252_1254 : fet 252 1254 = .ok (.aload_n 2, 1) := by decide +kernel
theorem d252_1255 : fet 252 1255 = .ok (.aload_n 0, 1) := by decide +kernel
theorem d252_1256 : fet 252 1256 = .ok (.iload_n 3, 1) := by decide +kernel
theorem d252_1257 : fet 252 1257 = .ok (.iconst 1, 1) := by decide +kernel
theorem d252_1258 : fet 252 1258 = .ok (.iadd, 1) := by decide +kernel
theorem d252_1259 : fet 252 1259 = .ok (.iaload, 1) := by decide +kernel
theorem d252_1260 : fet 252 1260 = .ok (.invokevirtual 161, 3) := by decide +kernel
theorem d252_1263 : fet 252 1263 = .ok (.if_icmp .eq 41, 3) := by decide +kernel
theorem d252_1266 : fet 252 1266 = .ok (.iconst 0, 1) := by decide +kernel
theorem d252_1267 : fet 252 1267 = .ok (.ireturn, 1) := by decide +kernel
theorem d252_1268 : fet 252 1268 = .ok (.aload_n 1, 1) := by decide +kernel
theorem d252_1269 : fet 252 1269 = .ok (.aload_n 0, 1) := by decide +kernel
theorem d252_1270 : fet 252 1270 = .ok (.iload_n 3, 1) := by decide +kernel
theorem d252_1271 : fet 252 1271 = .ok (.iconst 1, 1) := by decide +kernel
theorem d252_1272 : fet 252 1272 = .ok (.iadd, 1) := by decide +kernel
theorem d252_1273 : fet 252 1273 = .ok (.iaload, 1) := by decide +kernel
theorem d252_1274 : fet 252 1274 = .ok (.invokevirtual 162, 3) := by decide +kernel
theorem d252_1277 : fet 252 1277 = .ok (.aload_n 2, 1) := by decide +kernel
theorem d252_1278 : fet 252 1278 = .ok (.aload_n 0, 1) := by decide +kernel
theorem d252_1279 : fet 252 1279 = .ok (.iload_n 3, 1) := by decide +kernel
theorem d252_1280 : fet 252 1280 = .ok (.iconst 1, 1) := by decide +kernel
theorem d252_1281 : fet 252 1281 = .ok (.iadd, 1) := by decide +kernel
theorem d252_1282 : fet 252 1282 = .ok (.iaload, 1) := by decide +kernel
theorem d252_1283 : fet 252 1283 = .ok (.invokevirtual 165, 3) := by decide +kernel
theorem d252_1286 : fet 252 1286 = .ok (.if_icmp .eq 18, 3) := by decide +kernel
theorem d252_1289 : fet 252 1289 = .ok (.iconst 0, 1) := by decide +kernel
theorem d252_1290 : fet 252 1290 = .ok (.ireturn, 1) := by decide +kernel
theorem d252_1291 : fet 252 1291 = .ok (.aload_n 1, 1) := by decide +kernel
theorem d252_1292 : fet 252 1292 = .ok (.invokevirtual 166, 3) := by decide +kernel
theorem d252_1295 : fet 252 1295 = .ok (.aload_n 2, 1) := by decide +kernel
theorem d252_1296 : fet 252 1296 = .ok (.invokevirtual 169, 3) := by decide +kernel
theorem d252_1299 : fet 252 1299 = .ok (.if_icmp .eq 5, 3) := by decide +kernel
theorem d252_1302 : fet 252 1302 = .ok (.iconst 0, 1) := by decide +kernel
theorem d252_1303 : fet 252 1303 = .ok (.ireturn, 1) := by decide +kernel
theorem d252_1304 : fet 252 1304 = .ok (.iinc 3 6, 3) := by decide +kernel
theorem d252_1307 : fet 252 1307 = .ok (.goto (-1289), 3) := by decide +kernel
theorem d252_1310 : fet 252 1310 = .ok (.iconst 1, 1) := by decide +kernel
theorem d252_1311 : fet 252 1311 = .ok (.ireturn, 1) := by decide +kernel
end
section
/-! the reference: its references, small methods (printed by wip/whole/m30.py) -/
theorem rcv0 {av : List AV} {h : Hp} : rcv none av h := fun _ w => by cases w
theorem rcv1 {o ci : Nat} {t : List AV} {h : Hp} (hsh : SH o = (0, ci)) (ho : o < hn h) : rcv (some ci) (vR (some o) :: t) h := fun _ w => by cases w; exact ⟨o, t, rfl, hsh, ho⟩
def RML : List (Nat × Nat) := [(0, 51), (1, 52), (2, 53), (3, 54), (5, 55), (6, 56), (7, 57), (9, 58), (17, 59), (18, 60), (19, 61), (20, 62), (21, 63), (22, 64)]
def RM (h : Hp) : Prop := ∀ q ∈ RML, hr h 50 q.1 = some q.2
theorem rfm0 {h : Hp} (hM : RM h) : hr h 50 0 = some 51 := hM (0, 51) (by decide)
theorem rfm1 {h : Hp} (hM : RM h) : hr h 50 1 = some 52 := hM (1, 52) (by decide)
theorem rfm2 {h : Hp} (hM : RM h) : hr h 50 2 = some 53 := hM (2, 53) (by decide)
theorem rfm3 {h : Hp} (hM : RM h) : hr h 50 3 = some 54 := hM (3, 54) (by decide)
theorem rfm5 {h : Hp} (hM : RM h) : hr h 50 5 = some 55 := hM (5, 55) (by decide)
theorem rfm6 {h : Hp} (hM : RM h) : hr h 50 6 = some 56 := hM (6, 56) (by decide)
theorem rfm7 {h : Hp} (hM : RM h) : hr h 50 7 = some 57 := hM (7, 57) (by decide)
theorem rfm9 {h : Hp} (hM : RM h) : hr h 50 9 = some 58 := hM (9, 58) (by decide)
theorem rfm17 {h : Hp} (hM : RM h) : hr h 50 17 = some 59 := hM (17, 59) (by decide)
theorem rfm18 {h : Hp} (hM : RM h) : hr h 50 18 = some 60 := hM (18, 60) (by decide)
theorem rfm19 {h : Hp} (hM : RM h) : hr h 50 19 = some 61 := hM (19, 61) (by decide)
theorem rfm20 {h : Hp} (hM : RM h) : hr h 50 20 = some 62 := hM (20, 62) (by decide)
theorem rfm21 {h : Hp} (hM : RM h) : hr h 50 21 = some 63 := hM (21, 63) (by decide)
theorem rfm22 {h : Hp} (hM : RM h) : hr h 50 22 = some 64 := hM (22, 64) (by decide)
theorem s_in {d : Nat} {h : Hp} {Q : Option AV → Hp → Prop} {v a b : Int32} (k : Q (some (vI (bI (a ≤ v ∧ v ≤ b)))) h) : Spec d 146 [vI v, vI a, vI b] h Q := by
  refine spec_intro (by decide +kernel) rfl (Nat.le_of_ble_eq_true rfl) ?_
  refine r_iload_n (pc' := 1) d146_0 rfl rfl rfl ?_
  refine r_iload_n (pc' := 2) d146_1 rfl rfl rfl ?_
  refine r_icmp_lt 14 (pc' := 5) d146_2 rfl rfl (fun c2 => ?_) (fun c2 => ?_)
  · refine r_iconst (v := 0) (pc' := 15) d146_14 rfl (by decide) ?_
    exact r_iretZ0 d146_15 rfl (qv (b0 (by simp only [Int32.le_iff_toInt_le, Int32.lt_iff_toInt_lt] at *; omega)) k)
  · refine r_iload_n (pc' := 6) d146_5 rfl rfl rfl ?_
    refine r_iload_n (pc' := 7) d146_6 rfl rfl rfl ?_
    refine r_icmp_gt 14 (pc' := 10) d146_7 rfl rfl (fun c7 => ?_) (fun c7 => ?_)
    · refine r_iconst (v := 0) (pc' := 15) d146_14 rfl (by decide) ?_
      exact r_iretZ0 d146_15 rfl (qv (b0 (by simp only [Int32.le_iff_toInt_le, Int32.lt_iff_toInt_lt] at *; omega)) k)
    · refine r_iconst (v := 1) (pc' := 11) d146_10 rfl (by decide) ?_
      refine r_goto 15 d146_11 rfl ?_
      exact r_iretZ1 d146_15 rfl (qv (b1 (by simp only [Int32.le_iff_toInt_le, Int32.lt_iff_toInt_lt] at *; omega)) k)
theorem s_found {d : Nat} {h : Hp} {Q : Option AV → Hp → Prop} {f : Int32} (hN : hn h = 65) (k : Q (some (vI (-1000010 - f))) (seti h 50 8 f)) : Spec d 148 [vR (some 50), vI f] h Q := by
  refine spec_intro (by decide +kernel) rfl (Nat.le_of_ble_eq_true rfl) ?_
  refine r_aload_n (pc' := 1) d148_0 rfl rfl rfl ?_
  refine r_iload_n (pc' := 2) d148_1 rfl rfl rfl ?_
  refine r_putI (pc' := 5) d148_2 rfl o148 sp12_54_12 sh50 (fun w => absurd w (by decide)) (Or.inl rfl) (pl hN rfl) ?_
  refine r_ldc (pc' := 7) d148_5 rfl o148 kc12_58 ?_
  refine r_iload_n (pc' := 8) d148_7 rfl rfl rfl ?_
  refine r_isub (pc' := 9) d148_8 rfl ?_
  exact r_iretI d148_9 rfl k
theorem s_well {d : Nat} {h : Hp} {Q : Option AV → Hp → Prop} {v : Int32} (hN : hn h = 65) (k : Q (some (vI v)) (seti h 50 8 0)) : Spec d 149 [vR (some 50), vI v] h Q := by
  refine spec_intro (by decide +kernel) rfl (Nat.le_of_ble_eq_true rfl) ?_
  refine r_aload_n (pc' := 1) d149_0 rfl rfl rfl ?_
  refine r_iconst (v := 0) (pc' := 2) d149_1 rfl (by decide) ?_
  refine r_putI (pc' := 5) d149_2 rfl o149 sp12_54_12 sh50 (fun w => absurd w (by decide)) (Or.inl rfl) (pl hN rfl) ?_
  refine r_iload_n (pc' := 6) d149_5 rfl rfl rfl ?_
  exact r_iretI d149_6 rfl k
theorem s_isRow {d : Nat} {h : Hp} {Q : Option AV → Hp → Prop} {r : Int32} (k : Q (some (vI (bI (0 ≤ r ∧ r ≤ 7)))) h) : Spec (d + 1) 150 [vI r] h Q := by
  refine spec_intro (by decide +kernel) rfl (Nat.le_of_ble_eq_true rfl) ?_
  refine r_iload_n (pc' := 1) d150_0 rfl rfl rfl ?_
  refine r_iconst (v := 0) (pc' := 2) d150_1 rfl (by decide) ?_
  refine r_bipush (v := 7) (pc' := 4) d150_2 rfl (by decide) ?_
  refine r_call (pc' := 7) [vI _, vI _, vI _] [] d150_4 rfl o150 st12_59 rcv0 rfl (by decide) ⟨rfl, rfl⟩ (Nat.le_of_ble_eq_true rfl) rfl (s_in ?_)
  exact r_iretB d150_7 rfl k
end
