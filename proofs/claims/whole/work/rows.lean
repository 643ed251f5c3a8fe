section
-- ===== PART A: goes FIRST, ahead of the names: the tables' words, and 'selects' of the private methods out of them =====
/-- a private method of a class that the tables say can be made, by its rows of tables_1 -/
def lw_okq (q : MethodName × Nat) : Prop := (q.1.cls ≠ "java/lang/invoke/MethodHandle" ∧ q.1.cls ≠ "java/lang/invoke/VarHandle") ∧ Cond.instantiable q.1.cls q.2 ∈ tables_1 ∧ Cond.privateMethod q.1 ∈ tables_1 ∧ Cond.instanceMethod q.1 ∈ tables_1
theorem lw_p0 : lw_okq (⟨"CoalGrate", "found", "(I)I"⟩, 17) := ⟨⟨by decide +kernel, by decide +kernel⟩, List.mem_of_getElem? (i := 18) (by decide +kernel), List.mem_of_getElem? (i := 345) (by decide +kernel), List.mem_of_getElem? (i := 346) (by decide +kernel)⟩
theorem lw_p1 : lw_okq (⟨"CoalGrate", "answered", "(I)I"⟩, 17) := ⟨⟨by decide +kernel, by decide +kernel⟩, List.mem_of_getElem? (i := 18) (by decide +kernel), List.mem_of_getElem? (i := 354) (by decide +kernel), List.mem_of_getElem? (i := 355) (by decide +kernel)⟩
theorem lw_p2 : lw_okq (⟨"CoalGrate", "remember", "()V"⟩, 17) := ⟨⟨by decide +kernel, by decide +kernel⟩, List.mem_of_getElem? (i := 18) (by decide +kernel), List.mem_of_getElem? (i := 499) (by decide +kernel), List.mem_of_getElem? (i := 500) (by decide +kernel)⟩
theorem lw_p3 : lw_okq (⟨"CoalGrate", "tryAsItLies", "(LCoalGrate$Thing;I)V"⟩, 17) := ⟨⟨by decide +kernel, by decide +kernel⟩, List.mem_of_getElem? (i := 18) (by decide +kernel), List.mem_of_getElem? (i := 696) (by decide +kernel), List.mem_of_getElem? (i := 697) (by decide +kernel)⟩
theorem lw_p4 : lw_okq (⟨"CoalGrate", "readyAt", "(LCoalGrate$Thing;II)I"⟩, 17) := ⟨⟨by decide +kernel, by decide +kernel⟩, List.mem_of_getElem? (i := 18) (by decide +kernel), List.mem_of_getElem? (i := 715) (by decide +kernel), List.mem_of_getElem? (i := 716) (by decide +kernel)⟩
theorem lw_p5 : lw_okq (⟨"CoalGrate", "foretellWarmth", "(II)V"⟩, 17) := ⟨⟨by decide +kernel, by decide +kernel⟩, List.mem_of_getElem? (i := 18) (by decide +kernel), List.mem_of_getElem? (i := 731) (by decide +kernel), List.mem_of_getElem? (i := 732) (by decide +kernel)⟩
theorem lw_p6 : lw_okq (⟨"CoalGrate", "tryFlips", "(IIIIII)V"⟩, 17) := ⟨⟨by decide +kernel, by decide +kernel⟩, List.mem_of_getElem? (i := 18) (by decide +kernel), List.mem_of_getElem? (i := 735) (by decide +kernel), List.mem_of_getElem? (i := 736) (by decide +kernel)⟩
theorem lw_p7 : lw_okq (⟨"CoalGrate", "isBetterWay", "(I)Z"⟩, 17) := ⟨⟨by decide +kernel, by decide +kernel⟩, List.mem_of_getElem? (i := 18) (by decide +kernel), List.mem_of_getElem? (i := 739) (by decide +kernel), List.mem_of_getElem? (i := 740) (by decide +kernel)⟩
theorem lw_p8 : lw_okq (⟨"CoalGrate", "tryMinute", "(IIIIII)V"⟩, 17) := ⟨⟨by decide +kernel, by decide +kernel⟩, List.mem_of_getElem? (i := 18) (by decide +kernel), List.mem_of_getElem? (i := 749) (by decide +kernel), List.mem_of_getElem? (i := 750) (by decide +kernel)⟩
theorem lw_p9 : lw_okq (⟨"CoalGrate", "isDoneStarting", "(LCoalGrate$Thing;III)Z"⟩, 17) := ⟨⟨by decide +kernel, by decide +kernel⟩, List.mem_of_getElem? (i := 18) (by decide +kernel), List.mem_of_getElem? (i := 758) (by decide +kernel), List.mem_of_getElem? (i := 759) (by decide +kernel)⟩
theorem lw_p10 : lw_okq (⟨"CoalGrate", "isDoneWithCoal", "(LCoalGrate$Thing;II)Z"⟩, 17) := ⟨⟨by decide +kernel, by decide +kernel⟩, List.mem_of_getElem? (i := 18) (by decide +kernel), List.mem_of_getElem? (i := 767) (by decide +kernel), List.mem_of_getElem? (i := 768) (by decide +kernel)⟩
theorem lw_p11 : lw_okq (⟨"CoalGrate", "doneAhead", "(I)I"⟩, 17) := ⟨⟨by decide +kernel, by decide +kernel⟩, List.mem_of_getElem? (i := 18) (by decide +kernel), List.mem_of_getElem? (i := 777) (by decide +kernel), List.mem_of_getElem? (i := 778) (by decide +kernel)⟩
theorem lw_p12 : lw_okq (⟨"CoalGrate", "firstFor", "(III)I"⟩, 17) := ⟨⟨by decide +kernel, by decide +kernel⟩, List.mem_of_getElem? (i := 18) (by decide +kernel), List.mem_of_getElem? (i := 781) (by decide +kernel), List.mem_of_getElem? (i := 782) (by decide +kernel)⟩
theorem lw_p13 : lw_okq (⟨"CoalGrate", "tryWholeYard", "()V"⟩, 17) := ⟨⟨by decide +kernel, by decide +kernel⟩, List.mem_of_getElem? (i := 18) (by decide +kernel), List.mem_of_getElem? (i := 789) (by decide +kernel), List.mem_of_getElem? (i := 790) (by decide +kernel)⟩
theorem lw_p14 : lw_okq (⟨"CoalGrate", "tellsTurns", "(III)Z"⟩, 17) := ⟨⟨by decide +kernel, by decide +kernel⟩, List.mem_of_getElem? (i := 18) (by decide +kernel), List.mem_of_getElem? (i := 810) (by decide +kernel), List.mem_of_getElem? (i := 811) (by decide +kernel)⟩
theorem lw_p15 : lw_okq (⟨"CoalGrateModel", "found", "(I)I"⟩, 24) := ⟨⟨by decide +kernel, by decide +kernel⟩, List.mem_of_getElem? (i := 923) (by decide +kernel), List.mem_of_getElem? (i := 1014) (by decide +kernel), List.mem_of_getElem? (i := 1015) (by decide +kernel)⟩
def lw_privs_1 : List (MethodName × Nat) := [(⟨"CoalGrate", "found", "(I)I"⟩, 17), (⟨"CoalGrate", "answered", "(I)I"⟩, 17), (⟨"CoalGrate", "remember", "()V"⟩, 17), (⟨"CoalGrate", "tryAsItLies", "(LCoalGrate$Thing;I)V"⟩, 17), (⟨"CoalGrate", "readyAt", "(LCoalGrate$Thing;II)I"⟩, 17), (⟨"CoalGrate", "foretellWarmth", "(II)V"⟩, 17), (⟨"CoalGrate", "tryFlips", "(IIIIII)V"⟩, 17), (⟨"CoalGrate", "isBetterWay", "(I)Z"⟩, 17), (⟨"CoalGrate", "tryMinute", "(IIIIII)V"⟩, 17), (⟨"CoalGrate", "isDoneStarting", "(LCoalGrate$Thing;III)Z"⟩, 17), (⟨"CoalGrate", "isDoneWithCoal", "(LCoalGrate$Thing;II)Z"⟩, 17), (⟨"CoalGrate", "doneAhead", "(I)I"⟩, 17), (⟨"CoalGrate", "firstFor", "(III)I"⟩, 17), (⟨"CoalGrate", "tryWholeYard", "()V"⟩, 17), (⟨"CoalGrate", "tellsTurns", "(III)Z"⟩, 17), (⟨"CoalGrateModel", "found", "(I)I"⟩, 24)]
theorem lw_r1 : ∀ q ∈ lw_privs_1, lw_okq q := List.forall_mem_cons.mpr ⟨lw_p0, List.forall_mem_cons.mpr ⟨lw_p1, List.forall_mem_cons.mpr ⟨lw_p2, List.forall_mem_cons.mpr ⟨lw_p3, List.forall_mem_cons.mpr ⟨lw_p4, List.forall_mem_cons.mpr ⟨lw_p5, List.forall_mem_cons.mpr ⟨lw_p6, List.forall_mem_cons.mpr ⟨lw_p7, List.forall_mem_cons.mpr ⟨lw_p8, List.forall_mem_cons.mpr ⟨lw_p9, List.forall_mem_cons.mpr ⟨lw_p10, List.forall_mem_cons.mpr ⟨lw_p11, List.forall_mem_cons.mpr ⟨lw_p12, List.forall_mem_cons.mpr ⟨lw_p13, List.forall_mem_cons.mpr ⟨lw_p14, List.forall_mem_cons.mpr ⟨lw_p15, fun _ h => absurd h List.not_mem_nil⟩⟩⟩⟩⟩⟩⟩⟩⟩⟩⟩⟩⟩⟩⟩⟩
theorem lw_p16 : lw_okq (⟨"CoalGrateModel", "well", "(I)I"⟩, 24) := ⟨⟨by decide +kernel, by decide +kernel⟩, List.mem_of_getElem? (i := 923) (by decide +kernel), List.mem_of_getElem? (i := 1019) (by decide +kernel), List.mem_of_getElem? (i := 1020) (by decide +kernel)⟩
theorem lw_p17 : lw_okq (⟨"CoalGrateModel", "isSpan", "(III)Z"⟩, 24) := ⟨⟨by decide +kernel, by decide +kernel⟩, List.mem_of_getElem? (i := 923) (by decide +kernel), List.mem_of_getElem? (i := 1031) (by decide +kernel), List.mem_of_getElem? (i := 1032) (by decide +kernel)⟩
theorem lw_p18 : lw_okq (⟨"CoalGrateModel", "next", "()V"⟩, 24) := ⟨⟨by decide +kernel, by decide +kernel⟩, List.mem_of_getElem? (i := 923) (by decide +kernel), List.mem_of_getElem? (i := 1048) (by decide +kernel), List.mem_of_getElem? (i := 1049) (by decide +kernel)⟩
theorem lw_p19 : lw_okq (⟨"CoalGrateModel", "byteAt", "(I)I"⟩, 24) := ⟨⟨by decide +kernel, by decide +kernel⟩, List.mem_of_getElem? (i := 923) (by decide +kernel), List.mem_of_getElem? (i := 1052) (by decide +kernel), List.mem_of_getElem? (i := 1053) (by decide +kernel)⟩
theorem lw_p20 : lw_okq (⟨"CoalGrateModel", "readGrate", "()V"⟩, 24) := ⟨⟨by decide +kernel, by decide +kernel⟩, List.mem_of_getElem? (i := 923) (by decide +kernel), List.mem_of_getElem? (i := 1056) (by decide +kernel), List.mem_of_getElem? (i := 1057) (by decide +kernel)⟩
theorem lw_p21 : lw_okq (⟨"CoalGrateModel", "must", "(ZI)V"⟩, 24) := ⟨⟨by decide +kernel, by decide +kernel⟩, List.mem_of_getElem? (i := 923) (by decide +kernel), List.mem_of_getElem? (i := 1060) (by decide +kernel), List.mem_of_getElem? (i := 1061) (by decide +kernel)⟩
theorem lw_p22 : lw_okq (⟨"CoalGrateModel", "goesOn", "()V"⟩, 24) := ⟨⟨by decide +kernel, by decide +kernel⟩, List.mem_of_getElem? (i := 923) (by decide +kernel), List.mem_of_getElem? (i := 1064) (by decide +kernel), List.mem_of_getElem? (i := 1065) (by decide +kernel)⟩
theorem lw_p23 : lw_okq (⟨"CoalGrateModel", "readNumber", "(II)I"⟩, 24) := ⟨⟨by decide +kernel, by decide +kernel⟩, List.mem_of_getElem? (i := 923) (by decide +kernel), List.mem_of_getElem? (i := 1068) (by decide +kernel), List.mem_of_getElem? (i := 1069) (by decide +kernel)⟩
theorem lw_p24 : lw_okq (⟨"CoalGrateModel", "readSign", "(I)V"⟩, 24) := ⟨⟨by decide +kernel, by decide +kernel⟩, List.mem_of_getElem? (i := 923) (by decide +kernel), List.mem_of_getElem? (i := 1072) (by decide +kernel), List.mem_of_getElem? (i := 1073) (by decide +kernel)⟩
theorem lw_p25 : lw_okq (⟨"CoalGrateModel", "isLetter", "(I)Z"⟩, 24) := ⟨⟨by decide +kernel, by decide +kernel⟩, List.mem_of_getElem? (i := 923) (by decide +kernel), List.mem_of_getElem? (i := 1076) (by decide +kernel), List.mem_of_getElem? (i := 1077) (by decide +kernel)⟩
theorem lw_p26 : lw_okq (⟨"CoalGrateModel", "readCoal", "()V"⟩, 24) := ⟨⟨by decide +kernel, by decide +kernel⟩, List.mem_of_getElem? (i := 923) (by decide +kernel), List.mem_of_getElem? (i := 1080) (by decide +kernel), List.mem_of_getElem? (i := 1081) (by decide +kernel)⟩
theorem lw_p27 : lw_okq (⟨"CoalGrateModel", "isSort", "()Z"⟩, 24) := ⟨⟨by decide +kernel, by decide +kernel⟩, List.mem_of_getElem? (i := 923) (by decide +kernel), List.mem_of_getElem? (i := 1084) (by decide +kernel), List.mem_of_getElem? (i := 1085) (by decide +kernel)⟩
theorem lw_p28 : lw_okq (⟨"CoalGrateModel", "sortOf", "(I)I"⟩, 24) := ⟨⟨by decide +kernel, by decide +kernel⟩, List.mem_of_getElem? (i := 923) (by decide +kernel), List.mem_of_getElem? (i := 1088) (by decide +kernel), List.mem_of_getElem? (i := 1089) (by decide +kernel)⟩
theorem lw_p29 : lw_okq (⟨"CoalGrateModel", "readThing", "()V"⟩, 24) := ⟨⟨by decide +kernel, by decide +kernel⟩, List.mem_of_getElem? (i := 923) (by decide +kernel), List.mem_of_getElem? (i := 1092) (by decide +kernel), List.mem_of_getElem? (i := 1093) (by decide +kernel)⟩
theorem lw_p30 : lw_okq (⟨"CoalGrateModel", "isTold", "(I)Z"⟩, 24) := ⟨⟨by decide +kernel, by decide +kernel⟩, List.mem_of_getElem? (i := 923) (by decide +kernel), List.mem_of_getElem? (i := 1096) (by decide +kernel), List.mem_of_getElem? (i := 1097) (by decide +kernel)⟩
theorem lw_p31 : lw_okq (⟨"CoalGrateModel", "readEater", "()V"⟩, 24) := ⟨⟨by decide +kernel, by decide +kernel⟩, List.mem_of_getElem? (i := 923) (by decide +kernel), List.mem_of_getElem? (i := 1100) (by decide +kernel), List.mem_of_getElem? (i := 1101) (by decide +kernel)⟩
def lw_privs_2 : List (MethodName × Nat) := [(⟨"CoalGrateModel", "well", "(I)I"⟩, 24), (⟨"CoalGrateModel", "isSpan", "(III)Z"⟩, 24), (⟨"CoalGrateModel", "next", "()V"⟩, 24), (⟨"CoalGrateModel", "byteAt", "(I)I"⟩, 24), (⟨"CoalGrateModel", "readGrate", "()V"⟩, 24), (⟨"CoalGrateModel", "must", "(ZI)V"⟩, 24), (⟨"CoalGrateModel", "goesOn", "()V"⟩, 24), (⟨"CoalGrateModel", "readNumber", "(II)I"⟩, 24), (⟨"CoalGrateModel", "readSign", "(I)V"⟩, 24), (⟨"CoalGrateModel", "isLetter", "(I)Z"⟩, 24), (⟨"CoalGrateModel", "readCoal", "()V"⟩, 24), (⟨"CoalGrateModel", "isSort", "()Z"⟩, 24), (⟨"CoalGrateModel", "sortOf", "(I)I"⟩, 24), (⟨"CoalGrateModel", "readThing", "()V"⟩, 24), (⟨"CoalGrateModel", "isTold", "(I)Z"⟩, 24), (⟨"CoalGrateModel", "readEater", "()V"⟩, 24)]
theorem lw_r2 : ∀ q ∈ lw_privs_2, lw_okq q := List.forall_mem_cons.mpr ⟨lw_p16, List.forall_mem_cons.mpr ⟨lw_p17, List.forall_mem_cons.mpr ⟨lw_p18, List.forall_mem_cons.mpr ⟨lw_p19, List.forall_mem_cons.mpr ⟨lw_p20, List.forall_mem_cons.mpr ⟨lw_p21, List.forall_mem_cons.mpr ⟨lw_p22, List.forall_mem_cons.mpr ⟨lw_p23, List.forall_mem_cons.mpr ⟨lw_p24, List.forall_mem_cons.mpr ⟨lw_p25, List.forall_mem_cons.mpr ⟨lw_p26, List.forall_mem_cons.mpr ⟨lw_p27, List.forall_mem_cons.mpr ⟨lw_p28, List.forall_mem_cons.mpr ⟨lw_p29, List.forall_mem_cons.mpr ⟨lw_p30, List.forall_mem_cons.mpr ⟨lw_p31, fun _ h => absurd h List.not_mem_nil⟩⟩⟩⟩⟩⟩⟩⟩⟩⟩⟩⟩⟩⟩⟩⟩
theorem lw_p32 : lw_okq (⟨"CoalGrateModel", "isYard", "()Z"⟩, 24) := ⟨⟨by decide +kernel, by decide +kernel⟩, List.mem_of_getElem? (i := 923) (by decide +kernel), List.mem_of_getElem? (i := 1113) (by decide +kernel), List.mem_of_getElem? (i := 1114) (by decide +kernel)⟩
theorem lw_p33 : lw_okq (⟨"CoalGrateModel", "remembers", "()V"⟩, 24) := ⟨⟨by decide +kernel, by decide +kernel⟩, List.mem_of_getElem? (i := 923) (by decide +kernel), List.mem_of_getElem? (i := 1118) (by decide +kernel), List.mem_of_getElem? (i := 1119) (by decide +kernel)⟩
theorem lw_p34 : lw_okq (⟨"CoalGrateModel", "goMinute", "()V"⟩, 24) := ⟨⟨by decide +kernel, by decide +kernel⟩, List.mem_of_getElem? (i := 923) (by decide +kernel), List.mem_of_getElem? (i := 1122) (by decide +kernel), List.mem_of_getElem? (i := 1123) (by decide +kernel)⟩
theorem lw_p35 : lw_okq (⟨"CoalGrateModel", "isOn", "(I)Z"⟩, 24) := ⟨⟨by decide +kernel, by decide +kernel⟩, List.mem_of_getElem? (i := 923) (by decide +kernel), List.mem_of_getElem? (i := 1126) (by decide +kernel), List.mem_of_getElem? (i := 1127) (by decide +kernel)⟩
theorem lw_p36 : lw_okq (⟨"CoalGrateModel", "heatOf", "(I)I"⟩, 24) := ⟨⟨by decide +kernel, by decide +kernel⟩, List.mem_of_getElem? (i := 923) (by decide +kernel), List.mem_of_getElem? (i := 1130) (by decide +kernel), List.mem_of_getElem? (i := 1131) (by decide +kernel)⟩
theorem lw_p37 : lw_okq (⟨"CoalGrateModel", "below", "(I)I"⟩, 24) := ⟨⟨by decide +kernel, by decide +kernel⟩, List.mem_of_getElem? (i := 923) (by decide +kernel), List.mem_of_getElem? (i := 1143) (by decide +kernel), List.mem_of_getElem? (i := 1144) (by decide +kernel)⟩
theorem lw_p38 : lw_okq (⟨"CoalGrateModel", "isGone", "(I)Z"⟩, 24) := ⟨⟨by decide +kernel, by decide +kernel⟩, List.mem_of_getElem? (i := 923) (by decide +kernel), List.mem_of_getElem? (i := 1147) (by decide +kernel), List.mem_of_getElem? (i := 1148) (by decide +kernel)⟩
theorem lw_p39 : lw_okq (⟨"CoalGrateModel", "goThing", "(I)V"⟩, 24) := ⟨⟨by decide +kernel, by decide +kernel⟩, List.mem_of_getElem? (i := 923) (by decide +kernel), List.mem_of_getElem? (i := 1151) (by decide +kernel), List.mem_of_getElem? (i := 1152) (by decide +kernel)⟩
theorem lw_p40 : lw_okq (⟨"CoalGrateModel", "thick", "(I)I"⟩, 24) := ⟨⟨by decide +kernel, by decide +kernel⟩, List.mem_of_getElem? (i := 923) (by decide +kernel), List.mem_of_getElem? (i := 1158) (by decide +kernel), List.mem_of_getElem? (i := 1159) (by decide +kernel)⟩
theorem lw_p41 : lw_okq (⟨"CoalGrateModel", "limit", "(I)I"⟩, 24) := ⟨⟨by decide +kernel, by decide +kernel⟩, List.mem_of_getElem? (i := 923) (by decide +kernel), List.mem_of_getElem? (i := 1162) (by decide +kernel), List.mem_of_getElem? (i := 1163) (by decide +kernel)⟩
theorem lw_p42 : lw_okq (⟨"CoalGrateModel", "isThing", "(I)Z"⟩, 24) := ⟨⟨by decide +kernel, by decide +kernel⟩, List.mem_of_getElem? (i := 923) (by decide +kernel), List.mem_of_getElem? (i := 1170) (by decide +kernel), List.mem_of_getElem? (i := 1171) (by decide +kernel)⟩
theorem lw_p43 : lw_okq (⟨"CoalGrateModel", "isTaken", "(II)Z"⟩, 24) := ⟨⟨by decide +kernel, by decide +kernel⟩, List.mem_of_getElem? (i := 923) (by decide +kernel), List.mem_of_getElem? (i := 1178) (by decide +kernel), List.mem_of_getElem? (i := 1179) (by decide +kernel)⟩
theorem lw_p44 : lw_okq (⟨"CoalGrateModel", "adds", "(II)V"⟩, 24) := ⟨⟨by decide +kernel, by decide +kernel⟩, List.mem_of_getElem? (i := 923) (by decide +kernel), List.mem_of_getElem? (i := 1186) (by decide +kernel), List.mem_of_getElem? (i := 1187) (by decide +kernel)⟩
theorem lw_p45 : lw_okq (⟨"CoalGrateModel", "isWell", "(I)Z"⟩, 24) := ⟨⟨by decide +kernel, by decide +kernel⟩, List.mem_of_getElem? (i := 923) (by decide +kernel), List.mem_of_getElem? (i := 1198) (by decide +kernel), List.mem_of_getElem? (i := 1199) (by decide +kernel)⟩
theorem lw_p46 : lw_okq (⟨"CoalGrateModel", "isThrough", "(I)Z"⟩, 24) := ⟨⟨by decide +kernel, by decide +kernel⟩, List.mem_of_getElem? (i := 923) (by decide +kernel), List.mem_of_getElem? (i := 1202) (by decide +kernel), List.mem_of_getElem? (i := 1203) (by decide +kernel)⟩
theorem lw_p47 : lw_okq (⟨"CoalGrateModel", "need", "(I)I"⟩, 24) := ⟨⟨by decide +kernel, by decide +kernel⟩, List.mem_of_getElem? (i := 923) (by decide +kernel), List.mem_of_getElem? (i := 1206) (by decide +kernel), List.mem_of_getElem? (i := 1207) (by decide +kernel)⟩
def lw_privs_3 : List (MethodName × Nat) := [(⟨"CoalGrateModel", "isYard", "()Z"⟩, 24), (⟨"CoalGrateModel", "remembers", "()V"⟩, 24), (⟨"CoalGrateModel", "goMinute", "()V"⟩, 24), (⟨"CoalGrateModel", "isOn", "(I)Z"⟩, 24), (⟨"CoalGrateModel", "heatOf", "(I)I"⟩, 24), (⟨"CoalGrateModel", "below", "(I)I"⟩, 24), (⟨"CoalGrateModel", "isGone", "(I)Z"⟩, 24), (⟨"CoalGrateModel", "goThing", "(I)V"⟩, 24), (⟨"CoalGrateModel", "thick", "(I)I"⟩, 24), (⟨"CoalGrateModel", "limit", "(I)I"⟩, 24), (⟨"CoalGrateModel", "isThing", "(I)Z"⟩, 24), (⟨"CoalGrateModel", "isTaken", "(II)Z"⟩, 24), (⟨"CoalGrateModel", "adds", "(II)V"⟩, 24), (⟨"CoalGrateModel", "isWell", "(I)Z"⟩, 24), (⟨"CoalGrateModel", "isThrough", "(I)Z"⟩, 24), (⟨"CoalGrateModel", "need", "(I)I"⟩, 24)]
theorem lw_r3 : ∀ q ∈ lw_privs_3, lw_okq q := List.forall_mem_cons.mpr ⟨lw_p32, List.forall_mem_cons.mpr ⟨lw_p33, List.forall_mem_cons.mpr ⟨lw_p34, List.forall_mem_cons.mpr ⟨lw_p35, List.forall_mem_cons.mpr ⟨lw_p36, List.forall_mem_cons.mpr ⟨lw_p37, List.forall_mem_cons.mpr ⟨lw_p38, List.forall_mem_cons.mpr ⟨lw_p39, List.forall_mem_cons.mpr ⟨lw_p40, List.forall_mem_cons.mpr ⟨lw_p41, List.forall_mem_cons.mpr ⟨lw_p42, List.forall_mem_cons.mpr ⟨lw_p43, List.forall_mem_cons.mpr ⟨lw_p44, List.forall_mem_cons.mpr ⟨lw_p45, List.forall_mem_cons.mpr ⟨lw_p46, List.forall_mem_cons.mpr ⟨lw_p47, fun _ h => absurd h List.not_mem_nil⟩⟩⟩⟩⟩⟩⟩⟩⟩⟩⟩⟩⟩⟩⟩⟩
theorem lw_p48 : lw_okq (⟨"CoalGrateModel", "servedNow", "()I"⟩, 24) := ⟨⟨by decide +kernel, by decide +kernel⟩, List.mem_of_getElem? (i := 923) (by decide +kernel), List.mem_of_getElem? (i := 1210) (by decide +kernel), List.mem_of_getElem? (i := 1211) (by decide +kernel)⟩
theorem lw_p49 : lw_okq (⟨"CoalGrateModel", "holds", "()V"⟩, 24) := ⟨⟨by decide +kernel, by decide +kernel⟩, List.mem_of_getElem? (i := 923) (by decide +kernel), List.mem_of_getElem? (i := 1238) (by decide +kernel), List.mem_of_getElem? (i := 1239) (by decide +kernel)⟩
theorem lw_p50 : lw_okq (⟨"CoalGrateModel", "go", "(I)V"⟩, 24) := ⟨⟨by decide +kernel, by decide +kernel⟩, List.mem_of_getElem? (i := 923) (by decide +kernel), List.mem_of_getElem? (i := 1242) (by decide +kernel), List.mem_of_getElem? (i := 1243) (by decide +kernel)⟩
theorem lw_p51 : lw_okq (⟨"CoalGrateModel", "above", "(I)I"⟩, 24) := ⟨⟨by decide +kernel, by decide +kernel⟩, List.mem_of_getElem? (i := 923) (by decide +kernel), List.mem_of_getElem? (i := 1246) (by decide +kernel), List.mem_of_getElem? (i := 1247) (by decide +kernel)⟩
theorem lw_p52 : lw_okq (⟨"CoalGrateModel", "putsBack", "()V"⟩, 24) := ⟨⟨by decide +kernel, by decide +kernel⟩, List.mem_of_getElem? (i := 923) (by decide +kernel), List.mem_of_getElem? (i := 1250) (by decide +kernel), List.mem_of_getElem? (i := 1251) (by decide +kernel)⟩
theorem lw_p53 : lw_okq (⟨"CoalGrateModel", "readyIn", "(II)I"⟩, 24) := ⟨⟨by decide +kernel, by decide +kernel⟩, List.mem_of_getElem? (i := 923) (by decide +kernel), List.mem_of_getElem? (i := 1262) (by decide +kernel), List.mem_of_getElem? (i := 1263) (by decide +kernel)⟩
theorem lw_p54 : lw_okq (⟨"CoalGrateModel", "isWellBy", "(III)Z"⟩, 24) := ⟨⟨by decide +kernel, by decide +kernel⟩, List.mem_of_getElem? (i := 923) (by decide +kernel), List.mem_of_getElem? (i := 1281) (by decide +kernel), List.mem_of_getElem? (i := 1282) (by decide +kernel)⟩
theorem lw_p55 : lw_okq (⟨"CoalGrateModel", "most", "(III)I"⟩, 24) := ⟨⟨by decide +kernel, by decide +kernel⟩, List.mem_of_getElem? (i := 923) (by decide +kernel), List.mem_of_getElem? (i := 1297) (by decide +kernel), List.mem_of_getElem? (i := 1298) (by decide +kernel)⟩
theorem lw_p56 : lw_okq (⟨"CoalGrateModel", "mayGet", "(III)Z"⟩, 24) := ⟨⟨by decide +kernel, by decide +kernel⟩, List.mem_of_getElem? (i := 923) (by decide +kernel), List.mem_of_getElem? (i := 1304) (by decide +kernel), List.mem_of_getElem? (i := 1305) (by decide +kernel)⟩
theorem lw_p57 : lw_okq (⟨"CoalGrateModel", "handles", "()I"⟩, 24) := ⟨⟨by decide +kernel, by decide +kernel⟩, List.mem_of_getElem? (i := 923) (by decide +kernel), List.mem_of_getElem? (i := 1312) (by decide +kernel), List.mem_of_getElem? (i := 1313) (by decide +kernel)⟩
theorem lw_p58 : lw_okq (⟨"CoalGrateModel", "setOf", "(Z)I"⟩, 24) := ⟨⟨by decide +kernel, by decide +kernel⟩, List.mem_of_getElem? (i := 923) (by decide +kernel), List.mem_of_getElem? (i := 1316) (by decide +kernel), List.mem_of_getElem? (i := 1317) (by decide +kernel)⟩
theorem lw_p59 : lw_okq (⟨"CoalGrateModel", "areItems", "(III)Z"⟩, 24) := ⟨⟨by decide +kernel, by decide +kernel⟩, List.mem_of_getElem? (i := 923) (by decide +kernel), List.mem_of_getElem? (i := 1324) (by decide +kernel), List.mem_of_getElem? (i := 1325) (by decide +kernel)⟩
theorem lw_p60 : lw_okq (⟨"CoalGrateModel", "fireNow", "()I"⟩, 24) := ⟨⟨by decide +kernel, by decide +kernel⟩, List.mem_of_getElem? (i := 923) (by decide +kernel), List.mem_of_getElem? (i := 1332) (by decide +kernel), List.mem_of_getElem? (i := 1333) (by decide +kernel)⟩
theorem lw_p61 : lw_okq (⟨"CoalGrateModel", "sizeOf", "(I)I"⟩, 24) := ⟨⟨by decide +kernel, by decide +kernel⟩, List.mem_of_getElem? (i := 923) (by decide +kernel), List.mem_of_getElem? (i := 1356) (by decide +kernel), List.mem_of_getElem? (i := 1357) (by decide +kernel)⟩
theorem lw_p62 : lw_okq (⟨"CoalGrateModel", "sizeOfCheese", "(I)I"⟩, 24) := ⟨⟨by decide +kernel, by decide +kernel⟩, List.mem_of_getElem? (i := 923) (by decide +kernel), List.mem_of_getElem? (i := 1360) (by decide +kernel), List.mem_of_getElem? (i := 1361) (by decide +kernel)⟩
theorem lw_p63 : lw_okq (⟨"CoalGrateModel", "begins", "(I)V"⟩, 24) := ⟨⟨by decide +kernel, by decide +kernel⟩, List.mem_of_getElem? (i := 923) (by decide +kernel), List.mem_of_getElem? (i := 1364) (by decide +kernel), List.mem_of_getElem? (i := 1365) (by decide +kernel)⟩
def lw_privs_4 : List (MethodName × Nat) := [(⟨"CoalGrateModel", "servedNow", "()I"⟩, 24), (⟨"CoalGrateModel", "holds", "()V"⟩, 24), (⟨"CoalGrateModel", "go", "(I)V"⟩, 24), (⟨"CoalGrateModel", "above", "(I)I"⟩, 24), (⟨"CoalGrateModel", "putsBack", "()V"⟩, 24), (⟨"CoalGrateModel", "readyIn", "(II)I"⟩, 24), (⟨"CoalGrateModel", "isWellBy", "(III)Z"⟩, 24), (⟨"CoalGrateModel", "most", "(III)I"⟩, 24), (⟨"CoalGrateModel", "mayGet", "(III)Z"⟩, 24), (⟨"CoalGrateModel", "handles", "()I"⟩, 24), (⟨"CoalGrateModel", "setOf", "(Z)I"⟩, 24), (⟨"CoalGrateModel", "areItems", "(III)Z"⟩, 24), (⟨"CoalGrateModel", "fireNow", "()I"⟩, 24), (⟨"CoalGrateModel", "sizeOf", "(I)I"⟩, 24), (⟨"CoalGrateModel", "sizeOfCheese", "(I)I"⟩, 24), (⟨"CoalGrateModel", "begins", "(I)V"⟩, 24)]
theorem lw_r4 : ∀ q ∈ lw_privs_4, lw_okq q := List.forall_mem_cons.mpr ⟨lw_p48, List.forall_mem_cons.mpr ⟨lw_p49, List.forall_mem_cons.mpr ⟨lw_p50, List.forall_mem_cons.mpr ⟨lw_p51, List.forall_mem_cons.mpr ⟨lw_p52, List.forall_mem_cons.mpr ⟨lw_p53, List.forall_mem_cons.mpr ⟨lw_p54, List.forall_mem_cons.mpr ⟨lw_p55, List.forall_mem_cons.mpr ⟨lw_p56, List.forall_mem_cons.mpr ⟨lw_p57, List.forall_mem_cons.mpr ⟨lw_p58, List.forall_mem_cons.mpr ⟨lw_p59, List.forall_mem_cons.mpr ⟨lw_p60, List.forall_mem_cons.mpr ⟨lw_p61, List.forall_mem_cons.mpr ⟨lw_p62, List.forall_mem_cons.mpr ⟨lw_p63, fun _ h => absurd h List.not_mem_nil⟩⟩⟩⟩⟩⟩⟩⟩⟩⟩⟩⟩⟩⟩⟩⟩
theorem lw_p64 : lw_okq (⟨"CoalGrateModel", "cheeseSize", "(I)I"⟩, 24) := ⟨⟨by decide +kernel, by decide +kernel⟩, List.mem_of_getElem? (i := 923) (by decide +kernel), List.mem_of_getElem? (i := 1368) (by decide +kernel), List.mem_of_getElem? (i := 1369) (by decide +kernel)⟩
theorem lw_p65 : lw_okq (⟨"CoalGrateModel", "lentSize", "(I)I"⟩, 24) := ⟨⟨by decide +kernel, by decide +kernel⟩, List.mem_of_getElem? (i := 923) (by decide +kernel), List.mem_of_getElem? (i := 1372) (by decide +kernel), List.mem_of_getElem? (i := 1373) (by decide +kernel)⟩
theorem lw_p66 : lw_okq (⟨"CoalGrateModel", "sausageSize", "(I)I"⟩, 24) := ⟨⟨by decide +kernel, by decide +kernel⟩, List.mem_of_getElem? (i := 923) (by decide +kernel), List.mem_of_getElem? (i := 1376) (by decide +kernel), List.mem_of_getElem? (i := 1377) (by decide +kernel)⟩
theorem lw_p67 : lw_okq (⟨"CoalGrateModel", "markOfSausages", "(I)I"⟩, 24) := ⟨⟨by decide +kernel, by decide +kernel⟩, List.mem_of_getElem? (i := 923) (by decide +kernel), List.mem_of_getElem? (i := 1380) (by decide +kernel), List.mem_of_getElem? (i := 1381) (by decide +kernel)⟩
theorem lw_p68 : lw_okq (⟨"CoalGrateModel", "sausageMark", "(I)I"⟩, 24) := ⟨⟨by decide +kernel, by decide +kernel⟩, List.mem_of_getElem? (i := 923) (by decide +kernel), List.mem_of_getElem? (i := 1384) (by decide +kernel), List.mem_of_getElem? (i := 1385) (by decide +kernel)⟩
theorem lw_p69 : lw_okq (⟨"CoalGrateModel", "lentMark", "(I)I"⟩, 24) := ⟨⟨by decide +kernel, by decide +kernel⟩, List.mem_of_getElem? (i := 923) (by decide +kernel), List.mem_of_getElem? (i := 1388) (by decide +kernel), List.mem_of_getElem? (i := 1389) (by decide +kernel)⟩
theorem lw_p70 : lw_okq (⟨"CoalGrateModel", "markOf", "(I)I"⟩, 24) := ⟨⟨by decide +kernel, by decide +kernel⟩, List.mem_of_getElem? (i := 923) (by decide +kernel), List.mem_of_getElem? (i := 1392) (by decide +kernel), List.mem_of_getElem? (i := 1393) (by decide +kernel)⟩
def lw_privs_5 : List (MethodName × Nat) := [(⟨"CoalGrateModel", "cheeseSize", "(I)I"⟩, 24), (⟨"CoalGrateModel", "lentSize", "(I)I"⟩, 24), (⟨"CoalGrateModel", "sausageSize", "(I)I"⟩, 24), (⟨"CoalGrateModel", "markOfSausages", "(I)I"⟩, 24), (⟨"CoalGrateModel", "sausageMark", "(I)I"⟩, 24), (⟨"CoalGrateModel", "lentMark", "(I)I"⟩, 24), (⟨"CoalGrateModel", "markOf", "(I)I"⟩, 24)]
theorem lw_r5 : ∀ q ∈ lw_privs_5, lw_okq q := List.forall_mem_cons.mpr ⟨lw_p64, List.forall_mem_cons.mpr ⟨lw_p65, List.forall_mem_cons.mpr ⟨lw_p66, List.forall_mem_cons.mpr ⟨lw_p67, List.forall_mem_cons.mpr ⟨lw_p68, List.forall_mem_cons.mpr ⟨lw_p69, List.forall_mem_cons.mpr ⟨lw_p70, fun _ h => absurd h List.not_mem_nil⟩⟩⟩⟩⟩⟩⟩
def lw_privs : List (MethodName × Nat) := lw_privs_1 ++ (lw_privs_2 ++ (lw_privs_3 ++ (lw_privs_4 ++ (lw_privs_5))))
def lw_tbl : List Cond := k2_sels lw_privs ++ tables_1
theorem lw_privs_ok : ∀ q ∈ lw_privs, lw_okq q := by
  show ∀ q ∈ lw_privs_1 ++ (lw_privs_2 ++ (lw_privs_3 ++ (lw_privs_4 ++ (lw_privs_5)))), lw_okq q
  exact List.forall_mem_append.mpr ⟨lw_r1, List.forall_mem_append.mpr ⟨lw_r2, List.forall_mem_append.mpr ⟨lw_r3, List.forall_mem_append.mpr ⟨lw_r4, lw_r5⟩⟩⟩⟩
-- ===== end of PART A; then your names; then what follows =====
/-! ===== BEGIN words of one list among another's, by their places ===== -/
theorem goodIn_r {big : List Cond} (ws : List Cond) (ps : List Nat) (hp : ws = ps.filterMap (fun i => big[i]?)) (h : ws.all goodWord = true) : GoodIn big ws := by
  intro w hw
  have h1 := List.all_eq_true.mp h w hw
  rw [hp] at hw
  obtain ⟨i, -, hi⟩ := List.mem_filterMap.mp hw
  have hm : w ∈ big := by first | exact List.mem_of_getElem? hi | exact List.getElem?_mem hi
  exact ⟨hm, good_of_word h1⟩
theorem goodIn_app {big a b : List Cond} (ha : GoodIn big a) (hb : GoodIn big b) : GoodIn big (a ++ b) := fun w h => (List.mem_append.mp h).elim (ha w) (hb w)
theorem goodIn_ca {big a b : List Cond} {c : Cond} (ha : GoodIn big (c :: a)) (hb : GoodIn big b) : GoodIn big (c :: (a ++ b)) := fun w h => (List.mem_cons.mp h).elim (fun e => ha w (List.mem_cons.mpr (Or.inl e))) (fun h => (List.mem_append.mp h).elim (fun h => ha w (List.mem_cons.mpr (Or.inr h))) (hb w))
theorem goodIn_sub {big ws : List Cond} (hm : ∀ w ∈ ws, w ∈ big) (h : ws.all goodWord = true) : GoodIn big ws := fun w hw => ⟨hm w hw, good_of_word (List.all_eq_true.mp h w hw)⟩
/-! ===== END ===== -/

/-! ===== BEGIN printed: names, fields, word lists, decode rows ===== -/
def RX0 : String := "CoalGrate$Cheese"
def TX0 : u_T := fun k => match k with
  | 0 => ("CoalGrate$Kind", "number", "I", true)
  | 1 => ("CoalGrate$Kind", "thick", "I", true)
  | 2 => ("CoalGrate$Kind", "need", "I", true)
  | _ => ("CoalGrate$Kind", "limit", "I", true)
def tyX0 : Nat → FieldType := fun k => match k with
  | 0 => .int
  | 1 => .int
  | 2 => .int
  | _ => .int
abbrev wsX00 : List Cond := u_ws RX0 TX0 4
theorem nmX0 : ∀ a, a < 4 → ∀ b, b < 4 → a ≠ b → (TX0 a).2.1 ≠ (TX0 b).2.1 := by decide +kernel
theorem tyX0_ok : ∀ k, k < 4 → parseFieldDescriptor (TX0 k).2.2.1 = some (tyX0 k) := by decide +kernel
abbrev cX0_init : ByteArray := prog_2_method_1_code
def yX0_init : MethodName := ⟨RX0, "<init>", "(IIII)V"⟩
abbrev cX0_sizeOf : ByteArray := prog_2_method_2_code
def yX0_sizeOf : MethodName := ⟨RX0, "sizeOf", "(LCoalGrate$Thing;LCoalGrate$Trace;)I"⟩
abbrev cX0_markOf : ByteArray := prog_2_method_3_code
def yX0_markOf : MethodName := ⟨RX0, "markOf", "(LCoalGrate$Thing;LCoalGrate$Trace;)I"⟩
def RX1 : String := "CoalGrate$Chicken"
def TX1 : u_T := fun k => match k with
  | 0 => ("CoalGrate$Kind", "number", "I", true)
  | 1 => ("CoalGrate$Kind", "thick", "I", true)
  | 2 => ("CoalGrate$Kind", "need", "I", true)
  | _ => ("CoalGrate$Kind", "limit", "I", true)
def tyX1 : Nat → FieldType := fun k => match k with
  | 0 => .int
  | 1 => .int
  | 2 => .int
  | _ => .int
abbrev wsX10 : List Cond := u_ws RX1 TX1 4
theorem nmX1 : ∀ a, a < 4 → ∀ b, b < 4 → a ≠ b → (TX1 a).2.1 ≠ (TX1 b).2.1 := by decide +kernel
theorem tyX1_ok : ∀ k, k < 4 → parseFieldDescriptor (TX1 k).2.2.1 = some (tyX1 k) := by decide +kernel
abbrev cX1_init : ByteArray := prog_3_method_1_code
def yX1_init : MethodName := ⟨RX1, "<init>", "(IIII)V"⟩
abbrev cX1_sizeOf : ByteArray := prog_3_method_2_code
def yX1_sizeOf : MethodName := ⟨RX1, "sizeOf", "(LCoalGrate$Thing;LCoalGrate$Trace;)I"⟩
abbrev cX1_markOf : ByteArray := prog_3_method_3_code
def yX1_markOf : MethodName := ⟨RX1, "markOf", "(LCoalGrate$Thing;LCoalGrate$Trace;)I"⟩
def RX2 : String := "CoalGrate$Corn"
def TX2 : u_T := fun k => match k with
  | 0 => ("CoalGrate$Kind", "number", "I", true)
  | 1 => ("CoalGrate$Kind", "thick", "I", true)
  | 2 => ("CoalGrate$Kind", "need", "I", true)
  | _ => ("CoalGrate$Kind", "limit", "I", true)
def tyX2 : Nat → FieldType := fun k => match k with
  | 0 => .int
  | 1 => .int
  | 2 => .int
  | _ => .int
abbrev wsX20 : List Cond := u_ws RX2 TX2 4
theorem nmX2 : ∀ a, a < 4 → ∀ b, b < 4 → a ≠ b → (TX2 a).2.1 ≠ (TX2 b).2.1 := by decide +kernel
theorem tyX2_ok : ∀ k, k < 4 → parseFieldDescriptor (TX2 k).2.2.1 = some (tyX2 k) := by decide +kernel
abbrev cX2_init : ByteArray := prog_4_method_1_code
def yX2_init : MethodName := ⟨RX2, "<init>", "(IIII)V"⟩
abbrev cX2_sizeOf : ByteArray := prog_4_method_2_code
def yX2_sizeOf : MethodName := ⟨RX2, "sizeOf", "(LCoalGrate$Thing;LCoalGrate$Trace;)I"⟩
def RX3 : String := "CoalGrate$Kind"
def TX3 : u_T := fun k => match k with
  | 0 => ("CoalGrate$Kind", "number", "I", true)
  | 1 => ("CoalGrate$Kind", "thick", "I", true)
  | 2 => ("CoalGrate$Kind", "need", "I", true)
  | _ => ("CoalGrate$Kind", "limit", "I", true)
def tyX3 : Nat → FieldType := fun k => match k with
  | 0 => .int
  | 1 => .int
  | 2 => .int
  | _ => .int
abbrev wsX30 : List Cond := u_ws RX3 TX3 4
theorem nmX3 : ∀ a, a < 4 → ∀ b, b < 4 → a ≠ b → (TX3 a).2.1 ≠ (TX3 b).2.1 := by decide +kernel
theorem tyX3_ok : ∀ k, k < 4 → parseFieldDescriptor (TX3 k).2.2.1 = some (tyX3 k) := by decide +kernel
abbrev cX3_init : ByteArray := prog_5_method_1_code
def yX3_init : MethodName := ⟨RX3, "<init>", "(IIII)V"⟩
abbrev cX3_share : ByteArray := prog_5_method_2_code
def yX3_share : MethodName := ⟨RX3, "share", "(I)I"⟩
abbrev cX3_drips : ByteArray := prog_5_method_3_code
def yX3_drips : MethodName := ⟨RX3, "drips", "()Z"⟩
abbrev cX3_sizeOf : ByteArray := prog_5_method_4_code
def yX3_sizeOf : MethodName := ⟨RX3, "sizeOf", "(LCoalGrate$Thing;LCoalGrate$Trace;)I"⟩
abbrev cX3_markOf : ByteArray := prog_5_method_5_code
def yX3_markOf : MethodName := ⟨RX3, "markOf", "(LCoalGrate$Thing;LCoalGrate$Trace;)I"⟩
def RX4 : String := "CoalGrate$Reader"
def TX4 : u_T := fun k => match k with
  | 0 => ("CoalGrate$Reader", "tape", "[I", true)
  | 1 => ("CoalGrate$Reader", "length", "I", false)
  | 2 => ("CoalGrate$Reader", "at", "I", false)
  | 3 => ("CoalGrate$Reader", "failed", "Z", false)
  | 4 => ("CoalGrate$Reader", "faultPlace", "I", false)
  | _ => ("CoalGrate$Reader", "latestFault", "I", false)
def tyX4 : Nat → FieldType := fun k => match k with
  | 0 => .array .int
  | 1 => .int
  | 2 => .int
  | 3 => .boolean
  | 4 => .int
  | _ => .int
abbrev wsX40 : List Cond := u_ws RX4 TX4 6
theorem nmX4 : ∀ a, a < 6 → ∀ b, b < 6 → a ≠ b → (TX4 a).2.1 ≠ (TX4 b).2.1 := by decide +kernel
theorem tyX4_ok : ∀ k, k < 6 → parseFieldDescriptor (TX4 k).2.2.1 = some (tyX4 k) := by decide +kernel
abbrev cX4_init : ByteArray := prog_6_method_1_code
def yX4_init : MethodName := ⟨RX4, "<init>", "()V"⟩
abbrev cX4_take : ByteArray := prog_6_method_2_code
def yX4_take : MethodName := ⟨RX4, "take", "(I)Z"⟩
abbrev cX4_readInto : ByteArray := prog_6_method_3_code
def yX4_readInto : MethodName := ⟨RX4, "readInto", "(LCoalGrate$Yard;)Z"⟩
abbrev cX4_readGrate : ByteArray := prog_6_method_4_code
def yX4_readGrate : MethodName := ⟨RX4, "readGrate", "(LCoalGrate$Yard;)V"⟩
abbrev cX4_readCoal : ByteArray := prog_6_method_5_code
def yX4_readCoal : MethodName := ⟨RX4, "readCoal", "(LCoalGrate$Yard;)V"⟩
abbrev cX4_readThing : ByteArray := prog_6_method_6_code
def yX4_readThing : MethodName := ⟨RX4, "readThing", "(LCoalGrate$Yard;)V"⟩
abbrev cX4_readEater : ByteArray := prog_6_method_7_code
def yX4_readEater : MethodName := ⟨RX4, "readEater", "(LCoalGrate$Yard;)V"⟩
abbrev cX4_next : ByteArray := prog_6_method_8_code
def yX4_next : MethodName := ⟨RX4, "next", "()I"⟩
abbrev cX4_readSign : ByteArray := prog_6_method_9_code
def yX4_readSign : MethodName := ⟨RX4, "readSign", "(I)V"⟩
abbrev cX4_readSort : ByteArray := prog_6_method_10_code
def yX4_readSort : MethodName := ⟨RX4, "readSort", "()I"⟩
abbrev cX4_readNumber : ByteArray := prog_6_method_11_code
def yX4_readNumber : MethodName := ⟨RX4, "readNumber", "(II)I"⟩
abbrev cX4_fail : ByteArray := prog_6_method_12_code
def yX4_fail : MethodName := ⟨RX4, "fail", "(II)V"⟩
abbrev cX4_isFigure : ByteArray := prog_6_method_13_code
def yX4_isFigure : MethodName := ⟨RX4, "isFigure", "(I)Z"⟩
abbrev cX4_sortOf : ByteArray := prog_6_method_14_code
def yX4_sortOf : MethodName := ⟨RX4, "sortOf", "(I)I"⟩
def RX5 : String := "CoalGrate$Rows"
def TX5 : u_T := fun k => match k with
  | 0 => ("CoalGrate$Rows", "items", "[I", true)
  | 1 => ("CoalGrate$Rows", "lanes", "[I", true)
  | _ => ("CoalGrate$Rows", "sizes", "[I", true)
def tyX5 : Nat → FieldType := fun k => match k with
  | 0 => .array .int
  | 1 => .array .int
  | _ => .array .int
abbrev wsX50 : List Cond := u_ws RX5 TX5 3
theorem nmX5 : ∀ a, a < 3 → ∀ b, b < 3 → a ≠ b → (TX5 a).2.1 ≠ (TX5 b).2.1 := by decide +kernel
theorem tyX5_ok : ∀ k, k < 3 → parseFieldDescriptor (TX5 k).2.2.1 = some (tyX5 k) := by decide +kernel
abbrev cX5_init : ByteArray := prog_7_method_1_code
def yX5_init : MethodName := ⟨RX5, "<init>", "()V"⟩
abbrev cX5_isRow : ByteArray := prog_7_method_2_code
def yX5_isRow : MethodName := ⟨RX5, "isRow", "(I)Z"⟩
abbrev cX5_isMissing : ByteArray := prog_7_method_3_code
def yX5_isMissing : MethodName := ⟨RX5, "isMissing", "(I)Z"⟩
abbrev cX5_sameLane : ByteArray := prog_7_method_4_code
def yX5_sameLane : MethodName := ⟨RX5, "sameLane", "(II)Z"⟩
abbrev cX5_hasPlaces : ByteArray := prog_7_method_5_code
def yX5_hasPlaces : MethodName := ⟨RX5, "hasPlaces", "(III)Z"⟩
abbrev cX5_lay : ByteArray := prog_7_method_6_code
def yX5_lay : MethodName := ⟨RX5, "lay", "(III)V"⟩
abbrev cX5_get : ByteArray := prog_7_method_7_code
def yX5_get : MethodName := ⟨RX5, "get", "(II)I"⟩
abbrev cX5_put : ByteArray := prog_7_method_8_code
def yX5_put : MethodName := ⟨RX5, "put", "(III)I"⟩
abbrev cX5_carry : ByteArray := prog_7_method_9_code
def yX5_carry : MethodName := ⟨RX5, "carry", "(IIIII)V"⟩
abbrev cX5_forget : ByteArray := prog_7_method_10_code
def yX5_forget : MethodName := ⟨RX5, "forget", "(I)I"⟩
abbrev cX5_present : ByteArray := prog_7_method_11_code
def yX5_present : MethodName := ⟨RX5, "present", "()I"⟩
def RX6 : String := "CoalGrate$Sausage"
def TX6 : u_T := fun k => match k with
  | 0 => ("CoalGrate$Kind", "number", "I", true)
  | 1 => ("CoalGrate$Kind", "thick", "I", true)
  | 2 => ("CoalGrate$Kind", "need", "I", true)
  | _ => ("CoalGrate$Kind", "limit", "I", true)
def tyX6 : Nat → FieldType := fun k => match k with
  | 0 => .int
  | 1 => .int
  | 2 => .int
  | _ => .int
abbrev wsX60 : List Cond := u_ws RX6 TX6 4
theorem nmX6 : ∀ a, a < 4 → ∀ b, b < 4 → a ≠ b → (TX6 a).2.1 ≠ (TX6 b).2.1 := by decide +kernel
theorem tyX6_ok : ∀ k, k < 4 → parseFieldDescriptor (TX6 k).2.2.1 = some (tyX6 k) := by decide +kernel
abbrev cX6_init : ByteArray := prog_8_method_1_code
def yX6_init : MethodName := ⟨RX6, "<init>", "(IIII)V"⟩
abbrev cX6_drips : ByteArray := prog_8_method_2_code
def yX6_drips : MethodName := ⟨RX6, "drips", "()Z"⟩
abbrev cX6_sizeOf : ByteArray := prog_8_method_3_code
def yX6_sizeOf : MethodName := ⟨RX6, "sizeOf", "(LCoalGrate$Thing;LCoalGrate$Trace;)I"⟩
abbrev cX6_markOf : ByteArray := prog_8_method_4_code
def yX6_markOf : MethodName := ⟨RX6, "markOf", "(LCoalGrate$Thing;LCoalGrate$Trace;)I"⟩
def RX7 : String := "CoalGrate$Thin"
def TX7 : u_T := fun k => match k with
  | 0 => ("CoalGrate$Kind", "number", "I", true)
  | 1 => ("CoalGrate$Kind", "thick", "I", true)
  | 2 => ("CoalGrate$Kind", "need", "I", true)
  | _ => ("CoalGrate$Kind", "limit", "I", true)
def tyX7 : Nat → FieldType := fun k => match k with
  | 0 => .int
  | 1 => .int
  | 2 => .int
  | _ => .int
abbrev wsX70 : List Cond := u_ws RX7 TX7 4
theorem nmX7 : ∀ a, a < 4 → ∀ b, b < 4 → a ≠ b → (TX7 a).2.1 ≠ (TX7 b).2.1 := by decide +kernel
theorem tyX7_ok : ∀ k, k < 4 → parseFieldDescriptor (TX7 k).2.2.1 = some (tyX7 k) := by decide +kernel
abbrev cX7_init : ByteArray := prog_9_method_1_code
def yX7_init : MethodName := ⟨RX7, "<init>", "(IIII)V"⟩
abbrev cX7_markOf : ByteArray := prog_9_method_2_code
def yX7_markOf : MethodName := ⟨RX7, "markOf", "(LCoalGrate$Thing;LCoalGrate$Trace;)I"⟩
def RX8 : String := "CoalGrate$Thing"
def TX8 : u_T := fun k => match k with
  | 0 => ("CoalGrate$Thing", "number", "I", true)
  | 1 => ("CoalGrate$Thing", "kind", "LCoalGrate$Kind;", false)
  | 2 => ("CoalGrate$Thing", "place", "I", false)
  | 3 => ("CoalGrate$Thing", "core", "I", false)
  | 4 => ("CoalGrate$Thing", "lower", "I", false)
  | 5 => ("CoalGrate$Thing", "upper", "I", false)
  | 6 => ("CoalGrate$Thing", "side", "I", false)
  | _ => ("CoalGrate$Thing", "burnt", "Z", false)
def tyX8 : Nat → FieldType := fun k => match k with
  | 0 => .int
  | 1 => .object "CoalGrate$Kind"
  | 2 => .int
  | 3 => .int
  | 4 => .int
  | 5 => .int
  | 6 => .int
  | _ => .boolean
abbrev wsX80 : List Cond := u_ws RX8 TX8 8
theorem nmX8 : ∀ a, a < 8 → ∀ b, b < 8 → a ≠ b → (TX8 a).2.1 ≠ (TX8 b).2.1 := by decide +kernel
theorem tyX8_ok : ∀ k, k < 8 → parseFieldDescriptor (TX8 k).2.2.1 = some (tyX8 k) := by decide +kernel
abbrev cX8_init : ByteArray := prog_10_method_1_code
def yX8_init : MethodName := ⟨RX8, "<init>", "(ILCoalGrate$Kind;)V"⟩
abbrev cX8_layCold : ByteArray := prog_10_method_2_code
def yX8_layCold : MethodName := ⟨RX8, "layCold", "(LCoalGrate$Kind;I)V"⟩
abbrev cX8_become : ByteArray := prog_10_method_3_code
def yX8_become : MethodName := ⟨RX8, "become", "(LCoalGrate$Thing;)V"⟩
abbrev cX8_isServed : ByteArray := prog_10_method_4_code
def yX8_isServed : MethodName := ⟨RX8, "isServed", "()Z"⟩
abbrev cX8_isThrough : ByteArray := prog_10_method_5_code
def yX8_isThrough : MethodName := ⟨RX8, "isThrough", "()Z"⟩
abbrev cX8_isDone : ByteArray := prog_10_method_6_code
def yX8_isDone : MethodName := ⟨RX8, "isDone", "()Z"⟩
abbrev cX8_skinOf : ByteArray := prog_10_method_7_code
def yX8_skinOf : MethodName := ⟨RX8, "skinOf", "(I)I"⟩
abbrev cX8_flip : ByteArray := prog_10_method_8_code
def yX8_flip : MethodName := ⟨RX8, "flip", "()V"⟩
abbrev cX8_heatBy : ByteArray := prog_10_method_9_code
def yX8_heatBy : MethodName := ⟨RX8, "heatBy", "(II)I"⟩
abbrev cX8_roastBy : ByteArray := prog_10_method_10_code
def yX8_roastBy : MethodName := ⟨RX8, "roastBy", "(II)V"⟩
abbrev cX8_rest : ByteArray := prog_10_method_11_code
def yX8_rest : MethodName := ⟨RX8, "rest", "(I)V"⟩
abbrev cX8_saveIn : ByteArray := prog_10_method_12_code
def yX8_saveIn : MethodName := ⟨RX8, "saveIn", "([II)V"⟩
abbrev cX8_loadFrom : ByteArray := prog_10_method_13_code
def yX8_loadFrom : MethodName := ⟨RX8, "loadFrom", "([IILCoalGrate$Kind;)V"⟩
def RX9 : String := "CoalGrate$Trace"
def TX9 : u_T := fun k => match k with
  | 0 => ("CoalGrate$Trace", "numbers", "[I", true)
  | _ => ("CoalGrate$Trace", "length", "I", false)
def tyX9 : Nat → FieldType := fun k => match k with
  | 0 => .array .int
  | _ => .int
abbrev wsX90 : List Cond := u_ws RX9 TX9 2
theorem nmX9 : ∀ a, a < 2 → ∀ b, b < 2 → a ≠ b → (TX9 a).2.1 ≠ (TX9 b).2.1 := by decide +kernel
theorem tyX9_ok : ∀ k, k < 2 → parseFieldDescriptor (TX9 k).2.2.1 = some (tyX9 k) := by decide +kernel
abbrev cX9_init : ByteArray := prog_11_method_1_code
def yX9_init : MethodName := ⟨RX9, "<init>", "()V"⟩
abbrev cX9_leave : ByteArray := prog_11_method_2_code
def yX9_leave : MethodName := ⟨RX9, "leave", "(I)V"⟩
def RX10 : String := "CoalGrate$Yard"
def TX10 : u_T := fun k => match k with
  | 0 => ("CoalGrate$Yard", "kinds", "[LCoalGrate$Kind;", true)
  | 1 => ("CoalGrate$Yard", "sink", "I", false)
  | 2 => ("CoalGrate$Yard", "wind", "I", false)
  | 3 => ("CoalGrate$Yard", "minute", "I", false)
  | 4 => ("CoalGrate$Yard", "coalCount", "I", false)
  | 5 => ("CoalGrate$Yard", "coalCell", "[I", true)
  | 6 => ("CoalGrate$Yard", "coalFire", "[I", true)
  | 7 => ("CoalGrate$Yard", "coalFresh", "[I", true)
  | 8 => ("CoalGrate$Yard", "thingCount", "I", false)
  | 9 => ("CoalGrate$Yard", "things", "[LCoalGrate$Thing;", true)
  | 10 => ("CoalGrate$Yard", "eaterCount", "I", false)
  | 11 => ("CoalGrate$Yard", "eaterKind", "[I", true)
  | 12 => ("CoalGrate$Yard", "eaterMinute", "[I", true)
  | _ => ("CoalGrate$Yard", "eaterThing", "[I", true)
def tyX10 : Nat → FieldType := fun k => match k with
  | 0 => .array (.object "CoalGrate$Kind")
  | 1 => .int
  | 2 => .int
  | 3 => .int
  | 4 => .int
  | 5 => .array .int
  | 6 => .array .int
  | 7 => .array .int
  | 8 => .int
  | 9 => .array (.object "CoalGrate$Thing")
  | 10 => .int
  | 11 => .array .int
  | 12 => .array .int
  | _ => .array .int
abbrev wsX100 : List Cond := u_ws RX10 TX10 14
theorem nmX10 : ∀ a, a < 14 → ∀ b, b < 14 → a ≠ b → (TX10 a).2.1 ≠ (TX10 b).2.1 := by decide +kernel
theorem tyX10_ok : ∀ k, k < 14 → parseFieldDescriptor (TX10 k).2.2.1 = some (tyX10 k) := by decide +kernel
abbrev cX10_init : ByteArray := prog_12_method_1_code
def yX10_init : MethodName := ⟨RX10, "<init>", "([LCoalGrate$Kind;)V"⟩
abbrev cX10_clear : ByteArray := prog_12_method_2_code
def yX10_clear : MethodName := ⟨RX10, "clear", "()V"⟩
abbrev cX10_addCoal : ByteArray := prog_12_method_3_code
def yX10_addCoal : MethodName := ⟨RX10, "addCoal", "(III)V"⟩
abbrev cX10_addThing : ByteArray := prog_12_method_4_code
def yX10_addThing : MethodName := ⟨RX10, "addThing", "(II)V"⟩
abbrev cX10_addEater : ByteArray := prog_12_method_5_code
def yX10_addEater : MethodName := ⟨RX10, "addEater", "(II)V"⟩
abbrev cX10_kindOf : ByteArray := prog_12_method_6_code
def yX10_kindOf : MethodName := ⟨RX10, "kindOf", "(I)LCoalGrate$Kind;"⟩
abbrev cX10_thingAt : ByteArray := prog_12_method_7_code
def yX10_thingAt : MethodName := ⟨RX10, "thingAt", "(I)LCoalGrate$Thing;"⟩
abbrev cX10_isEater : ByteArray := prog_12_method_8_code
def yX10_isEater : MethodName := ⟨RX10, "isEater", "(I)Z"⟩
abbrev cX10_lyingIn : ByteArray := prog_12_method_9_code
def yX10_lyingIn : MethodName := ⟨RX10, "lyingIn", "(I)LCoalGrate$Thing;"⟩
abbrev cX10_isOpenTo : ByteArray := prog_12_method_10_code
def yX10_isOpenTo : MethodName := ⟨RX10, "isOpenTo", "(LCoalGrate$Thing;I)Z"⟩
abbrev cX10_wants : ByteArray := prog_12_method_11_code
def yX10_wants : MethodName := ⟨RX10, "wants", "(ILCoalGrate$Thing;I)Z"⟩
abbrev cX10_sunkBy : ByteArray := prog_12_method_12_code
def yX10_sunkBy : MethodName := ⟨RX10, "sunkBy", "(I)I"⟩
abbrev cX10_warmthIn : ByteArray := prog_12_method_13_code
def yX10_warmthIn : MethodName := ⟨RX10, "warmthIn", "(II)I"⟩
abbrev cX10_isBeside : ByteArray := prog_12_method_14_code
def yX10_isBeside : MethodName := ⟨RX10, "isBeside", "(II)Z"⟩
abbrev cX10_windIn : ByteArray := prog_12_method_15_code
def yX10_windIn : MethodName := ⟨RX10, "windIn", "(I)I"⟩
abbrev cX10_roast : ByteArray := prog_12_method_16_code
def yX10_roast : MethodName := ⟨RX10, "roast", "(LCoalGrate$Thing;I)V"⟩
abbrev cX10_passMinute : ByteArray := prog_12_method_17_code
def yX10_passMinute : MethodName := ⟨RX10, "passMinute", "()V"⟩
abbrev cX10_pourWater : ByteArray := prog_12_method_18_code
def yX10_pourWater : MethodName := ⟨RX10, "pourWater", "()I"⟩
abbrev cX10_fireOfAll : ByteArray := prog_12_method_19_code
def yX10_fireOfAll : MethodName := ⟨RX10, "fireOfAll", "()I"⟩
abbrev cX10_minutesOfFire : ByteArray := prog_12_method_20_code
def yX10_minutesOfFire : MethodName := ⟨RX10, "minutesOfFire", "()I"⟩
abbrev cX10_servedCount : ByteArray := prog_12_method_21_code
def yX10_servedCount : MethodName := ⟨RX10, "servedCount", "()I"⟩
abbrev cX10_hottestBelow : ByteArray := prog_12_method_22_code
def yX10_hottestBelow : MethodName := ⟨RX10, "hottestBelow", "()LCoalGrate$Thing;"⟩
abbrev cX10_burntOnes : ByteArray := prog_12_method_23_code
def yX10_burntOnes : MethodName := ⟨RX10, "burntOnes", "()I"⟩
abbrev cX10_doneOnes : ByteArray := prog_12_method_24_code
def yX10_doneOnes : MethodName := ⟨RX10, "doneOnes", "()I"⟩
abbrev cX10_save : ByteArray := prog_12_method_25_code
def yX10_save : MethodName := ⟨RX10, "save", "([II)V"⟩
abbrev cX10_load : ByteArray := prog_12_method_26_code
def yX10_load : MethodName := ⟨RX10, "load", "([II)V"⟩
def RX11 : String := "CoalGrate"
def TX11 : u_T := fun k => match k with
  | 0 => ("CoalGrate", "rows", "LCoalGrate$Rows;", true)
  | 1 => ("CoalGrate", "reader", "LCoalGrate$Reader;", true)
  | 2 => ("CoalGrate", "path", "LCoalGrate$Trace;", true)
  | 3 => ("CoalGrate", "kinds", "[LCoalGrate$Kind;", true)
  | 4 => ("CoalGrate", "trial", "LCoalGrate$Thing;", true)
  | 5 => ("CoalGrate", "now", "LCoalGrate$Yard;", false)
  | 6 => ("CoalGrate", "spare", "LCoalGrate$Yard;", false)
  | 7 => ("CoalGrate", "stands", "Z", false)
  | 8 => ("CoalGrate", "past", "[I", true)
  | 9 => ("CoalGrate", "pastNext", "I", false)
  | 10 => ("CoalGrate", "pastCount", "I", false)
  | 11 => ("CoalGrate", "images", "[I", true)
  | 12 => ("CoalGrate", "kept", "[Z", true)
  | 13 => ("CoalGrate", "scratch", "[I", true)
  | 14 => ("CoalGrate", "warmth", "[I", true)
  | 15 => ("CoalGrate", "bestFlips", "I", false)
  | _ => ("CoalGrate", "finding", "I", false)
def tyX11 : Nat → FieldType := fun k => match k with
  | 0 => .object "CoalGrate$Rows"
  | 1 => .object "CoalGrate$Reader"
  | 2 => .object "CoalGrate$Trace"
  | 3 => .array (.object "CoalGrate$Kind")
  | 4 => .object "CoalGrate$Thing"
  | 5 => .object "CoalGrate$Yard"
  | 6 => .object "CoalGrate$Yard"
  | 7 => .boolean
  | 8 => .array .int
  | 9 => .int
  | 10 => .int
  | 11 => .array .int
  | 12 => .array .boolean
  | 13 => .array .int
  | 14 => .array .int
  | 15 => .int
  | _ => .int
abbrev wsX110 : List Cond := u_ws RX11 TX11 17
theorem nmX11 : ∀ a, a < 17 → ∀ b, b < 17 → a ≠ b → (TX11 a).2.1 ≠ (TX11 b).2.1 := by decide +kernel
theorem tyX11_ok : ∀ k, k < 17 → parseFieldDescriptor (TX11 k).2.2.1 = some (tyX11 k) := by decide +kernel
abbrev cX11_init : ByteArray := prog_1_method_1_code
def yX11_init : MethodName := ⟨RX11, "<init>", "()V"⟩
abbrev cX11_newKinds : ByteArray := prog_1_method_2_code
def yX11_newKinds : MethodName := ⟨RX11, "newKinds", "()[LCoalGrate$Kind;"⟩
abbrev cX11_row : ByteArray := prog_1_method_3_code
def yX11_row : MethodName := ⟨RX11, "row", "(III)I"⟩
abbrev cX11_set : ByteArray := prog_1_method_4_code
def yX11_set : MethodName := ⟨RX11, "set", "(III)I"⟩
abbrev cX11_copy : ByteArray := prog_1_method_5_code
def yX11_copy : MethodName := ⟨RX11, "copy", "(IIIII)I"⟩
abbrev cX11_drop : ByteArray := prog_1_method_6_code
def yX11_drop : MethodName := ⟨RX11, "drop", "(I)I"⟩
abbrev cX11_found : ByteArray := prog_1_method_7_code
def yX11_found : MethodName := ⟨RX11, "found", "(I)I"⟩
abbrev cX11_answered : ByteArray := prog_1_method_8_code
def yX11_answered : MethodName := ⟨RX11, "answered", "(I)I"⟩
abbrev cX11_feed : ByteArray := prog_1_method_9_code
def yX11_feed : MethodName := ⟨RX11, "feed", "(I)I"⟩
abbrev cX11_yard : ByteArray := prog_1_method_10_code
def yX11_yard : MethodName := ⟨RX11, "yard", "()I"⟩
abbrev cX11_fault : ByteArray := prog_1_method_11_code
def yX11_fault : MethodName := ⟨RX11, "fault", "()I"⟩
abbrev cX11_minutes : ByteArray := prog_1_method_12_code
def yX11_minutes : MethodName := ⟨RX11, "minutes", "(I)I"⟩
abbrev cX11_turn : ByteArray := prog_1_method_13_code
def yX11_turn : MethodName := ⟨RX11, "turn", "(I)I"⟩
abbrev cX11_move : ByteArray := prog_1_method_14_code
def yX11_move : MethodName := ⟨RX11, "move", "(II)I"⟩
abbrev cX11_coal : ByteArray := prog_1_method_15_code
def yX11_coal : MethodName := ⟨RX11, "coal", "(II)I"⟩
abbrev cX11_water : ByteArray := prog_1_method_16_code
def yX11_water : MethodName := ⟨RX11, "water", "()I"⟩
abbrev cX11_serve : ByteArray := prog_1_method_17_code
def yX11_serve : MethodName := ⟨RX11, "serve", "(II)I"⟩
abbrev cX11_undo : ByteArray := prog_1_method_18_code
def yX11_undo : MethodName := ⟨RX11, "undo", "()I"⟩
abbrev cX11_remember : ByteArray := prog_1_method_19_code
def yX11_remember : MethodName := ⟨RX11, "remember", "()V"⟩
abbrev cX11_thing : ByteArray := prog_1_method_20_code
def yX11_thing : MethodName := ⟨RX11, "thing", "(II)I"⟩
abbrev cX11_eater : ByteArray := prog_1_method_21_code
def yX11_eater : MethodName := ⟨RX11, "eater", "(II)I"⟩
abbrev cX11_ember : ByteArray := prog_1_method_22_code
def yX11_ember : MethodName := ⟨RX11, "ember", "(II)I"⟩
abbrev cX11_heat : ByteArray := prog_1_method_23_code
def yX11_heat : MethodName := ⟨RX11, "heat", "(I)I"⟩
abbrev cX11_asBit : ByteArray := prog_1_method_24_code
def yX11_asBit : MethodName := ⟨RX11, "asBit", "(Z)I"⟩
abbrev cX11_isCell : ByteArray := prog_1_method_25_code
def yX11_isCell : MethodName := ⟨RX11, "isCell", "(I)Z"⟩
abbrev cX11_ahead : ByteArray := prog_1_method_26_code
def yX11_ahead : MethodName := ⟨RX11, "ahead", "(III)I"⟩
abbrev cX11_heatAhead : ByteArray := prog_1_method_27_code
def yX11_heatAhead : MethodName := ⟨RX11, "heatAhead", "(II)I"⟩
abbrev cX11_isAhead : ByteArray := prog_1_method_28_code
def yX11_isAhead : MethodName := ⟨RX11, "isAhead", "(II)Z"⟩
abbrev cX11_tryAsItLies : ByteArray := prog_1_method_29_code
def yX11_tryAsItLies : MethodName := ⟨RX11, "tryAsItLies", "(LCoalGrate$Thing;I)V"⟩
abbrev cX11_ready : ByteArray := prog_1_method_30_code
def yX11_ready : MethodName := ⟨RX11, "ready", "(I)I"⟩
abbrev cX11_where : ByteArray := prog_1_method_31_code
def yX11_where : MethodName := ⟨RX11, "where", "(I)I"⟩
abbrev cX11_inTime : ByteArray := prog_1_method_32_code
def yX11_inTime : MethodName := ⟨RX11, "inTime", "(II)I"⟩
abbrev cX11_readyAt : ByteArray := prog_1_method_33_code
def yX11_readyAt : MethodName := ⟨RX11, "readyAt", "(LCoalGrate$Thing;II)I"⟩
abbrev cX11_flips : ByteArray := prog_1_method_34_code
def yX11_flips : MethodName := ⟨RX11, "flips", "(III)I"⟩
abbrev cX11_foretellWarmth : ByteArray := prog_1_method_35_code
def yX11_foretellWarmth : MethodName := ⟨RX11, "foretellWarmth", "(II)V"⟩
abbrev cX11_tryFlips : ByteArray := prog_1_method_36_code
def yX11_tryFlips : MethodName := ⟨RX11, "tryFlips", "(IIIIII)V"⟩
abbrev cX11_tryMinute : ByteArray := prog_1_method_37_code
def yX11_tryMinute : MethodName := ⟨RX11, "tryMinute", "(IIIIII)V"⟩
abbrev cX11_isBetterWay : ByteArray := prog_1_method_38_code
def yX11_isBetterWay : MethodName := ⟨RX11, "isBetterWay", "(I)Z"⟩
abbrev cX11_start : ByteArray := prog_1_method_39_code
def yX11_start : MethodName := ⟨RX11, "start", "(III)I"⟩
abbrev cX11_isDoneStarting : ByteArray := prog_1_method_40_code
def yX11_isDoneStarting : MethodName := ⟨RX11, "isDoneStarting", "(LCoalGrate$Thing;III)Z"⟩
abbrev cX11_fuelFor : ByteArray := prog_1_method_41_code
def yX11_fuelFor : MethodName := ⟨RX11, "fuelFor", "(II)I"⟩
abbrev cX11_isDoneWithCoal : ByteArray := prog_1_method_42_code
def yX11_isDoneWithCoal : MethodName := ⟨RX11, "isDoneWithCoal", "(LCoalGrate$Thing;II)Z"⟩
abbrev cX11_servable : ByteArray := prog_1_method_43_code
def yX11_servable : MethodName := ⟨RX11, "servable", "(II)I"⟩
abbrev cX11_doneAhead : ByteArray := prog_1_method_44_code
def yX11_doneAhead : MethodName := ⟨RX11, "doneAhead", "(I)I"⟩
abbrev cX11_firstFor : ByteArray := prog_1_method_45_code
def yX11_firstFor : MethodName := ⟨RX11, "firstFor", "(III)I"⟩
abbrev cX11_hand : ByteArray := prog_1_method_46_code
def yX11_hand : MethodName := ⟨RX11, "hand", "(II)I"⟩
abbrev cX11_judged : ByteArray := prog_1_method_47_code
def yX11_judged : MethodName := ⟨RX11, "judged", "(III)I"⟩
abbrev cX11_tellsTurns : ByteArray := prog_1_method_48_code
def yX11_tellsTurns : MethodName := ⟨RX11, "tellsTurns", "(III)Z"⟩
abbrev cX11_tryWholeYard : ByteArray := prog_1_method_49_code
def yX11_tryWholeYard : MethodName := ⟨RX11, "tryWholeYard", "()V"⟩
abbrev cX11_fuel : ByteArray := prog_1_method_50_code
def yX11_fuel : MethodName := ⟨RX11, "fuel", "()I"⟩
abbrev cX11_image : ByteArray := prog_1_method_51_code
def yX11_image : MethodName := ⟨RX11, "image", "(I)I"⟩
abbrev cX11_restore : ByteArray := prog_1_method_52_code
def yX11_restore : MethodName := ⟨RX11, "restore", "(I)I"⟩
abbrev cX11_isImage : ByteArray := prog_1_method_53_code
def yX11_isImage : MethodName := ⟨RX11, "isImage", "(I)Z"⟩
abbrev cX11_kind : ByteArray := prog_1_method_54_code
def yX11_kind : MethodName := ⟨RX11, "kind", "(I)I"⟩
abbrev cX11_as : ByteArray := prog_1_method_55_code
def yX11_as : MethodName := ⟨RX11, "as", "(II)I"⟩
abbrev cX11_isOneOf : ByteArray := prog_1_method_56_code
def yX11_isOneOf : MethodName := ⟨RX11, "isOneOf", "(LCoalGrate$Kind;I)Z"⟩
abbrev cX11_ask : ByteArray := prog_1_method_57_code
def yX11_ask : MethodName := ⟨RX11, "ask", "(II)I"⟩
abbrev cX11_trace : ByteArray := prog_1_method_58_code
def yX11_trace : MethodName := ⟨RX11, "trace", "(I)I"⟩
abbrev cX11_count : ByteArray := prog_1_method_59_code
def yX11_count : MethodName := ⟨RX11, "count", "(I)I"⟩
abbrev cX11_status : ByteArray := prog_1_method_60_code
def yX11_status : MethodName := ⟨RX11, "status", "()I"⟩
def RX12 : String := "CoalGrateModel"
def TX12 : u_T := fun k => match k with
  | 0 => ("CoalGrateModel", "st", "[I", true)
  | 1 => ("CoalGrateModel", "kept", "[I", true)
  | 2 => ("CoalGrateModel", "isKept", "[Z", true)
  | 3 => ("CoalGrateModel", "was", "[I", true)
  | 4 => ("CoalGrateModel", "acts", "I", false)
  | 5 => ("CoalGrateModel", "lanes", "[I", true)
  | 6 => ("CoalGrateModel", "sizes", "[I", true)
  | 7 => ("CoalGrateModel", "items", "[I", true)
  | 8 => ("CoalGrateModel", "status", "I", false)
  | 9 => ("CoalGrateModel", "tape", "[I", true)
  | 10 => ("CoalGrateModel", "taped", "I", false)
  | 11 => ("CoalGrateModel", "cursor", "I", false)
  | 12 => ("CoalGrateModel", "start", "I", false)
  | 13 => ("CoalGrateModel", "token", "I", false)
  | 14 => ("CoalGrateModel", "value", "I", false)
  | 15 => ("CoalGrateModel", "fault", "I", false)
  | 16 => ("CoalGrateModel", "latestFault", "I", false)
  | 17 => ("CoalGrateModel", "read", "[I", true)
  | 18 => ("CoalGrateModel", "heats", "[I", true)
  | 19 => ("CoalGrateModel", "hold", "[I", true)
  | 20 => ("CoalGrateModel", "canBe", "[Z", true)
  | 21 => ("CoalGrateModel", "gets", "[I", true)
  | 22 => ("CoalGrateModel", "trace", "[I", true)
  | _ => ("CoalGrateModel", "traced", "I", false)
def tyX12 : Nat → FieldType := fun k => match k with
  | 0 => .array .int
  | 1 => .array .int
  | 2 => .array .boolean
  | 3 => .array .int
  | 4 => .int
  | 5 => .array .int
  | 6 => .array .int
  | 7 => .array .int
  | 8 => .int
  | 9 => .array .int
  | 10 => .int
  | 11 => .int
  | 12 => .int
  | 13 => .int
  | 14 => .int
  | 15 => .int
  | 16 => .int
  | 17 => .array .int
  | 18 => .array .int
  | 19 => .array .int
  | 20 => .array .boolean
  | 21 => .array .int
  | 22 => .array .int
  | _ => .int
abbrev wsX120 : List Cond := u_ws RX12 TX12 24
theorem nmX12 : ∀ a, a < 24 → ∀ b, b < 24 → a ≠ b → (TX12 a).2.1 ≠ (TX12 b).2.1 := by decide +kernel
theorem tyX12_ok : ∀ k, k < 24 → parseFieldDescriptor (TX12 k).2.2.1 = some (tyX12 k) := by decide +kernel
abbrev cX12_init : ByteArray := prog_14_method_1_code
def yX12_init : MethodName := ⟨RX12, "<init>", "()V"⟩
abbrev cX12_in : ByteArray := prog_14_method_3_code
def yX12_in : MethodName := ⟨RX12, "in", "(III)Z"⟩
abbrev cX12_has : ByteArray := prog_14_method_4_code
def yX12_has : MethodName := ⟨RX12, "has", "(II)Z"⟩
abbrev cX12_found : ByteArray := prog_14_method_5_code
def yX12_found : MethodName := ⟨RX12, "found", "(I)I"⟩
abbrev cX12_well : ByteArray := prog_14_method_6_code
def yX12_well : MethodName := ⟨RX12, "well", "(I)I"⟩
abbrev cX12_isRow : ByteArray := prog_14_method_7_code
def yX12_isRow : MethodName := ⟨RX12, "isRow", "(I)Z"⟩
abbrev cX12_row : ByteArray := prog_14_method_8_code
def yX12_row : MethodName := ⟨RX12, "row", "(III)I"⟩
abbrev cX12_set : ByteArray := prog_14_method_9_code
def yX12_set : MethodName := ⟨RX12, "set", "(III)I"⟩
abbrev cX12_isSpan : ByteArray := prog_14_method_10_code
def yX12_isSpan : MethodName := ⟨RX12, "isSpan", "(III)Z"⟩
abbrev cX12_copy : ByteArray := prog_14_method_11_code
def yX12_copy : MethodName := ⟨RX12, "copy", "(IIIII)I"⟩
abbrev cX12_drop : ByteArray := prog_14_method_12_code
def yX12_drop : MethodName := ⟨RX12, "drop", "(I)I"⟩
abbrev cX12_feed : ByteArray := prog_14_method_13_code
def yX12_feed : MethodName := ⟨RX12, "feed", "(I)I"⟩
abbrev cX12_byteAt : ByteArray := prog_14_method_14_code
def yX12_byteAt : MethodName := ⟨RX12, "byteAt", "(I)I"⟩
abbrev cX12_next : ByteArray := prog_14_method_15_code
def yX12_next : MethodName := ⟨RX12, "next", "()V"⟩
abbrev cX12_must : ByteArray := prog_14_method_16_code
def yX12_must : MethodName := ⟨RX12, "must", "(ZI)V"⟩
abbrev cX12_goesOn : ByteArray := prog_14_method_17_code
def yX12_goesOn : MethodName := ⟨RX12, "goesOn", "()V"⟩
abbrev cX12_isLetter : ByteArray := prog_14_method_18_code
def yX12_isLetter : MethodName := ⟨RX12, "isLetter", "(I)Z"⟩
abbrev cX12_readSign : ByteArray := prog_14_method_19_code
def yX12_readSign : MethodName := ⟨RX12, "readSign", "(I)V"⟩
abbrev cX12_readNumber : ByteArray := prog_14_method_20_code
def yX12_readNumber : MethodName := ⟨RX12, "readNumber", "(II)I"⟩
abbrev cX12_sortOf : ByteArray := prog_14_method_21_code
def yX12_sortOf : MethodName := ⟨RX12, "sortOf", "(I)I"⟩
abbrev cX12_isSort : ByteArray := prog_14_method_22_code
def yX12_isSort : MethodName := ⟨RX12, "isSort", "()Z"⟩
abbrev cX12_readGrate : ByteArray := prog_14_method_23_code
def yX12_readGrate : MethodName := ⟨RX12, "readGrate", "()V"⟩
abbrev cX12_readCoal : ByteArray := prog_14_method_24_code
def yX12_readCoal : MethodName := ⟨RX12, "readCoal", "()V"⟩
abbrev cX12_isTold : ByteArray := prog_14_method_25_code
def yX12_isTold : MethodName := ⟨RX12, "isTold", "(I)Z"⟩
abbrev cX12_readThing : ByteArray := prog_14_method_26_code
def yX12_readThing : MethodName := ⟨RX12, "readThing", "()V"⟩
abbrev cX12_readEater : ByteArray := prog_14_method_27_code
def yX12_readEater : MethodName := ⟨RX12, "readEater", "()V"⟩
abbrev cX12_yard : ByteArray := prog_14_method_28_code
def yX12_yard : MethodName := ⟨RX12, "yard", "()I"⟩
abbrev cX12_fault : ByteArray := prog_14_method_29_code
def yX12_fault : MethodName := ⟨RX12, "fault", "()I"⟩
abbrev cX12_isYard : ByteArray := prog_14_method_30_code
def yX12_isYard : MethodName := ⟨RX12, "isYard", "()Z"⟩
abbrev cX12_isThing : ByteArray := prog_14_method_31_code
def yX12_isThing : MethodName := ⟨RX12, "isThing", "(I)Z"⟩
abbrev cX12_isOn : ByteArray := prog_14_method_32_code
def yX12_isOn : MethodName := ⟨RX12, "isOn", "(I)Z"⟩
abbrev cX12_isGone : ByteArray := prog_14_method_33_code
def yX12_isGone : MethodName := ⟨RX12, "isGone", "(I)Z"⟩
abbrev cX12_isA : ByteArray := prog_14_method_34_code
def yX12_isA : MethodName := ⟨RX12, "isA", "(II)Z"⟩
abbrev cX12_below : ByteArray := prog_14_method_35_code
def yX12_below : MethodName := ⟨RX12, "below", "(I)I"⟩
abbrev cX12_above : ByteArray := prog_14_method_36_code
def yX12_above : MethodName := ⟨RX12, "above", "(I)I"⟩
abbrev cX12_size : ByteArray := prog_14_method_37_code
def yX12_size : MethodName := ⟨RX12, "size", "(I)I"⟩
abbrev cX12_areBeside : ByteArray := prog_14_method_38_code
def yX12_areBeside : MethodName := ⟨RX12, "areBeside", "(II)Z"⟩
abbrev cX12_heatOf : ByteArray := prog_14_method_39_code
def yX12_heatOf : MethodName := ⟨RX12, "heatOf", "(I)I"⟩
abbrev cX12_thick : ByteArray := prog_14_method_40_code
def yX12_thick : MethodName := ⟨RX12, "thick", "(I)I"⟩
abbrev cX12_need : ByteArray := prog_14_method_41_code
def yX12_need : MethodName := ⟨RX12, "need", "(I)I"⟩
abbrev cX12_limit : ByteArray := prog_14_method_42_code
def yX12_limit : MethodName := ⟨RX12, "limit", "(I)I"⟩
abbrev cX12_least : ByteArray := prog_14_method_43_code
def yX12_least : MethodName := ⟨RX12, "least", "(I)I"⟩
abbrev cX12_goThing : ByteArray := prog_14_method_44_code
def yX12_goThing : MethodName := ⟨RX12, "goThing", "(I)V"⟩
abbrev cX12_goMinute : ByteArray := prog_14_method_45_code
def yX12_goMinute : MethodName := ⟨RX12, "goMinute", "()V"⟩
abbrev cX12_remembers : ByteArray := prog_14_method_46_code
def yX12_remembers : MethodName := ⟨RX12, "remembers", "()V"⟩
abbrev cX12_minutes : ByteArray := prog_14_method_47_code
def yX12_minutes : MethodName := ⟨RX12, "minutes", "(I)I"⟩
abbrev cX12_turn : ByteArray := prog_14_method_48_code
def yX12_turn : MethodName := ⟨RX12, "turn", "(I)I"⟩
abbrev cX12_isTaken : ByteArray := prog_14_method_49_code
def yX12_isTaken : MethodName := ⟨RX12, "isTaken", "(II)Z"⟩
abbrev cX12_move : ByteArray := prog_14_method_50_code
def yX12_move : MethodName := ⟨RX12, "move", "(II)I"⟩
abbrev cX12_adds : ByteArray := prog_14_method_51_code
def yX12_adds : MethodName := ⟨RX12, "adds", "(II)V"⟩
abbrev cX12_coal : ByteArray := prog_14_method_52_code
def yX12_coal : MethodName := ⟨RX12, "coal", "(II)I"⟩
abbrev cX12_water : ByteArray := prog_14_method_53_code
def yX12_water : MethodName := ⟨RX12, "water", "()I"⟩
abbrev cX12_isThrough : ByteArray := prog_14_method_54_code
def yX12_isThrough : MethodName := ⟨RX12, "isThrough", "(I)Z"⟩
abbrev cX12_isWell : ByteArray := prog_14_method_55_code
def yX12_isWell : MethodName := ⟨RX12, "isWell", "(I)Z"⟩
abbrev cX12_servedNow : ByteArray := prog_14_method_56_code
def yX12_servedNow : MethodName := ⟨RX12, "servedNow", "()I"⟩
abbrev cX12_serve : ByteArray := prog_14_method_57_code
def yX12_serve : MethodName := ⟨RX12, "serve", "(II)I"⟩
abbrev cX12_undo : ByteArray := prog_14_method_58_code
def yX12_undo : MethodName := ⟨RX12, "undo", "()I"⟩
abbrev cX12_thing : ByteArray := prog_14_method_59_code
def yX12_thing : MethodName := ⟨RX12, "thing", "(II)I"⟩
abbrev cX12_eater : ByteArray := prog_14_method_60_code
def yX12_eater : MethodName := ⟨RX12, "eater", "(II)I"⟩
abbrev cX12_ember : ByteArray := prog_14_method_61_code
def yX12_ember : MethodName := ⟨RX12, "ember", "(II)I"⟩
abbrev cX12_heat : ByteArray := prog_14_method_62_code
def yX12_heat : MethodName := ⟨RX12, "heat", "(I)I"⟩
abbrev cX12_holds : ByteArray := prog_14_method_63_code
def yX12_holds : MethodName := ⟨RX12, "holds", "()V"⟩
abbrev cX12_putsBack : ByteArray := prog_14_method_64_code
def yX12_putsBack : MethodName := ⟨RX12, "putsBack", "()V"⟩
abbrev cX12_go : ByteArray := prog_14_method_65_code
def yX12_go : MethodName := ⟨RX12, "go", "(I)V"⟩
abbrev cX12_ahead : ByteArray := prog_14_method_66_code
def yX12_ahead : MethodName := ⟨RX12, "ahead", "(III)I"⟩
abbrev cX12_heatAhead : ByteArray := prog_14_method_67_code
def yX12_heatAhead : MethodName := ⟨RX12, "heatAhead", "(II)I"⟩
abbrev cX12_readyIn : ByteArray := prog_14_method_68_code
def yX12_readyIn : MethodName := ⟨RX12, "readyIn", "(II)I"⟩
abbrev cX12_ready : ByteArray := prog_14_method_69_code
def yX12_ready : MethodName := ⟨RX12, "ready", "(I)I"⟩
abbrev cX12_where : ByteArray := prog_14_method_70_code
def yX12_where : MethodName := ⟨RX12, "where", "(I)I"⟩
abbrev cX12_inTime : ByteArray := prog_14_method_71_code
def yX12_inTime : MethodName := ⟨RX12, "inTime", "(II)I"⟩
abbrev cX12_bits : ByteArray := prog_14_method_72_code
def yX12_bits : MethodName := ⟨RX12, "bits", "(I)I"⟩
abbrev cX12_isWellBy : ByteArray := prog_14_method_73_code
def yX12_isWellBy : MethodName := ⟨RX12, "isWellBy", "(III)Z"⟩
abbrev cX12_flips : ByteArray := prog_14_method_74_code
def yX12_flips : MethodName := ⟨RX12, "flips", "(III)I"⟩
abbrev cX12_start : ByteArray := prog_14_method_75_code
def yX12_start : MethodName := ⟨RX12, "start", "(III)I"⟩
abbrev cX12_fuelFor : ByteArray := prog_14_method_76_code
def yX12_fuelFor : MethodName := ⟨RX12, "fuelFor", "(II)I"⟩
abbrev cX12_mayGet : ByteArray := prog_14_method_77_code
def yX12_mayGet : MethodName := ⟨RX12, "mayGet", "(III)Z"⟩
abbrev cX12_most : ByteArray := prog_14_method_78_code
def yX12_most : MethodName := ⟨RX12, "most", "(III)I"⟩
abbrev cX12_servable : ByteArray := prog_14_method_79_code
def yX12_servable : MethodName := ⟨RX12, "servable", "(II)I"⟩
abbrev cX12_setOf : ByteArray := prog_14_method_80_code
def yX12_setOf : MethodName := ⟨RX12, "setOf", "(Z)I"⟩
abbrev cX12_handles : ByteArray := prog_14_method_81_code
def yX12_handles : MethodName := ⟨RX12, "handles", "()I"⟩
abbrev cX12_hand : ByteArray := prog_14_method_82_code
def yX12_hand : MethodName := ⟨RX12, "hand", "(II)I"⟩
abbrev cX12_areItems : ByteArray := prog_14_method_83_code
def yX12_areItems : MethodName := ⟨RX12, "areItems", "(III)Z"⟩
abbrev cX12_judged : ByteArray := prog_14_method_84_code
def yX12_judged : MethodName := ⟨RX12, "judged", "(III)I"⟩
abbrev cX12_fireNow : ByteArray := prog_14_method_85_code
def yX12_fireNow : MethodName := ⟨RX12, "fireNow", "()I"⟩
abbrev cX12_fuel : ByteArray := prog_14_method_86_code
def yX12_fuel : MethodName := ⟨RX12, "fuel", "()I"⟩
abbrev cX12_image : ByteArray := prog_14_method_87_code
def yX12_image : MethodName := ⟨RX12, "image", "(I)I"⟩
abbrev cX12_restore : ByteArray := prog_14_method_88_code
def yX12_restore : MethodName := ⟨RX12, "restore", "(I)I"⟩
abbrev cX12_kind : ByteArray := prog_14_method_89_code
def yX12_kind : MethodName := ⟨RX12, "kind", "(I)I"⟩
abbrev cX12_as : ByteArray := prog_14_method_90_code
def yX12_as : MethodName := ⟨RX12, "as", "(II)I"⟩
abbrev cX12_begins : ByteArray := prog_14_method_91_code
def yX12_begins : MethodName := ⟨RX12, "begins", "(I)V"⟩
abbrev cX12_lentSize : ByteArray := prog_14_method_92_code
def yX12_lentSize : MethodName := ⟨RX12, "lentSize", "(I)I"⟩
abbrev cX12_lentMark : ByteArray := prog_14_method_93_code
def yX12_lentMark : MethodName := ⟨RX12, "lentMark", "(I)I"⟩
abbrev cX12_sausageMark : ByteArray := prog_14_method_94_code
def yX12_sausageMark : MethodName := ⟨RX12, "sausageMark", "(I)I"⟩
abbrev cX12_markOfSausages : ByteArray := prog_14_method_95_code
def yX12_markOfSausages : MethodName := ⟨RX12, "markOfSausages", "(I)I"⟩
abbrev cX12_sausageSize : ByteArray := prog_14_method_96_code
def yX12_sausageSize : MethodName := ⟨RX12, "sausageSize", "(I)I"⟩
abbrev cX12_cheeseSize : ByteArray := prog_14_method_97_code
def yX12_cheeseSize : MethodName := ⟨RX12, "cheeseSize", "(I)I"⟩
abbrev cX12_sizeOfCheese : ByteArray := prog_14_method_98_code
def yX12_sizeOfCheese : MethodName := ⟨RX12, "sizeOfCheese", "(I)I"⟩
abbrev cX12_sizeOf : ByteArray := prog_14_method_99_code
def yX12_sizeOf : MethodName := ⟨RX12, "sizeOf", "(I)I"⟩
abbrev cX12_markOf : ByteArray := prog_14_method_100_code
def yX12_markOf : MethodName := ⟨RX12, "markOf", "(I)I"⟩
abbrev cX12_ask : ByteArray := prog_14_method_101_code
def yX12_ask : MethodName := ⟨RX12, "ask", "(II)I"⟩
abbrev cX12_trace : ByteArray := prog_14_method_102_code
def yX12_trace : MethodName := ⟨RX12, "trace", "(I)I"⟩
abbrev cX12_count : ByteArray := prog_14_method_103_code
def yX12_count : MethodName := ⟨RX12, "count", "(I)I"⟩
abbrev cX12_status : ByteArray := prog_14_method_104_code
def yX12_status : MethodName := ⟨RX12, "status", "()I"⟩
def RJ6 : String := "java/lang/Integer"
def TJ6 : u_T := fun k => match k with
  | _ => ("", "", "", false)
def tyJ6 : Nat → FieldType := fun k => match k with
  | _ => .int
abbrev wsJ60 : List Cond := u_ws RJ6 TJ6 0
theorem nmJ6 : ∀ a, a < 0 → ∀ b, b < 0 → a ≠ b → (TJ6 a).2.1 ≠ (TJ6 b).2.1 := by decide +kernel
theorem tyJ6_ok : ∀ k, k < 0 → parseFieldDescriptor (TJ6 k).2.2.1 = some (tyJ6 k) := by decide +kernel
abbrev cJ6_bitCount_0f7a4 : ByteArray := prog_15_method_49_code
def yJ6_bitCount_0f7a4 : MethodName := ⟨RJ6, "bitCount", "(I)I"⟩
def RJ9 : String := "java/lang/Math"
def TJ9 : u_T := fun k => match k with
  | _ => ("", "", "", false)
def tyJ9 : Nat → FieldType := fun k => match k with
  | _ => .int
abbrev wsJ90 : List Cond := u_ws RJ9 TJ9 0
theorem nmJ9 : ∀ a, a < 0 → ∀ b, b < 0 → a ≠ b → (TJ9 a).2.1 ≠ (TJ9 b).2.1 := by decide +kernel
theorem tyJ9_ok : ∀ k, k < 0 → parseFieldDescriptor (TJ9 k).2.2.1 = some (tyJ9 k) := by decide +kernel
abbrev cJ9_abs_0f7a4 : ByteArray := prog_16_method_59_code
def yJ9_abs_0f7a4 : MethodName := ⟨RJ9, "abs", "(I)I"⟩
abbrev cJ9_max_7cf53 : ByteArray := prog_16_method_65_code
def yJ9_max_7cf53 : MethodName := ⟨RJ9, "max", "(II)I"⟩
abbrev cJ9_min_7cf53 : ByteArray := prog_16_method_69_code
def yJ9_min_7cf53 : MethodName := ⟨RJ9, "min", "(II)I"⟩
def RJ10 : String := "java/lang/System"
def TJ10 : u_T := fun k => match k with
  | _ => ("", "", "", false)
def tyJ10 : Nat → FieldType := fun k => match k with
  | _ => .int
abbrev wsJ100 : List Cond := u_ws RJ10 TJ10 0
theorem nmJ10 : ∀ a, a < 0 → ∀ b, b < 0 → a ≠ b → (TJ10 a).2.1 ≠ (TJ10 b).2.1 := by decide +kernel
theorem tyJ10_ok : ∀ k, k < 0 → parseFieldDescriptor (TJ10 k).2.2.1 = some (tyJ10 k) := by decide +kernel
def RL : String := "CoalGrateLaw"
abbrev cL_law : ByteArray := code
def yL_law : MethodName := ⟨RL, "law", "([I)Z"⟩
end
section
/-! tables of mine, printed by wip/whole/p02.py: methods by number, classes, shapes of the places -/
def ymL_0 : List (MethodName) := [yX0_init, yX0_sizeOf, yX0_markOf, yX1_init, yX1_sizeOf, yX1_markOf, yX2_init, yX2_sizeOf, yX3_init, yX3_share, yX3_drips, yX3_sizeOf, yX3_markOf, yX4_init, yX4_take, yX4_readInto, yX4_readGrate, yX4_readCoal, yX4_readThing, yX4_readEater, yX4_next, yX4_readSign, yX4_readSort, yX4_readNumber, yX4_fail, yX4_isFigure, yX4_sortOf, yX5_init, yX5_isRow, yX5_isMissing, yX5_sameLane, yX5_hasPlaces, yX5_lay, yX5_get, yX5_put, yX5_carry, yX5_forget, yX5_present, yX6_init, yX6_drips]
def ymL_1 : List (MethodName) := [yX6_sizeOf, yX6_markOf, yX7_init, yX7_markOf, yX8_init, yX8_layCold, yX8_become, yX8_isServed, yX8_isThrough, yX8_isDone, yX8_skinOf, yX8_flip, yX8_heatBy, yX8_roastBy, yX8_rest, yX8_saveIn, yX8_loadFrom, yX9_init, yX9_leave, yX10_init, yX10_clear, yX10_addCoal, yX10_addThing, yX10_addEater, yX10_kindOf, yX10_thingAt, yX10_isEater, yX10_lyingIn, yX10_isOpenTo, yX10_wants, yX10_sunkBy, yX10_warmthIn, yX10_isBeside, yX10_windIn, yX10_roast, yX10_passMinute, yX10_pourWater, yX10_fireOfAll, yX10_minutesOfFire, yX10_servedCount]
def ymL_2 : List (MethodName) := [yX10_hottestBelow, yX10_burntOnes, yX10_doneOnes, yX10_save, yX10_load, yX11_init, yX11_newKinds, yX11_row, yX11_set, yX11_copy, yX11_drop, yX11_found, yX11_answered, yX11_feed, yX11_yard, yX11_fault, yX11_minutes, yX11_turn, yX11_move, yX11_coal, yX11_water, yX11_serve, yX11_undo, yX11_remember, yX11_thing, yX11_eater, yX11_ember, yX11_heat, yX11_asBit, yX11_isCell, yX11_ahead, yX11_heatAhead, yX11_isAhead, yX11_tryAsItLies, yX11_ready, yX11_where, yX11_inTime, yX11_readyAt, yX11_flips, yX11_foretellWarmth]
def ymL_3 : List (MethodName) := [yX11_tryFlips, yX11_tryMinute, yX11_isBetterWay, yX11_start, yX11_isDoneStarting, yX11_fuelFor, yX11_isDoneWithCoal, yX11_servable, yX11_doneAhead, yX11_firstFor, yX11_hand, yX11_judged, yX11_tellsTurns, yX11_tryWholeYard, yX11_fuel, yX11_image, yX11_restore, yX11_isImage, yX11_kind, yX11_as, yX11_isOneOf, yX11_ask, yX11_trace, yX11_count, yX11_status, yX12_init, yX12_in, yX12_has, yX12_found, yX12_well, yX12_isRow, yX12_row, yX12_set, yX12_isSpan, yX12_copy, yX12_drop, yX12_feed, yX12_byteAt, yX12_next, yX12_must]
def ymL_4 : List (MethodName) := [yX12_goesOn, yX12_isLetter, yX12_readSign, yX12_readNumber, yX12_sortOf, yX12_isSort, yX12_readGrate, yX12_readCoal, yX12_isTold, yX12_readThing, yX12_readEater, yX12_yard, yX12_fault, yX12_isYard, yX12_isThing, yX12_isOn, yX12_isGone, yX12_isA, yX12_below, yX12_above, yX12_size, yX12_areBeside, yX12_heatOf, yX12_thick, yX12_need, yX12_limit, yX12_least, yX12_goThing, yX12_goMinute, yX12_remembers, yX12_minutes, yX12_turn, yX12_isTaken, yX12_move, yX12_adds, yX12_coal, yX12_water, yX12_isThrough, yX12_isWell, yX12_servedNow]
def ymL_5 : List (MethodName) := [yX12_serve, yX12_undo, yX12_thing, yX12_eater, yX12_ember, yX12_heat, yX12_holds, yX12_putsBack, yX12_go, yX12_ahead, yX12_heatAhead, yX12_readyIn, yX12_ready, yX12_where, yX12_inTime, yX12_bits, yX12_isWellBy, yX12_flips, yX12_start, yX12_fuelFor, yX12_mayGet, yX12_most, yX12_servable, yX12_setOf, yX12_handles, yX12_hand, yX12_areItems, yX12_judged, yX12_fireNow, yX12_fuel, yX12_image, yX12_restore, yX12_kind, yX12_as, yX12_begins, yX12_lentSize, yX12_lentMark, yX12_sausageMark, yX12_markOfSausages, yX12_sausageSize]
def ymL_6 : List (MethodName) := [yX12_cheeseSize, yX12_sizeOfCheese, yX12_sizeOf, yX12_markOf, yX12_ask, yX12_trace, yX12_count, yX12_status, yJ6_bitCount_0f7a4, yJ9_abs_0f7a4, yJ9_max_7cf53, yJ9_min_7cf53, yL_law]
def ymL : List (MethodName) := ymL_0 ++ (ymL_1 ++ (ymL_2 ++ (ymL_3 ++ (ymL_4 ++ (ymL_5 ++ (ymL_6))))))
def btL_0 : List (ByteArray) := [cX0_init, cX0_sizeOf, cX0_markOf, cX1_init, cX1_sizeOf, cX1_markOf, cX2_init, cX2_sizeOf, cX3_init, cX3_share, cX3_drips, cX3_sizeOf, cX3_markOf, cX4_init, cX4_take, cX4_readInto, cX4_readGrate, cX4_readCoal, cX4_readThing, cX4_readEater, cX4_next, cX4_readSign, cX4_readSort, cX4_readNumber, cX4_fail, cX4_isFigure, cX4_sortOf, cX5_init, cX5_isRow, cX5_isMissing, cX5_sameLane, cX5_hasPlaces, cX5_lay, cX5_get, cX5_put, cX5_carry, cX5_forget, cX5_present, cX6_init, cX6_drips]
def btL_1 : List (ByteArray) := [cX6_sizeOf, cX6_markOf, cX7_init, cX7_markOf, cX8_init, cX8_layCold, cX8_become, cX8_isServed, cX8_isThrough, cX8_isDone, cX8_skinOf, cX8_flip, cX8_heatBy, cX8_roastBy, cX8_rest, cX8_saveIn, cX8_loadFrom, cX9_init, cX9_leave, cX10_init, cX10_clear, cX10_addCoal, cX10_addThing, cX10_addEater, cX10_kindOf, cX10_thingAt, cX10_isEater, cX10_lyingIn, cX10_isOpenTo, cX10_wants, cX10_sunkBy, cX10_warmthIn, cX10_isBeside, cX10_windIn, cX10_roast, cX10_passMinute, cX10_pourWater, cX10_fireOfAll, cX10_minutesOfFire, cX10_servedCount]
def btL_2 : List (ByteArray) := [cX10_hottestBelow, cX10_burntOnes, cX10_doneOnes, cX10_save, cX10_load, cX11_init, cX11_newKinds, cX11_row, cX11_set, cX11_copy, cX11_drop, cX11_found, cX11_answered, cX11_feed, cX11_yard, cX11_fault, cX11_minutes, cX11_turn, cX11_move, cX11_coal, cX11_water, cX11_serve, cX11_undo, cX11_remember, cX11_thing, cX11_eater, cX11_ember, cX11_heat, cX11_asBit, cX11_isCell, cX11_ahead, cX11_heatAhead, cX11_isAhead, cX11_tryAsItLies, cX11_ready, cX11_where, cX11_inTime, cX11_readyAt, cX11_flips, cX11_foretellWarmth]
def btL_3 : List (ByteArray) := [cX11_tryFlips, cX11_tryMinute, cX11_isBetterWay, cX11_start, cX11_isDoneStarting, cX11_fuelFor, cX11_isDoneWithCoal, cX11_servable, cX11_doneAhead, cX11_firstFor, cX11_hand, cX11_judged, cX11_tellsTurns, cX11_tryWholeYard, cX11_fuel, cX11_image, cX11_restore, cX11_isImage, cX11_kind, cX11_as, cX11_isOneOf, cX11_ask, cX11_trace, cX11_count, cX11_status, cX12_init, cX12_in, cX12_has, cX12_found, cX12_well, cX12_isRow, cX12_row, cX12_set, cX12_isSpan, cX12_copy, cX12_drop, cX12_feed, cX12_byteAt, cX12_next, cX12_must]
def btL_4 : List (ByteArray) := [cX12_goesOn, cX12_isLetter, cX12_readSign, cX12_readNumber, cX12_sortOf, cX12_isSort, cX12_readGrate, cX12_readCoal, cX12_isTold, cX12_readThing, cX12_readEater, cX12_yard, cX12_fault, cX12_isYard, cX12_isThing, cX12_isOn, cX12_isGone, cX12_isA, cX12_below, cX12_above, cX12_size, cX12_areBeside, cX12_heatOf, cX12_thick, cX12_need, cX12_limit, cX12_least, cX12_goThing, cX12_goMinute, cX12_remembers, cX12_minutes, cX12_turn, cX12_isTaken, cX12_move, cX12_adds, cX12_coal, cX12_water, cX12_isThrough, cX12_isWell, cX12_servedNow]
def btL_5 : List (ByteArray) := [cX12_serve, cX12_undo, cX12_thing, cX12_eater, cX12_ember, cX12_heat, cX12_holds, cX12_putsBack, cX12_go, cX12_ahead, cX12_heatAhead, cX12_readyIn, cX12_ready, cX12_where, cX12_inTime, cX12_bits, cX12_isWellBy, cX12_flips, cX12_start, cX12_fuelFor, cX12_mayGet, cX12_most, cX12_servable, cX12_setOf, cX12_handles, cX12_hand, cX12_areItems, cX12_judged, cX12_fireNow, cX12_fuel, cX12_image, cX12_restore, cX12_kind, cX12_as, cX12_begins, cX12_lentSize, cX12_lentMark, cX12_sausageMark, cX12_markOfSausages, cX12_sausageSize]
def btL_6 : List (ByteArray) := [cX12_cheeseSize, cX12_sizeOfCheese, cX12_sizeOf, cX12_markOf, cX12_ask, cX12_trace, cX12_count, cX12_status, cJ6_bitCount_0f7a4, cJ9_abs_0f7a4, cJ9_max_7cf53, cJ9_min_7cf53, cL_law]
def btL : List (ByteArray) := btL_0 ++ (btL_1 ++ (btL_2 ++ (btL_3 ++ (btL_4 ++ (btL_5 ++ (btL_6))))))
def mlL_0 : List (Nat) := [5, 3, 3, 5, 3, 3, 5, 3, 5, 2, 1, 3, 3, 1, 2, 3, 2, 4, 5, 4, 1, 2, 2, 6, 3, 1, 1, 2, 2, 2, 3, 4, 5, 3, 5, 6, 2, 3, 5, 1]
def mlL_1 : List (Nat) := [3, 3, 5, 3, 3, 3, 2, 1, 1, 1, 2, 2, 4, 3, 2, 3, 4, 1, 2, 3, 1, 4, 3, 3, 2, 2, 2, 3, 4, 4, 2, 7, 2, 2, 3, 3, 3, 3, 3, 3]
def mlL_2 : List (Nat) := [4, 3, 3, 6, 7, 1, 1, 4, 4, 6, 2, 2, 2, 2, 3, 1, 3, 3, 5, 3, 1, 4, 1, 1, 4, 3, 3, 2, 1, 1, 5, 5, 2, 4, 3, 7, 6, 5, 5, 4]
def mlL_3 : List (Nat) := [7, 7, 3, 6, 6, 5, 6, 7, 4, 5, 6, 6, 7, 1, 2, 2, 2, 1, 3, 4, 2, 4, 2, 2, 1, 2, 3, 2, 2, 2, 1, 5, 5, 4, 8, 2, 2, 2, 2, 3]
def mlL_4 : List (Nat) := [1, 2, 2, 4, 2, 1, 1, 3, 4, 3, 3, 3, 1, 1, 2, 2, 2, 2, 2, 2, 1, 2, 5, 2, 2, 2, 1, 4, 3, 2, 3, 2, 5, 4, 4, 3, 4, 2, 2, 3]
def mlL_5 : List (Nat) := [4, 2, 3, 3, 3, 2, 2, 2, 3, 5, 4, 5, 2, 7, 6, 3, 5, 7, 6, 5, 4, 9, 10, 5, 4, 6, 7, 6, 3, 3, 3, 3, 2, 3, 2, 2, 2, 2, 3, 3]
def mlL_6 : List (Nat) := [2, 2, 2, 3, 3, 2, 4, 1, 1, 1, 2, 2, 4]
def mlL : List (Nat) := mlL_0 ++ (mlL_1 ++ (mlL_2 ++ (mlL_3 ++ (mlL_4 ++ (mlL_5 ++ (mlL_6))))))
def rtL_0 : List (Option FieldType) := [none, (some .int), (some .int), none, (some .int), (some .int), none, (some .int), none, (some .int), (some .boolean), (some .int), (some .int), none, (some .boolean), (some .boolean), none, none, none, none, (some .int), none, (some .int), (some .int), none, (some .boolean), (some .int), none, (some .boolean), (some .boolean), (some .boolean), (some .boolean), none, (some .int), (some .int), none, (some .int), (some .int), none, (some .boolean)]
def rtL_1 : List (Option FieldType) := [(some .int), (some .int), none, (some .int), none, none, none, (some .boolean), (some .boolean), (some .boolean), (some .int), none, (some .int), none, none, none, none, none, none, none, none, none, none, none, (some (.object "CoalGrate$Kind")), (some (.object "CoalGrate$Thing")), (some .boolean), (some (.object "CoalGrate$Thing")), (some .boolean), (some .boolean), (some .int), (some .int), (some .boolean), (some .int), none, none, (some .int), (some .int), (some .int), (some .int)]
def rtL_2 : List (Option FieldType) := [(some (.object "CoalGrate$Thing")), (some .int), (some .int), none, none, none, (some (.array (.object "CoalGrate$Kind"))), (some .int), (some .int), (some .int), (some .int), (some .int), (some .int), (some .int), (some .int), (some .int), (some .int), (some .int), (some .int), (some .int), (some .int), (some .int), (some .int), none, (some .int), (some .int), (some .int), (some .int), (some .int), (some .boolean), (some .int), (some .int), (some .boolean), none, (some .int), (some .int), (some .int), (some .int), (some .int), none]
def rtL_3 : List (Option FieldType) := [none, none, (some .boolean), (some .int), (some .boolean), (some .int), (some .boolean), (some .int), (some .int), (some .int), (some .int), (some .int), (some .boolean), none, (some .int), (some .int), (some .int), (some .boolean), (some .int), (some .int), (some .boolean), (some .int), (some .int), (some .int), (some .int), none, (some .boolean), (some .boolean), (some .int), (some .int), (some .boolean), (some .int), (some .int), (some .boolean), (some .int), (some .int), (some .int), (some .int), none, none]
def rtL_4 : List (Option FieldType) := [none, (some .boolean), none, (some .int), (some .int), (some .boolean), none, none, (some .boolean), none, none, (some .int), (some .int), (some .boolean), (some .boolean), (some .boolean), (some .boolean), (some .boolean), (some .int), (some .int), (some .int), (some .boolean), (some .int), (some .int), (some .int), (some .int), (some .int), none, none, none, (some .int), (some .int), (some .boolean), (some .int), none, (some .int), (some .int), (some .boolean), (some .boolean), (some .int)]
def rtL_5 : List (Option FieldType) := [(some .int), (some .int), (some .int), (some .int), (some .int), (some .int), none, none, none, (some .int), (some .int), (some .int), (some .int), (some .int), (some .int), (some .int), (some .boolean), (some .int), (some .int), (some .int), (some .boolean), (some .int), (some .int), (some .int), (some .int), (some .int), (some .boolean), (some .int), (some .int), (some .int), (some .int), (some .int), (some .int), (some .int), none, (some .int), (some .int), (some .int), (some .int), (some .int)]
def rtL_6 : List (Option FieldType) := [(some .int), (some .int), (some .int), (some .int), (some .int), (some .int), (some .int), (some .int), (some .int), (some .int), (some .int), (some .int), (some .boolean)]
def rtL : List (Option FieldType) := rtL_0 ++ (rtL_1 ++ (rtL_2 ++ (rtL_3 ++ (rtL_4 ++ (rtL_5 ++ (rtL_6))))))
def naL_0 : List (Nat) := [4, 2, 2, 4, 2, 2, 4, 2, 4, 1, 0, 2, 2, 0, 1, 1, 1, 1, 1, 1, 0, 1, 0, 2, 2, 1, 1, 0, 1, 1, 2, 3, 3, 2, 3, 5, 1, 0, 4, 0]
def naL_1 : List (Nat) := [2, 2, 4, 2, 2, 2, 1, 0, 0, 0, 1, 0, 2, 2, 1, 2, 3, 0, 1, 1, 0, 3, 2, 2, 1, 1, 1, 1, 2, 3, 1, 2, 2, 1, 2, 0, 0, 0, 0, 0]
def naL_2 : List (Nat) := [0, 0, 0, 2, 2, 0, 0, 3, 3, 5, 1, 1, 1, 1, 0, 0, 1, 1, 2, 2, 0, 2, 0, 0, 2, 2, 2, 1, 1, 1, 3, 2, 2, 2, 1, 1, 2, 3, 3, 2]
def naL_3 : List (Nat) := [6, 6, 1, 3, 4, 2, 3, 2, 1, 3, 2, 3, 3, 0, 0, 1, 1, 1, 1, 2, 2, 2, 1, 1, 0, 0, 3, 2, 1, 1, 1, 3, 3, 3, 5, 1, 1, 1, 0, 2]
def naL_4 : List (Nat) := [0, 1, 1, 2, 1, 0, 0, 0, 1, 0, 0, 0, 0, 0, 1, 1, 1, 2, 1, 1, 1, 2, 1, 1, 1, 1, 1, 1, 0, 0, 1, 1, 2, 2, 2, 2, 0, 1, 1, 0]
def naL_5 : List (Nat) := [2, 0, 2, 2, 2, 1, 0, 0, 1, 3, 2, 2, 1, 1, 2, 1, 3, 3, 3, 2, 3, 3, 2, 1, 0, 2, 3, 3, 0, 0, 1, 1, 1, 2, 1, 1, 1, 1, 1, 1]
def naL_6 : List (Nat) := [1, 1, 1, 1, 2, 1, 1, 0, 1, 1, 2, 2, 1]
def naL : List (Nat) := naL_0 ++ (naL_1 ++ (naL_2 ++ (naL_3 ++ (naL_4 ++ (naL_5 ++ (naL_6))))))
def ym (M : Nat) : MethodName := ymL.getD M yL_law
def bt (M : Nat) : ByteArray := btL.getD M code
def ml (M : Nat) : Nat := mlL.getD M 4
def rt (M : Nat) : Option FieldType := rtL.getD M none
def na (M : Nat) : Nat := naL.getD M 0
def mcL_0 : List (Nat) := [0, 0, 0, 0, 0, 0, 0, 0, 0, 0, 0, 0, 0, 1, 0, 0, 0, 0, 0, 0, 0, 0, 0, 0, 0, 0, 0, 3, 0, 0, 0, 0, 0, 0, 0, 0, 0, 0, 0, 0]
def mcL_1 : List (Nat) := [0, 0, 0, 0, 0, 0, 0, 0, 0, 0, 0, 0, 0, 0, 0, 0, 0, 1, 0, 13, 0, 0, 0, 0, 0, 0, 0, 0, 0, 0, 0, 0, 0, 0, 0, 0, 0, 0, 0, 0]
def mcL_2 : List (Nat) := [0, 0, 0, 0, 0, 49, 7, 0, 0, 0, 0, 0, 0, 0, 0, 0, 0, 0, 0, 0, 0, 0, 0, 0, 0, 0, 0, 0, 0, 0, 0, 0, 0, 0, 0, 0, 0, 0, 0, 0]
def mcL_3 : List (Nat) := [0, 0, 0, 0, 0, 0, 0, 0, 0, 0, 0, 0, 0, 0, 0, 0, 0, 0, 0, 0, 0, 0, 0, 0, 0, 14, 0, 0, 0, 0, 0, 0, 0, 0, 0, 0, 0, 0, 0, 0]
def mcL_4 : List (Nat) := [0, 0, 0, 0, 0, 0, 0, 0, 0, 0, 0, 0, 0, 0, 0, 0, 0, 0, 0, 0, 0, 0, 0, 0, 0, 0, 0, 0, 0, 0, 0, 0, 0, 0, 0, 0, 0, 0, 0, 0]
def mcL_5 : List (Nat) := [0, 0, 0, 0, 0, 0, 0, 0, 0, 0, 0, 0, 0, 0, 0, 0, 0, 0, 0, 0, 0, 0, 0, 0, 0, 0, 0, 0, 0, 0, 0, 0, 0, 0, 0, 0, 0, 0, 0, 0]
def mcL_6 : List (Nat) := [0, 0, 0, 0, 0, 0, 0, 0, 0, 0, 0, 0, 600000]
def mcL : List (Nat) := mcL_0 ++ (mcL_1 ++ (mcL_2 ++ (mcL_3 ++ (mcL_4 ++ (mcL_5 ++ (mcL_6))))))
def msL_0 : List (Nat) := [0, 0, 0, 0, 0, 0, 0, 0, 0, 0, 0, 0, 0, 160, 0, 0, 0, 0, 0, 0, 0, 0, 0, 0, 0, 0, 0, 336, 0, 0, 0, 0, 0, 0, 0, 0, 0, 0, 0, 0]
def msL_1 : List (Nat) := [0, 0, 0, 0, 0, 0, 0, 0, 0, 0, 0, 0, 0, 0, 0, 0, 0, 16, 0, 90, 0, 0, 0, 0, 0, 0, 0, 0, 0, 0, 0, 0, 0, 0, 0, 0, 0, 0, 0, 0]
def msL_2 : List (Nat) := [0, 0, 0, 0, 0, 3099, 30, 0, 0, 0, 0, 0, 0, 0, 0, 0, 0, 0, 0, 0, 0, 0, 0, 0, 0, 0, 0, 0, 0, 0, 0, 0, 0, 0, 0, 0, 0, 0, 0, 0]
def msL_3 : List (Nat) := [0, 0, 0, 0, 0, 0, 0, 0, 0, 0, 0, 0, 0, 0, 0, 0, 0, 0, 0, 0, 0, 0, 0, 0, 0, 2520, 0, 0, 0, 0, 0, 0, 0, 0, 0, 0, 0, 0, 0, 0]
def msL_4 : List (Nat) := [0, 0, 0, 0, 0, 0, 0, 0, 0, 0, 0, 0, 0, 0, 0, 0, 0, 0, 0, 0, 0, 0, 0, 0, 0, 0, 0, 0, 0, 0, 0, 0, 0, 0, 0, 0, 0, 0, 0, 0]
def msL_5 : List (Nat) := [0, 0, 0, 0, 0, 0, 0, 0, 0, 0, 0, 0, 0, 0, 0, 0, 0, 0, 0, 0, 0, 0, 0, 0, 0, 0, 0, 0, 0, 0, 0, 0, 0, 0, 0, 0, 0, 0, 0, 0]
def msL_6 : List (Nat) := [0, 0, 0, 0, 0, 0, 0, 0, 0, 0, 0, 0, 7302250]
def msL : List (Nat) := msL_0 ++ (msL_1 ++ (msL_2 ++ (msL_3 ++ (msL_4 ++ (msL_5 ++ (msL_6))))))
def mc (M : Nat) : Nat := mcL.getD M 0
def ms (M : Nat) : Nat := msL.getD M 0
abbrev classes : List vw_C := [(RX0, TX0, 4), (RX1, TX1, 4), (RX2, TX2, 4), (RX3, TX3, 4), (RX4, TX4, 6), (RX5, TX5, 3), (RX6, TX6, 4), (RX7, TX7, 4), (RX8, TX8, 8), (RX9, TX9, 2), (RX10, TX10, 14), (RX11, TX11, 17), (RX12, TX12, 24)]
def FKL : List (List Bool) := [[true, true, true, true], [true, true, true, true], [true, true, true, true], [true, true, true, true], [false, true, true, true, true, true], [false, false, false], [true, true, true, true], [true, true, true, true], [true, false, true, true, true, true, true, true], [false, true], [false, true, true, true, true, false, false, false, true, false, true, false, false, false], [false, false, false, false, false, false, false, true, false, true, true, false, false, false, false, true, true], [false, false, false, false, true, false, false, false, true, false, true, true, true, true, true, true, true, false, false, false, false, false, false, true]]
def FK (c : Nat) : List Bool := FKL.getD c []
def SHL : List (Nat × Nat) := [(0, 11), (0, 5), (1, 320), (1, 8), (1, 8), (0, 4), (1, 160), (0, 9), (1, 16), (3, 6), (0, 3), (0, 6), (0, 1), (0, 7), (0, 0), (0, 2), (0, 8), (0, 10), (1, 8), (1, 8), (1, 8), (4, 6), (1, 4), (1, 4), (1, 4), (0, 8), (0, 8), (0, 8), (0, 8), (0, 8), (0, 8), (0, 10), (1, 8), (1, 8), (1, 8), (4, 6), (1, 4), (1, 4), (1, 4), (0, 8), (0, 8), (0, 8), (0, 8), (0, 8), (0, 8), (1, 2016), (1, 168), (2, 2), (1, 84), (1, 60), (0, 12), (1, 85), (1, 170), (2, 2), (1, 1584), (1, 8), (1, 8), (1, 320), (1, 160), (1, 85), (1, 6), (1, 66), (2, 6), (1, 4), (1, 16)]
def SH (k : Nat) : Nat × Nat := SHL.getD k (9, 0)
def fet (M pc : Nat) : Except DecodeError (Instr × Nat) := decode (bt M) pc
def nestL : List (String × Nat × MethodName × String) := [("CoalGrate", 18, ⟨"CoalGrate$Reader", "<init>", "()V"⟩, "CoalGrate"), ("CoalGrate", 25, ⟨"CoalGrate$Trace", "<init>", "()V"⟩, "CoalGrate"), ("CoalGrate$Yard", 68, ⟨"CoalGrate", "isCell", "(I)Z"⟩, "CoalGrate"), ("CoalGrate$Thing", 67, ⟨"CoalGrate", "asBit", "(Z)I"⟩, "CoalGrate"), ("CoalGrate$Yard", 134, ⟨"CoalGrate", "asBit", "(Z)I"⟩, "CoalGrate"), ("CoalGrate$Rows", 29, ⟨"CoalGrate", "asBit", "(Z)I"⟩, "CoalGrate")]
def castL : List (String × String) := [("CoalGrate$Chicken", "CoalGrate$Sausage"), ("CoalGrate$Thin", "CoalGrate$Sausage"), ("CoalGrate$Corn", "CoalGrate$Cheese"), ("CoalGrate$Sausage", "CoalGrate$Kind"), ("CoalGrate$Chicken", "CoalGrate$Kind"), ("CoalGrate$Thin", "CoalGrate$Kind"), ("CoalGrate$Cheese", "CoalGrate$Kind"), ("CoalGrate$Corn", "CoalGrate$Kind")]
def nocastL : List (String × String) := [("CoalGrate$Kind", "CoalGrate$Sausage"), ("CoalGrate$Cheese", "CoalGrate$Sausage"), ("CoalGrate$Corn", "CoalGrate$Sausage"), ("CoalGrate$Kind", "CoalGrate$Chicken"), ("CoalGrate$Sausage", "CoalGrate$Chicken"), ("CoalGrate$Thin", "CoalGrate$Chicken"), ("CoalGrate$Cheese", "CoalGrate$Chicken"), ("CoalGrate$Corn", "CoalGrate$Chicken"), ("CoalGrate$Kind", "CoalGrate$Thin"), ("CoalGrate$Sausage", "CoalGrate$Thin"), ("CoalGrate$Chicken", "CoalGrate$Thin"), ("CoalGrate$Cheese", "CoalGrate$Thin"), ("CoalGrate$Corn", "CoalGrate$Thin"), ("CoalGrate$Kind", "CoalGrate$Cheese"), ("CoalGrate$Sausage", "CoalGrate$Cheese"), ("CoalGrate$Chicken", "CoalGrate$Cheese"), ("CoalGrate$Thin", "CoalGrate$Cheese"), ("CoalGrate$Kind", "CoalGrate$Corn"), ("CoalGrate$Sausage", "CoalGrate$Corn"), ("CoalGrate$Chicken", "CoalGrate$Corn"), ("CoalGrate$Thin", "CoalGrate$Corn"), ("CoalGrate$Cheese", "CoalGrate$Corn")]
def overL : List String := ["CoalGrate$Kind", "CoalGrate$Thing"]
end
section
/-! the machine seen from afar: places instead of addresses; one heap of ints and of references, by place and slot -/
abbrev AV : Type := Int32 ⊕ (Int64 ⊕ Option Nat)
abbrev vI (x : Int32) : AV := Sum.inl x
abbrev vL (x : Int64) : AV := Sum.inr (Sum.inl x)
abbrev vR (o : Option Nat) : AV := Sum.inr (Sum.inr o)
abbrev Hp : Type := Nat × (Nat → Nat → Int32) × (Nat → Nat → Option Nat)
abbrev hn (h : Hp) : Nat := h.1
def hi (h : Hp) : Nat → Nat → Int32 := h.2.1
def hr (h : Hp) : Nat → Nat → Option Nat := h.2.2
def seti (h : Hp) (k j : Nat) (v : Int32) : Hp := (h.1, fun a => if a = k then upd (h.2.1 k) j v else h.2.1 a, h.2.2)
def setr (h : Hp) (k j : Nat) (v : Option Nat) : Hp := (h.1, h.2.1, fun a => if a = k then va_up (h.2.2 k) j v else h.2.2 a)
def setw (h : Hp) (k : Nat) (f : Nat → Int32) : Hp := (h.1, fun a => if a = k then f else h.2.1 a, h.2.2)
def grow (h : Hp) : Hp := (h.1 + 1, fun a => if a = h.1 then (fun _ => 0) else h.2.1 a, fun a => if a = h.1 then (fun _ => none) else h.2.2 a)
def cv (ad : Nat → Nat) : AV → Value
  | .inl x => .int x
  | .inr (.inl x) => .long x
  | .inr (.inr o) => va_rf (o.map ad)
def isL : AV → Bool
  | .inr (.inl _) => true
  | _ => false
def wt : AV → Nat
  | .inr (.inl _) => 2
  | _ => 1
def lc (ad : Nat → Nat) (ls : List (Nat × AV)) : List (Nat × Value) := ls.map (fun q => (q.1, cv ad q.2))
def stL (i : Nat) (v : AV) (ls : List (Nat × AV)) : List (Nat × AV) := (i, v) :: ls.filter (fun q => !(q.1 == i) && !(q.1 + 1 == i && isL q.2))
def lk : List (Nat × AV) → Nat → Option AV
  | [], _ => none
  | (j, v) :: t, i => if j == i then some v else lk t i
def la : Nat → List AV → List (Nat × AV)
  | _, [] => []
  | i, v :: t => (i, v) :: la (i + 1) t
theorem cv_cat (ad : Nat → Nat) (v : AV) : (cv ad v).category = wt v := by
  rcases v with x | x | o
  · rfl
  · rfl
  · cases o <;> rfl
theorem wt_isL (v : AV) : (wt v == 2) = isL v := by
  rcases v with x | x | o <;> rfl
theorem lk_mem {ls : List (Nat × AV)} {i : Nat} {v : AV} (h : lk ls i = some v) : (i, v) ∈ ls := by
  induction ls with
  | nil => cases h
  | cons q t ih =>
    obtain ⟨j, w⟩ := q
    unfold lk at h
    by_cases hj : (j == i) = true
    · rw [if_pos hj] at h
      have : j = i := by simpa using hj
      subst this
      cases h
      exact List.mem_cons_self
    · rw [if_neg hj] at h
      exact List.mem_cons_of_mem _ (ih h)
theorem lc_lk {ad : Nat → Nat} {lsC : Array Slot} {nL : Nat} {ls : List (Nat × AV)} {i : Nat} {v : AV} (hl : lv_has lsC nL (lc ad ls)) (h : lk ls i = some v) : lsC[i]? = some (.val (cv ad v)) :=
  hl.2.2 (i, cv ad v) (List.mem_map.mpr ⟨(i, v), lk_mem h, rfl⟩)
theorem lc_st (ad : Nat → Nat) (i : Nat) (v : AV) (ls : List (Nat × AV)) : (i, cv ad v) :: (lc ad ls).filter (fun q => !(q.1 == i) && !(q.1 + 1 == i && q.2.category == 2)) = lc ad (stL i v ls) := by
  unfold lc stL
  rw [List.filter_map, List.map_cons]
  congr 2
  apply List.filter_congr
  intro q _
  simp [Function.comp, cv_cat, ← wt_isL]
theorem la_args (ad : Nat → Nat) (args : List AV) (hnl : args.all (fun v => !isL v) = true) : ∀ i, lv_args i (args.map (cv ad)) = lc ad (la i args) := by
  induction args with
  | nil => intro i; rfl
  | cons v t ih =>
    intro i
    simp only [List.all_cons, Bool.and_eq_true] at hnl
    have hc : (cv ad v).category ≠ 2 := by
      rw [cv_cat]
      rcases v with x | x | o
      · show (1 : Nat) ≠ 2; decide
      · simp [isL] at hnl
      · show (1 : Nat) ≠ 2; decide
    simp only [List.map_cons, lv_args, if_neg hc, la, lc]
    congr 1
    exact ih hnl.2 (i + 1)
theorem la_len (ad : Nat → Nat) (args : List AV) (hnl : args.all (fun v => !isL v) = true) : (lg_sl (args.map (cv ad))).length = args.length := by
  induction args with
  | nil => rfl
  | cons v t ih =>
    simp only [List.all_cons, Bool.and_eq_true] at hnl
    have hc : (cv ad v).category ≠ 2 := by
      rw [cv_cat]
      rcases v with x | x | o
      · show (1 : Nat) ≠ 2; decide
      · simp [isL] at hnl
      · show (1 : Nat) ≠ 2; decide
    have e : lg_sl ((v :: t).map (cv ad)) = .val (cv ad v) :: lg_sl (t.map (cv ad)) := by
      simp [lg_sl, hc]
    rw [e, List.length_cons, ih hnl.2, List.length_cons]
/-! the cells -/
abbrev En : Type := va_G × ClassId × ClassId × ClassId × ClassId
def tysE (E : En) : List (ClassId × FieldType) := [(E.2.1, .int), (E.2.2.1, .boolean), (E.2.2.2.1, .object RX3), (E.2.2.2.2, .object RX8)]
def fv (ad : Nat → Nat) (f : Nat → Int32) (g : Nat → Option Nat) : Nat → List Bool → List Value
  | _, [] => []
  | j, true :: t => .int (f j) :: fv ad f g (j + 1) t
  | j, false :: t => va_rf ((g j).map ad) :: fv ad f g (j + 1) t
def rrow (g : Nat → Option Nat) (ad : Nat → Nat) : Nat → Option Nat := fun j => (g j).map ad
def cell (E : En) (ad : Nat → Nat) (h : Hp) (k : Nat) : va_E :=
  match SH k with
  | (0, ci) => .inr (ci, fv ad (hi h k) (hr h k) 0 (FK ci))
  | (1, n) => .inl (E.2.1, n, .inl (hi h k))
  | (2, n) => .inl (E.2.2.1, n, .inl (hi h k))
  | (3, n) => .inl (E.2.2.2.1, n, .inr (.inr (.inr (.inr (rrow (hr h k) ad)))))
  | (_, n) => .inl (E.2.2.2.2, n, .inr (.inr (.inr (.inr (rrow (hr h k) ad)))))
def toW (E : En) (ad : Nat → Nat) (h : Hp) : va_W := (List.range (hn h)).map (fun k => (ad k, cell E ad h k))
theorem fv_len (ad : Nat → Nat) (f : Nat → Int32) (g : Nat → Option Nat) (l : List Bool) : ∀ j, (fv ad f g j l).length = l.length := by
  induction l with
  | nil => intro j; rfl
  | cons b t ih => intro j; cases b <;> simp [fv, ih]
theorem fv_get {ad : Nat → Nat} {f : Nat → Int32} {g : Nat → Option Nat} : ∀ (l : List Bool) (j i : Nat) (b : Bool), l[i]? = some b → (fv ad f g j l)[i]? = some (if b then .int (f (j + i)) else va_rf ((g (j + i)).map ad)) := by
  intro l
  induction l with
  | nil => intro j i b h; simp at h
  | cons c t ih =>
    intro j i b h
    cases i with
    | zero =>
      simp at h
      subst h
      cases c <;> simp [fv]
    | succ i =>
      simp only [List.getElem?_cons_succ] at h
      have e := ih (j + 1) i b h
      rw [show j + 1 + i = j + (i + 1) by omega] at e
      cases c <;> simp [fv, e]
theorem fv_above {ad : Nat → Nat} {f f' : Nat → Int32} {g g' : Nat → Option Nat} : ∀ (l : List Bool) (j : Nat), (∀ q, j ≤ q → f' q = f q) → (∀ q, j ≤ q → g' q = g q) → fv ad f' g' j l = fv ad f g j l := by
  intro l
  induction l with
  | nil => intro j _ _; rfl
  | cons c t ih =>
    intro j h1 h2
    have e := ih (j + 1) (fun q hq => h1 q (by omega)) (fun q hq => h2 q (by omega))
    cases c <;> simp [fv, e, h1 j (Nat.le_refl j), h2 j (Nat.le_refl j)]
theorem fv_setI {ad : Nat → Nat} {f : Nat → Int32} {g : Nat → Option Nat} {v : Int32} : ∀ (l : List Bool) (j i : Nat), l[i]? = some true → (fv ad f g j l).set i (.int v) = fv ad (upd f (j + i) v) g j l := by
  intro l
  induction l with
  | nil => intro j i h; simp at h
  | cons c t ih =>
    intro j i h
    cases i with
    | zero =>
      simp at h
      subst h
      have e := fv_above (ad := ad) (f := f) (f' := upd f j v) (g := g) (g' := g) t (j + 1) (fun q hq => by have hne : q ≠ j := by omega
                                                                                                            simp [upd, hne]) (fun _ _ => rfl)
      simp only [fv, Nat.add_zero, List.set_cons_zero]
      rw [e]
      simp [upd]
    | succ i =>
      simp only [List.getElem?_cons_succ] at h
      have e := ih (j + 1) i h
      rw [show j + 1 + i = j + (i + 1) by omega] at e
      cases c <;> simp [fv, e, upd] <;> omega
theorem fv_setR {ad : Nat → Nat} {f : Nat → Int32} {g : Nat → Option Nat} {v : Option Nat} : ∀ (l : List Bool) (j i : Nat), l[i]? = some false → (fv ad f g j l).set i (va_rf (v.map ad)) = fv ad f (va_up g (j + i) v) j l := by
  intro l
  induction l with
  | nil => intro j i h; simp at h
  | cons c t ih =>
    intro j i h
    cases i with
    | zero =>
      simp at h
      subst h
      have hg : ∀ q, j + 1 ≤ q → va_up g j v q = g q := by
        intro q hq
        have hne : q ≠ j := by omega
        simp [va_up, hne]
      have e := fv_above (ad := ad) (f := f) (f' := f) (g := g) (g' := va_up g j v) t (j + 1) (fun _ _ => rfl) hg
      simp only [fv, Nat.add_zero, List.set_cons_zero]
      rw [e]
      simp [va_up]
    | succ i =>
      simp only [List.getElem?_cons_succ] at h
      have e := ih (j + 1) i h
      rw [show j + 1 + i = j + (i + 1) by omega] at e
      cases c <;> simp [fv, e, va_up] <;> omega
theorem toW_at {E : En} {ad : Nat → Nat} {h : Hp} {k : Nat} (hk : k < hn h) : (toW E ad h)[k]? = some (ad k, cell E ad h k) := by
  simp [toW, hk]
theorem toW_len (E : En) (ad : Nat → Nat) (h : Hp) : (toW E ad h).length = hn h := by simp [toW]
theorem cell_congr {E : En} {ad : Nat → Nat} {h h' : Hp} {k : Nat} (h1 : hi h' k = hi h k) (h2 : hr h' k = hr h k) : cell E ad h' k = cell E ad h k := by
  unfold cell
  rw [h1, h2]
theorem toW_set {E : En} {ad : Nat → Nat} {h h' : Hp} {k : Nat} {e : va_E} (hl : hn h' = hn h) (hc : e = cell E ad h' k) (h1 : ∀ a, a ≠ k → hi h' a = hi h a) (h2 : ∀ a, a ≠ k → hr h' a = hr h a) : (toW E ad h).set k (ad k, e) = toW E ad h' := by
  subst hc
  apply List.ext_getElem?
  intro i
  rw [List.getElem?_set]
  by_cases hik : k = i
  · subst hik
    rw [if_pos rfl]
    by_cases hlt : k < hn h
    · rw [toW_at (h := h') (by rw [hl]; exact hlt)]
      simp [toW_len, hlt]
    · simp [toW, hl, hlt]
  · rw [if_neg hik]
    by_cases hlt : i < hn h
    · rw [toW_at hlt, toW_at (h := h') (by rw [hl]; exact hlt), cell_congr (h1 i (fun q => hik q.symm)) (h2 i (fun q => hik q.symm))]
    · simp [toW, hl, hlt]
theorem hi_seti (h : Hp) (k j : Nat) (v : Int32) (a b : Nat) : hi (seti h k j v) a b = if a = k ∧ b = j then v else hi h a b := by
  unfold hi seti upd
  by_cases ha : a = k
  · subst ha
    by_cases hb : b = j <;> simp [hb]
  · simp [ha]
theorem hr_seti (h : Hp) (k j : Nat) (v : Int32) : hr (seti h k j v) = hr h := rfl
theorem hi_setr (h : Hp) (k j : Nat) (v : Option Nat) : hi (setr h k j v) = hi h := rfl
theorem hr_setr (h : Hp) (k j : Nat) (v : Option Nat) (a b : Nat) : hr (setr h k j v) a b = if a = k ∧ b = j then v else hr h a b := by
  unfold hr setr va_up
  by_cases ha : a = k
  · subst ha
    by_cases hb : b = j <;> simp [hb]
  · simp [ha]
theorem hi_setw (h : Hp) (k : Nat) (f : Nat → Int32) (a b : Nat) : hi (setw h k f) a b = if a = k then f b else hi h a b := by
  unfold hi setw
  by_cases ha : a = k <;> simp [ha]
theorem hr_setw (h : Hp) (k : Nat) (f : Nat → Int32) : hr (setw h k f) = hr h := rfl
theorem hi_seti_row (h : Hp) (k j : Nat) (v : Int32) : hi (seti h k j v) k = upd (hi h k) j v := by simp [hi, seti]
theorem hi_seti_ne (h : Hp) (k j : Nat) (v : Int32) (a : Nat) (ha : a ≠ k) : hi (seti h k j v) a = hi h a := by simp [hi, seti, ha]
theorem hr_setr_row (h : Hp) (k j : Nat) (v : Option Nat) : hr (setr h k j v) k = va_up (hr h k) j v := by simp [hr, setr]
theorem hr_setr_ne (h : Hp) (k j : Nat) (v : Option Nat) (a : Nat) (ha : a ≠ k) : hr (setr h k j v) a = hr h a := by simp [hr, setr, ha]
theorem hi_setw_row (h : Hp) (k : Nat) (f : Nat → Int32) : hi (setw h k f) k = f := by simp [hi, setw]
theorem hi_setw_ne (h : Hp) (k : Nat) (f : Nat → Int32) (a : Nat) (ha : a ≠ k) : hi (setw h k f) a = hi h a := by simp [hi, setw, ha]
theorem rrow_up (g : Nat → Option Nat) (ad : Nat → Nat) (j : Nat) (v : Option Nat) : rrow (va_up g j v) ad = va_up (rrow g ad) j (v.map ad) := by
  funext q
  by_cases hq : q = j <;> simp [rrow, va_up, hq]
end
section
/-! judgements: OKX (what a frame stands on), WD (the world), RT (how it ends), wp (from here on), Spec (a method) -/
def TBL : List Cond := lw_tbl.filter goodWord
theorem tb {w : Cond} (i : Nat) (h : lw_tbl[i]? = some w) (hg : goodWord w = true) : w ∈ TBL := List.mem_filter.mpr ⟨List.mem_of_getElem? h, hg⟩
theorem tbl_good {w : Cond} (h : w ∈ TBL) : (w.onTables && w.keeps) = true ∨ ∃ ty, w = .arrayClass ty := good_of_word (List.mem_filter.mp h).2
def own (M : Nat) : String := (ym M).cls
def WS (M : Nat) : List Cond := .code (ym M) (bt M) (ml M) (rt M) :: TBL
theorem good_ws {M : Nat} (hc : Cond.code (ym M) (bt M) (ml M) (rt M) ∈ TBL) : GoodIn TBL (WS M) := by
  intro w hw
  rcases List.mem_cons.mp hw with rfl | h
  · exact ⟨hc, tbl_good hc⟩
  · exact ⟨h, tbl_good h⟩
theorem good_app {a b : List Cond} (ha : ∀ w ∈ a, w ∈ TBL) (hb : GoodIn TBL b) : GoodIn TBL (a ++ b) := by
  intro w hw
  rcases List.mem_append.mp hw with h | h
  · exact ⟨ha w h, tbl_good (ha w h)⟩
  · exact hb w h
def NC (s : State) : Prop := (∀ q ∈ nestL, va_Nw (.methodLinkNest q.1 q.2.1 q.2.2.1 q.2.2.2) s) ∧ (∀ q ∈ castL, va_Nw (.castable q.1 q.2) s) ∧ (∀ q ∈ nocastL, va_Nc q.1 q.2 s) ∧ (∀ C ∈ overL, va_AO C s)
def rmD (d M : Nat) : Room := { frames := d, cells := mc M, slots := ms M, locals := 40 * d }
def OKX (p : Program) (R : Room) (s : State) (m : MethodId) (args : Array Value) (meth : Method) (c : Code) (A : Nat → Prop) (E : En) (d M : Nat) : Prop :=
  p.tables.exec = Jvm.exec ∧ c.code = bt M ∧ c.maxLocals = ml M ∧ s.vm.findClass (own M) = some m.cls ∧ (∀ w ∈ TBL, w.before args s = true) ∧ va_K E.1 classes (tysE E) s ∧ (∀ q, s.heap.size ≤ q → A q) ∧ NC s ∧ d ≤ R.frames ∧ 40 * d ≤ R.locals ∧ mc M ≤ R.cells ∧ ms M ≤ R.slots ∧ meth.name = (ym M).name
def WD (E : En) (A : Nat → Prop) (ad : Nat → Nat) (h : Hp) (H0 H : Heap) (locs : List Loc) : Prop := va_P E.1 classes (toW E ad h) H ∧ va_D A (toW E ad h) ∧ va_S A H0 H locs
def RI (M pc : Nat) (r : Option AV) : Prop := match r with
  | none => fet M pc = .ok (.return_, 1) ∧ rt M = none
  | some (.inl x) => fet M pc = .ok (.ireturn, 1) ∧ ∃ t, rt M = some t ∧ narrow t (.int x) = .int x
  | some (.inr (.inr _)) => fet M pc = .ok (.areturn, 1) ∧ ∃ t, rt M = some t ∧ ((∃ n, t = .object n) ∨ ∃ u, t = .array u)
  | _ => False
def RT (p : Program) (l : Launch) (e : Env) (R : Room) (s : State) (m : MethodId) (args : Array Value) (below : List Frame) (meth : Method) (c : Code) (A : Nat → Prop) (Z : State → Prop) (E : En) (ad : Nat → Nat) (n M : Nat) (Q : Option AV → Hp → Prop) : Prop :=
  ∀ (ad' : Nat → Nat) (r : Option AV) (h1 : Hp) (H : Heap) (locs : List Loc) (kc ks pc : Nat) (lsC : Array Slot), (∀ k, k < n → ad' k = ad k) → n ≤ hn h1 → (mc M = 0 → ad' = ad ∧ hn h1 = n) → Q r h1 → WD E A ad' h1 s.heap H locs → kc ≤ mc M → ks ≤ ms M → RI M pc r → W p l e R s m args below meth c H locs kc ks Z (F0 m pc lsC (r.toList.map (cv ad')))
def wp (d M : Nat) (Q : Option AV → Hp → Prop) (kc ks pc : Nat) (ls : List (Nat × AV)) (st : List AV) (h : Hp) : Prop :=
  ∀ (p : Program) (l : Launch) (e : Env) (R : Room) (s : State) (m : MethodId) (args : Array Value) (below : List Frame) (meth : Method) (c : Code) (A : Nat → Prop) (Z : State → Prop) (E : En) (ad : Nat → Nat) (H : Heap) (locs : List Loc) (lsC : Array Slot),
    OKX p R s m args meth c A E d M → RT p l e R s m args below meth c A Z E ad (hn h) M Q → WD E A ad h s.heap H locs → lv_has lsC (ml M) (lc ad ls) → kc ≤ mc M → ks ≤ ms M → W p l e R s m args below meth c H locs kc ks Z (F0 m pc lsC (st.map (cv ad)))
def World (E : En) (ad : Nat → Nat) (h : Hp) (U : State) : Prop := va_P E.1 classes (toW E ad h) U.heap ∧ va_K E.1 classes (tysE E) U ∧ NC U
def PreC (E : En) (ad : Nat → Nat) (h : Hp) (av : List AV) (sz : Nat) : Array Value → State → Prop := va_Pc (av.map (cv ad)) (fun U => U.heap.size = sz ∧ World E ad h U ∧ va_D (fun _ => True) (toW E ad h))
def PostC (E : En) (ad : Nat → Nat) (h : Hp) (Q : Option AV → Hp → Prop) (M sz : Nat) : Array Value → State → Outcome → State → Prop := fun _ st oc t =>
  (∃ (r : Option AV) (h1 : Hp) (ad' : Nat → Nat), (∀ k, k < hn h → ad' k = ad k) ∧ hn h ≤ hn h1 ∧ (mc M = 0 → ad' = ad ∧ hn h1 = hn h) ∧ oc = .returned (r.map (cv ad')) ∧ Q r h1 ∧ va_P E.1 classes (toW E ad' h1) t.heap ∧ va_D (va_A (toW E ad h) sz) (toW E ad' h1)) ∧ va_F (va_A (toW E ad h) sz) st t
def Spec (d M : Nat) (av : List AV) (h : Hp) (Q : Option AV → Hp → Prop) : Prop := ∀ (l : Launch) (E : En) (ad : Nat → Nat) (sz : Nat), Met l (ym M) (WS M) (rmD d M) (PreC E ad h av sz) (PostC E ad h Q M sz) (mc M) (ms M) (va_A (toW E ad h) sz)
theorem NC.warm {s U : State} (hW : s.WarmedH U.vm) (h : NC s) : NC U :=
  ⟨fun q hq => va_Nw.warmM hW (h.1 q hq), fun q hq => va_Nw.warmC hW (h.2.1 q hq), fun q hq => (h.2.2.1 q hq).moved hW.alike, fun C hC => va_AO.moved hW.alike (h.2.2.2 C hC)⟩
theorem NC.same {s U : State} (hv : s.vm = U.vm) (h : NC s) : NC U :=
  ⟨fun q hq => va_Nw.same rfl hv (h.1 q hq), fun q hq => va_Nw.same rfl hv (h.2.1 q hq), fun q hq => (h.2.2.1 q hq).moved (by rw [hv]; exact Vm.Alike.refl _), fun C hC => va_AO.moved (by rw [hv]; exact Vm.Alike.refl _) (h.2.2.2 C hC)⟩
theorem PreC.blind {E : En} {ad : Nat → Nat} {h : Hp} {av : List AV} {sz : Nat} : FrameBlind (PreC E ad h av sz) := by
  intro a U g mk q
  obtain ⟨q0, q1, ⟨qP, qK, qN⟩, qD⟩ := q
  exact ⟨q0, q1, ⟨qP, va_K.moved (u := U) (U := U.calling g mk a) (Vm.Alike.refl U.vm) qK, NC.same (s := U) (U := U.calling g mk a) rfl qN⟩, qD⟩
end
section
/-! rules of wp, an instruction each (printed by wip/whole/p05.py) -/
section Rules
variable {d M : Nat} {Q : Option AV → Hp → Prop} {kc ks pc pc' : Nat} {ls ls' : List (Nat × AV)} {st : List AV} {h : Hp}
theorem r_iconst {n : Int} {v : Int32} (hd : fet M pc = .ok (.iconst n, 1)) (hp : pc + 1 = pc') (hv : Int32.ofInt n = v) (kk : wp d M Q kc ks pc' ls (vI v :: st) h) : wp d M Q kc ks pc ls (st) h := by
  subst hp
  intro p l e R s m args below meth c A Z E ad H locs lsC K G D hl g1 g2
  exact lv_iconst K.1 K.2.1 hd hv (kk p l e R s m args below meth c A Z E ad H locs lsC K G D hl g1 g2)
theorem r_bipush {n : Int} {v : Int32} (hd : fet M pc = .ok (.bipush n, 2)) (hp : pc + 2 = pc') (hv : (Int8.ofInt n).toInt32 = v) (kk : wp d M Q kc ks pc' ls (vI v :: st) h) : wp d M Q kc ks pc ls (st) h := by
  subst hp
  intro p l e R s m args below meth c A Z E ad H locs lsC K G D hl g1 g2
  exact lv_bipush K.1 K.2.1 hd hv (kk p l e R s m args below meth c A Z E ad H locs lsC K G D hl g1 g2)
theorem r_sipush {n : Int} {v : Int32} (hd : fet M pc = .ok (.sipush n, 3)) (hp : pc + 3 = pc') (hv : (Int16.ofInt n).toInt32 = v) (kk : wp d M Q kc ks pc' ls (vI v :: st) h) : wp d M Q kc ks pc ls (st) h := by
  subst hp
  intro p l e R s m args below meth c A Z E ad H locs lsC K G D hl g1 g2
  exact lv_sipush K.1 K.2.1 hd hv (kk p l e R s m args below meth c A Z E ad H locs lsC K G D hl g1 g2)
theorem r_ldc {n : Nat} {v : Int32} (hd : fet M pc = .ok (.ldc n, 2)) (hp : pc + 2 = pc') {on : String} (hon : own M = on) (hc : Cond.constant on n v ∈ TBL) (kk : wp d M Q kc ks pc' ls (vI v :: st) h) : wp d M Q kc ks pc ls (st) h := by
  subst hp
  intro p l e R s m args below meth c A Z E ad H locs lsC K G D hl g1 g2
  exact lv_ldc K.1 K.2.1 (hon ▸ K.2.2.2.1) (K.2.2.2.2.1 _ hc) hd (kk p l e R s m args below meth c A Z E ad H locs lsC K G D hl g1 g2)
theorem r_ldcw {n : Nat} {v : Int32} (hd : fet M pc = .ok (.ldc_w n, 3)) (hp : pc + 3 = pc') {on : String} (hon : own M = on) (hc : Cond.constant on n v ∈ TBL) (kk : wp d M Q kc ks pc' ls (vI v :: st) h) : wp d M Q kc ks pc ls (st) h := by
  subst hp
  intro p l e R s m args below meth c A Z E ad H locs lsC K G D hl g1 g2
  exact lv_ldcw K.1 K.2.1 (hon ▸ K.2.2.2.1) (K.2.2.2.2.1 _ hc) hd (kk p l e R s m args below meth c A Z E ad H locs lsC K G D hl g1 g2)
theorem r_null  (hd : fet M pc = .ok (.aconst_null, 1)) (hp : pc + 1 = pc')  (kk : wp d M Q kc ks pc' ls (vR none :: st) h) : wp d M Q kc ks pc ls (st) h := by
  subst hp
  intro p l e R s m args below meth c A Z E ad H locs lsC K G D hl g1 g2
  exact lv_null K.1 K.2.1 hd (kk p l e R s m args below meth c A Z E ad H locs lsC K G D hl g1 g2)
theorem r_iload_n {k : Fin 4} {i : Nat} {x : Int32} (hd : fet M pc = .ok (.iload_n k, 1)) (hp : pc + 1 = pc') (hi0 : (k : Nat) = i) (hk : lk ls i = some (vI x)) (kk : wp d M Q kc ks pc' ls (vI x :: st) h) : wp d M Q kc ks pc ls (st) h := by
  subst hp
  intro p l e R s m args below meth c A Z E ad H locs lsC K G D hl g1 g2
  exact lv_iload_n K.1 K.2.1 hd hi0 (lc_lk hl hk) (kk p l e R s m args below meth c A Z E ad H locs lsC K G D hl g1 g2)
theorem r_iload {i : Nat} {x : Int32} (hd : fet M pc = .ok (.iload i, 2)) (hp : pc + 2 = pc') (hk : lk ls i = some (vI x)) (kk : wp d M Q kc ks pc' ls (vI x :: st) h) : wp d M Q kc ks pc ls (st) h := by
  subst hp
  intro p l e R s m args below meth c A Z E ad H locs lsC K G D hl g1 g2
  exact lv_iload K.1 K.2.1 hd (lc_lk hl hk) (kk p l e R s m args below meth c A Z E ad H locs lsC K G D hl g1 g2)
theorem r_aload_n {k : Fin 4} {i : Nat} {x : Nat} (hd : fet M pc = .ok (.aload_n k, 1)) (hp : pc + 1 = pc') (hi0 : (k : Nat) = i) (hk : lk ls i = some (vR (some x))) (kk : wp d M Q kc ks pc' ls (vR (some x) :: st) h) : wp d M Q kc ks pc ls (st) h := by
  subst hp
  intro p l e R s m args below meth c A Z E ad H locs lsC K G D hl g1 g2
  exact lv_aload_n K.1 K.2.1 hd hi0 (lc_lk hl hk) (kk p l e R s m args below meth c A Z E ad H locs lsC K G D hl g1 g2)
theorem r_aload {i : Nat} {x : Nat} (hd : fet M pc = .ok (.aload i, 2)) (hp : pc + 2 = pc') (hk : lk ls i = some (vR (some x))) (kk : wp d M Q kc ks pc' ls (vR (some x) :: st) h) : wp d M Q kc ks pc ls (st) h := by
  subst hp
  intro p l e R s m args below meth c A Z E ad H locs lsC K G D hl g1 g2
  exact lv_aload K.1 K.2.1 hd (lc_lk hl hk) (kk p l e R s m args below meth c A Z E ad H locs lsC K G D hl g1 g2)
theorem r_aload_nN {k : Fin 4} {i : Nat} (hd : fet M pc = .ok (.aload_n k, 1)) (hp : pc + 1 = pc') (hi0 : (k : Nat) = i) (hk : lk ls i = some (vR none)) (kk : wp d M Q kc ks pc' ls (vR none :: st) h) : wp d M Q kc ks pc ls (st) h := by
  subst hp
  intro p l e R s m args below meth c A Z E ad H locs lsC K G D hl g1 g2
  exact lv_aload_nN K.1 K.2.1 hd hi0 (lc_lk hl hk) (kk p l e R s m args below meth c A Z E ad H locs lsC K G D hl g1 g2)
theorem r_aloadN {i : Nat} (hd : fet M pc = .ok (.aload i, 2)) (hp : pc + 2 = pc') (hk : lk ls i = some (vR none)) (kk : wp d M Q kc ks pc' ls (vR none :: st) h) : wp d M Q kc ks pc ls (st) h := by
  subst hp
  intro p l e R s m args below meth c A Z E ad H locs lsC K G D hl g1 g2
  exact lv_aloadN K.1 K.2.1 hd (lc_lk hl hk) (kk p l e R s m args below meth c A Z E ad H locs lsC K G D hl g1 g2)
theorem r_iadd {x y : Int32} (hd : fet M pc = .ok (.iadd, 1)) (hp : pc + 1 = pc')  (kk : wp d M Q kc ks pc' ls (vI (x + y) :: st) h) : wp d M Q kc ks pc ls (vI y :: vI x :: st) h := by
  subst hp
  intro p l e R s m args below meth c A Z E ad H locs lsC K G D hl g1 g2
  exact lv_iadd K.1 K.2.1 hd (kk p l e R s m args below meth c A Z E ad H locs lsC K G D hl g1 g2)
theorem r_isub {x y : Int32} (hd : fet M pc = .ok (.isub, 1)) (hp : pc + 1 = pc')  (kk : wp d M Q kc ks pc' ls (vI (x - y) :: st) h) : wp d M Q kc ks pc ls (vI y :: vI x :: st) h := by
  subst hp
  intro p l e R s m args below meth c A Z E ad H locs lsC K G D hl g1 g2
  exact lv_isub K.1 K.2.1 hd (kk p l e R s m args below meth c A Z E ad H locs lsC K G D hl g1 g2)
theorem r_imul {x y : Int32} (hd : fet M pc = .ok (.imul, 1)) (hp : pc + 1 = pc')  (kk : wp d M Q kc ks pc' ls (vI (x * y) :: st) h) : wp d M Q kc ks pc ls (vI y :: vI x :: st) h := by
  subst hp
  intro p l e R s m args below meth c A Z E ad H locs lsC K G D hl g1 g2
  exact lv_imul K.1 K.2.1 hd (kk p l e R s m args below meth c A Z E ad H locs lsC K G D hl g1 g2)
theorem r_iand {x y : Int32} (hd : fet M pc = .ok (.iand, 1)) (hp : pc + 1 = pc')  (kk : wp d M Q kc ks pc' ls (vI (x &&& y) :: st) h) : wp d M Q kc ks pc ls (vI y :: vI x :: st) h := by
  subst hp
  intro p l e R s m args below meth c A Z E ad H locs lsC K G D hl g1 g2
  exact lv_iand K.1 K.2.1 hd (kk p l e R s m args below meth c A Z E ad H locs lsC K G D hl g1 g2)
theorem r_ior {x y : Int32} (hd : fet M pc = .ok (.ior, 1)) (hp : pc + 1 = pc')  (kk : wp d M Q kc ks pc' ls (vI (x ||| y) :: st) h) : wp d M Q kc ks pc ls (vI y :: vI x :: st) h := by
  subst hp
  intro p l e R s m args below meth c A Z E ad H locs lsC K G D hl g1 g2
  exact lv_ior K.1 K.2.1 hd (kk p l e R s m args below meth c A Z E ad H locs lsC K G D hl g1 g2)
theorem r_ixor {x y : Int32} (hd : fet M pc = .ok (.ixor, 1)) (hp : pc + 1 = pc')  (kk : wp d M Q kc ks pc' ls (vI (x ^^^ y) :: st) h) : wp d M Q kc ks pc ls (vI y :: vI x :: st) h := by
  subst hp
  intro p l e R s m args below meth c A Z E ad H locs lsC K G D hl g1 g2
  exact lv_ixor K.1 K.2.1 hd (kk p l e R s m args below meth c A Z E ad H locs lsC K G D hl g1 g2)
theorem r_ishl {x y : Int32} (hd : fet M pc = .ok (.ishl, 1)) (hp : pc + 1 = pc')  (kk : wp d M Q kc ks pc' ls (vI (x <<< (y &&& 31)) :: st) h) : wp d M Q kc ks pc ls (vI y :: vI x :: st) h := by
  subst hp
  intro p l e R s m args below meth c A Z E ad H locs lsC K G D hl g1 g2
  exact lv_ishl K.1 K.2.1 hd (kk p l e R s m args below meth c A Z E ad H locs lsC K G D hl g1 g2)
theorem r_ishr {x y : Int32} (hd : fet M pc = .ok (.ishr, 1)) (hp : pc + 1 = pc')  (kk : wp d M Q kc ks pc' ls (vI (x >>> (y &&& 31)) :: st) h) : wp d M Q kc ks pc ls (vI y :: vI x :: st) h := by
  subst hp
  intro p l e R s m args below meth c A Z E ad H locs lsC K G D hl g1 g2
  exact lv_ishr K.1 K.2.1 hd (kk p l e R s m args below meth c A Z E ad H locs lsC K G D hl g1 g2)
theorem r_iushr {x y : Int32} (hd : fet M pc = .ok (.iushr, 1)) (hp : pc + 1 = pc')  (kk : wp d M Q kc ks pc' ls (vI ((x.toUInt32 >>> (y.toUInt32 &&& Int32.toUInt32 31)).toInt32) :: st) h) : wp d M Q kc ks pc ls (vI y :: vI x :: st) h := by
  subst hp
  intro p l e R s m args below meth c A Z E ad H locs lsC K G D hl g1 g2
  exact lv_iushr K.1 K.2.1 hd rfl (kk p l e R s m args below meth c A Z E ad H locs lsC K G D hl g1 g2)
theorem r_idiv {x y : Int32} (hd : fet M pc = .ok (.idiv, 1)) (hp : pc + 1 = pc') (hne : ¬ y = 0) (kk : wp d M Q kc ks pc' ls (vI (x / y) :: st) h) : wp d M Q kc ks pc ls (vI y :: vI x :: st) h := by
  subst hp
  intro p l e R s m args below meth c A Z E ad H locs lsC K G D hl g1 g2
  exact lv_idiv K.1 K.2.1 hd hne (kk p l e R s m args below meth c A Z E ad H locs lsC K G D hl g1 g2)
theorem r_irem {x y : Int32} (hd : fet M pc = .ok (.irem, 1)) (hp : pc + 1 = pc') (hne : ¬ y = 0) (kk : wp d M Q kc ks pc' ls (vI (x - x / y * y) :: st) h) : wp d M Q kc ks pc ls (vI y :: vI x :: st) h := by
  subst hp
  intro p l e R s m args below meth c A Z E ad H locs lsC K G D hl g1 g2
  exact lv_irem K.1 K.2.1 hd hne (kk p l e R s m args below meth c A Z E ad H locs lsC K G D hl g1 g2)
theorem r_ineg {x : Int32} (hd : fet M pc = .ok (.ineg, 1)) (hp : pc + 1 = pc')  (kk : wp d M Q kc ks pc' ls (vI (-x) :: st) h) : wp d M Q kc ks pc ls (vI x :: st) h := by
  subst hp
  intro p l e R s m args below meth c A Z E ad H locs lsC K G D hl g1 g2
  exact lv_ineg K.1 K.2.1 hd (kk p l e R s m args below meth c A Z E ad H locs lsC K G D hl g1 g2)
theorem r_i2l {x : Int32} (hd : fet M pc = .ok (.i2l, 1)) (hp : pc + 1 = pc')  (kk : wp d M Q kc ks pc' ls (vL x.toInt64 :: st) h) : wp d M Q kc ks pc ls (vI x :: st) h := by
  subst hp
  intro p l e R s m args below meth c A Z E ad H locs lsC K G D hl g1 g2
  exact lv_i2l K.1 K.2.1 hd rfl (kk p l e R s m args below meth c A Z E ad H locs lsC K G D hl g1 g2)
theorem r_i2b {x : Int32} (hd : fet M pc = .ok (.i2b, 1)) (hp : pc + 1 = pc')  (kk : wp d M Q kc ks pc' ls (vI x.toInt8.toInt32 :: st) h) : wp d M Q kc ks pc ls (vI x :: st) h := by
  subst hp
  intro p l e R s m args below meth c A Z E ad H locs lsC K G D hl g1 g2
  exact lv_i2b K.1 K.2.1 hd rfl (kk p l e R s m args below meth c A Z E ad H locs lsC K G D hl g1 g2)
theorem r_i2s {x : Int32} (hd : fet M pc = .ok (.i2s, 1)) (hp : pc + 1 = pc')  (kk : wp d M Q kc ks pc' ls (vI x.toInt16.toInt32 :: st) h) : wp d M Q kc ks pc ls (vI x :: st) h := by
  subst hp
  intro p l e R s m args below meth c A Z E ad H locs lsC K G D hl g1 g2
  exact lv_i2s K.1 K.2.1 hd rfl (kk p l e R s m args below meth c A Z E ad H locs lsC K G D hl g1 g2)
theorem r_ladd {x y : Int64} (hd : fet M pc = .ok (.ladd, 1)) (hp : pc + 1 = pc')  (kk : wp d M Q kc ks pc' ls (vL (x + y) :: st) h) : wp d M Q kc ks pc ls (vL y :: vL x :: st) h := by
  subst hp
  intro p l e R s m args below meth c A Z E ad H locs lsC K G D hl g1 g2
  exact lv_ladd K.1 K.2.1 hd (kk p l e R s m args below meth c A Z E ad H locs lsC K G D hl g1 g2)
theorem r_lcmp {x y : Int64} (hd : fet M pc = .ok (.lcmp, 1)) (hp : pc + 1 = pc')  (kk : wp d M Q kc ks pc' ls (vI (lg_cmp x y) :: st) h) : wp d M Q kc ks pc ls (vL y :: vL x :: st) h := by
  subst hp
  intro p l e R s m args below meth c A Z E ad H locs lsC K G D hl g1 g2
  exact W.lcmp K.1 K.2.1 hd (kk p l e R s m args below meth c A Z E ad H locs lsC K G D hl g1 g2)
theorem r_dupI {x : Int32} (hd : fet M pc = .ok (.dup, 1)) (hp : pc + 1 = pc')  (kk : wp d M Q kc ks pc' ls (vI x :: vI x :: st) h) : wp d M Q kc ks pc ls (vI x :: st) h := by
  subst hp
  intro p l e R s m args below meth c A Z E ad H locs lsC K G D hl g1 g2
  exact lv_dup K.1 K.2.1 hd rfl (kk p l e R s m args below meth c A Z E ad H locs lsC K G D hl g1 g2)
theorem r_dupR {x : Nat} (hd : fet M pc = .ok (.dup, 1)) (hp : pc + 1 = pc')  (kk : wp d M Q kc ks pc' ls (vR (some x) :: vR (some x) :: st) h) : wp d M Q kc ks pc ls (vR (some x) :: st) h := by
  subst hp
  intro p l e R s m args below meth c A Z E ad H locs lsC K G D hl g1 g2
  exact lv_dup K.1 K.2.1 hd rfl (kk p l e R s m args below meth c A Z E ad H locs lsC K G D hl g1 g2)
theorem r_dup2 {x : Int32} {y : Nat} (hd : fet M pc = .ok (.dup2, 1)) (hp : pc + 1 = pc')  (kk : wp d M Q kc ks pc' ls (vI x :: vR (some y) :: vI x :: vR (some y) :: st) h) : wp d M Q kc ks pc ls (vI x :: vR (some y) :: st) h := by
  subst hp
  intro p l e R s m args below meth c A Z E ad H locs lsC K G D hl g1 g2
  exact lv_dup2_11 K.1 K.2.1 hd rfl rfl (kk p l e R s m args below meth c A Z E ad H locs lsC K G D hl g1 g2)
theorem r_istore_n {k : Fin 4} {i : Nat} {x : Int32} (hd : fet M pc = .ok (.istore_n k, 1)) (hp : pc + 1 = pc') (hi0 : (k : Nat) = i) (hlt : i < ml M) (hst : stL i (vI x) ls = ls') (kk : wp d M Q kc ks pc' ls' st h) : wp d M Q kc ks pc ls (vI x :: st) h := by
  subst hp
  subst hst
  intro p l e R s m args below meth c A Z E ad H locs lsC K G D hl g1 g2
  exact lv_istore_n K.1 K.2.1 hd hi0 hl hlt (lc_st ad i (vI x) ls) (fun lsC' hl' => kk p l e R s m args below meth c A Z E ad H locs lsC' K G D hl' g1 g2)
theorem r_istore {i : Nat} {x : Int32} (hd : fet M pc = .ok (.istore i, 2)) (hp : pc + 2 = pc')  (hlt : i < ml M) (hst : stL i (vI x) ls = ls') (kk : wp d M Q kc ks pc' ls' st h) : wp d M Q kc ks pc ls (vI x :: st) h := by
  subst hp
  subst hst
  intro p l e R s m args below meth c A Z E ad H locs lsC K G D hl g1 g2
  exact lv_istore K.1 K.2.1 hd hl hlt (lc_st ad i (vI x) ls) (fun lsC' hl' => kk p l e R s m args below meth c A Z E ad H locs lsC' K G D hl' g1 g2)
theorem r_astore_n {k : Fin 4} {i : Nat} {x : Nat} (hd : fet M pc = .ok (.astore_n k, 1)) (hp : pc + 1 = pc') (hi0 : (k : Nat) = i) (hlt : i < ml M) (hst : stL i (vR (some x)) ls = ls') (kk : wp d M Q kc ks pc' ls' st h) : wp d M Q kc ks pc ls (vR (some x) :: st) h := by
  subst hp
  subst hst
  intro p l e R s m args below meth c A Z E ad H locs lsC K G D hl g1 g2
  exact lv_astore_n K.1 K.2.1 hd hi0 hl hlt (lc_st ad i (vR (some x)) ls) (fun lsC' hl' => kk p l e R s m args below meth c A Z E ad H locs lsC' K G D hl' g1 g2)
theorem r_astore {i : Nat} {x : Nat} (hd : fet M pc = .ok (.astore i, 2)) (hp : pc + 2 = pc')  (hlt : i < ml M) (hst : stL i (vR (some x)) ls = ls') (kk : wp d M Q kc ks pc' ls' st h) : wp d M Q kc ks pc ls (vR (some x) :: st) h := by
  subst hp
  subst hst
  intro p l e R s m args below meth c A Z E ad H locs lsC K G D hl g1 g2
  exact lv_astore K.1 K.2.1 hd hl hlt (lc_st ad i (vR (some x)) ls) (fun lsC' hl' => kk p l e R s m args below meth c A Z E ad H locs lsC' K G D hl' g1 g2)
theorem r_astore_nN {k : Fin 4} {i : Nat} (hd : fet M pc = .ok (.astore_n k, 1)) (hp : pc + 1 = pc') (hi0 : (k : Nat) = i) (hlt : i < ml M) (hst : stL i (vR none) ls = ls') (kk : wp d M Q kc ks pc' ls' st h) : wp d M Q kc ks pc ls (vR none :: st) h := by
  subst hp
  subst hst
  intro p l e R s m args below meth c A Z E ad H locs lsC K G D hl g1 g2
  exact lv_astore_nN K.1 K.2.1 hd hi0 hl hlt (lc_st ad i (vR none) ls) (fun lsC' hl' => kk p l e R s m args below meth c A Z E ad H locs lsC' K G D hl' g1 g2)
theorem r_astoreN {i : Nat} (hd : fet M pc = .ok (.astore i, 2)) (hp : pc + 2 = pc')  (hlt : i < ml M) (hst : stL i (vR none) ls = ls') (kk : wp d M Q kc ks pc' ls' st h) : wp d M Q kc ks pc ls (vR none :: st) h := by
  subst hp
  subst hst
  intro p l e R s m args below meth c A Z E ad H locs lsC K G D hl g1 g2
  exact lv_astoreN K.1 K.2.1 hd hl hlt (lc_st ad i (vR none) ls) (fun lsC' hl' => kk p l e R s m args below meth c A Z E ad H locs lsC' K G D hl' g1 g2)
theorem lc_ix {ad : Nat → Nat} {ls : List (Nat × AV)} {i : Nat} {v : AV} (h : lk ls i = some v) : ∃ k : Nat, (lc ad ls)[k]? = some (i, cv ad v) := List.getElem?_of_mem (List.mem_map.mpr ⟨(i, v), lk_mem h, rfl⟩)
theorem r_iinc {i : Nat} {n : Int} {x v : Int32} (hd : fet M pc = .ok (.iinc i n, 3)) (hp : pc + 3 = pc') (hk : lk ls i = some (vI x)) (hv : x + Int32.ofInt n = v) (hlt : i < ml M) (hst : stL i (vI v) ls = ls') (kk : wp d M Q kc ks pc' ls' st h) : wp d M Q kc ks pc ls st h := by
  subst hp
  subst hst
  intro p l e R s m args below meth c A Z E ad H locs lsC K G D hl g1 g2
  obtain ⟨k, hk2⟩ := lc_ix (ad := ad) hk
  exact lv_iinc K.1 K.2.1 hd hl hk2 hv hlt (lc_st ad i (vI v) ls) (fun lsC' hl' => kk p l e R s m args below meth c A Z E ad H locs lsC' K G D hl' g1 g2)
theorem tgt_eq {pc tgt : Nat} {off : Int} (h : (pc : Int) + off = (tgt : Int)) : (pc : Int) + off = (tgt : Int) := h
theorem r_if_eq {x : Int32} {off : Int} (tgt : Nat) (hd : fet M pc = .ok (.ifCond .eq off, 3)) (hp : pc + 3 = pc') (ht : (pc : Int) + off = (tgt : Int)) (kt : x = 0 → wp d M Q kc ks tgt ls st h) (kf : ¬ x = 0 → wp d M Q kc ks pc' ls st h) : wp d M Q kc ks pc ls (vI x :: st) h := by
  subst hp
  intro p l e R s m args below meth c A Z E ad H locs lsC K G D hl g1 g2
  exact lv_if_eq K.1 K.2.1 hd ht (fun q => kt q p l e R s m args below meth c A Z E ad H locs lsC K G D hl g1 g2) (fun q => kf q p l e R s m args below meth c A Z E ad H locs lsC K G D hl g1 g2)
theorem r_icmp_eq {x y : Int32} {off : Int} (tgt : Nat) (hd : fet M pc = .ok (.if_icmp .eq off, 3)) (hp : pc + 3 = pc') (ht : (pc : Int) + off = (tgt : Int)) (kt : x = y → wp d M Q kc ks tgt ls st h) (kf : ¬ x = y → wp d M Q kc ks pc' ls st h) : wp d M Q kc ks pc ls (vI y :: vI x :: st) h := by
  subst hp
  intro p l e R s m args below meth c A Z E ad H locs lsC K G D hl g1 g2
  exact lv_icmp_eq K.1 K.2.1 hd ht (fun q => kt q p l e R s m args below meth c A Z E ad H locs lsC K G D hl g1 g2) (fun q => kf q p l e R s m args below meth c A Z E ad H locs lsC K G D hl g1 g2)
theorem r_if_ne {x : Int32} {off : Int} (tgt : Nat) (hd : fet M pc = .ok (.ifCond .ne off, 3)) (hp : pc + 3 = pc') (ht : (pc : Int) + off = (tgt : Int)) (kt : ¬ x = 0 → wp d M Q kc ks tgt ls st h) (kf : x = 0 → wp d M Q kc ks pc' ls st h) : wp d M Q kc ks pc ls (vI x :: st) h := by
  subst hp
  intro p l e R s m args below meth c A Z E ad H locs lsC K G D hl g1 g2
  exact lv_if_ne K.1 K.2.1 hd ht (fun q => kt q p l e R s m args below meth c A Z E ad H locs lsC K G D hl g1 g2) (fun q => kf q p l e R s m args below meth c A Z E ad H locs lsC K G D hl g1 g2)
theorem r_icmp_ne {x y : Int32} {off : Int} (tgt : Nat) (hd : fet M pc = .ok (.if_icmp .ne off, 3)) (hp : pc + 3 = pc') (ht : (pc : Int) + off = (tgt : Int)) (kt : ¬ x = y → wp d M Q kc ks tgt ls st h) (kf : x = y → wp d M Q kc ks pc' ls st h) : wp d M Q kc ks pc ls (vI y :: vI x :: st) h := by
  subst hp
  intro p l e R s m args below meth c A Z E ad H locs lsC K G D hl g1 g2
  exact lv_icmp_ne K.1 K.2.1 hd ht (fun q => kt q p l e R s m args below meth c A Z E ad H locs lsC K G D hl g1 g2) (fun q => kf q p l e R s m args below meth c A Z E ad H locs lsC K G D hl g1 g2)
theorem r_if_lt {x : Int32} {off : Int} (tgt : Nat) (hd : fet M pc = .ok (.ifCond .lt off, 3)) (hp : pc + 3 = pc') (ht : (pc : Int) + off = (tgt : Int)) (kt : x < 0 → wp d M Q kc ks tgt ls st h) (kf : ¬ x < 0 → wp d M Q kc ks pc' ls st h) : wp d M Q kc ks pc ls (vI x :: st) h := by
  subst hp
  intro p l e R s m args below meth c A Z E ad H locs lsC K G D hl g1 g2
  exact lv_if_lt K.1 K.2.1 hd ht (fun q => kt q p l e R s m args below meth c A Z E ad H locs lsC K G D hl g1 g2) (fun q => kf q p l e R s m args below meth c A Z E ad H locs lsC K G D hl g1 g2)
theorem r_icmp_lt {x y : Int32} {off : Int} (tgt : Nat) (hd : fet M pc = .ok (.if_icmp .lt off, 3)) (hp : pc + 3 = pc') (ht : (pc : Int) + off = (tgt : Int)) (kt : x < y → wp d M Q kc ks tgt ls st h) (kf : ¬ x < y → wp d M Q kc ks pc' ls st h) : wp d M Q kc ks pc ls (vI y :: vI x :: st) h := by
  subst hp
  intro p l e R s m args below meth c A Z E ad H locs lsC K G D hl g1 g2
  exact lv_icmp_lt K.1 K.2.1 hd ht (fun q => kt q p l e R s m args below meth c A Z E ad H locs lsC K G D hl g1 g2) (fun q => kf q p l e R s m args below meth c A Z E ad H locs lsC K G D hl g1 g2)
theorem r_if_ge {x : Int32} {off : Int} (tgt : Nat) (hd : fet M pc = .ok (.ifCond .ge off, 3)) (hp : pc + 3 = pc') (ht : (pc : Int) + off = (tgt : Int)) (kt : 0 ≤ x → wp d M Q kc ks tgt ls st h) (kf : ¬ 0 ≤ x → wp d M Q kc ks pc' ls st h) : wp d M Q kc ks pc ls (vI x :: st) h := by
  subst hp
  intro p l e R s m args below meth c A Z E ad H locs lsC K G D hl g1 g2
  exact lv_if_ge K.1 K.2.1 hd ht (fun q => kt q p l e R s m args below meth c A Z E ad H locs lsC K G D hl g1 g2) (fun q => kf q p l e R s m args below meth c A Z E ad H locs lsC K G D hl g1 g2)
theorem r_icmp_ge {x y : Int32} {off : Int} (tgt : Nat) (hd : fet M pc = .ok (.if_icmp .ge off, 3)) (hp : pc + 3 = pc') (ht : (pc : Int) + off = (tgt : Int)) (kt : y ≤ x → wp d M Q kc ks tgt ls st h) (kf : ¬ y ≤ x → wp d M Q kc ks pc' ls st h) : wp d M Q kc ks pc ls (vI y :: vI x :: st) h := by
  subst hp
  intro p l e R s m args below meth c A Z E ad H locs lsC K G D hl g1 g2
  exact lv_icmp_ge K.1 K.2.1 hd ht (fun q => kt q p l e R s m args below meth c A Z E ad H locs lsC K G D hl g1 g2) (fun q => kf q p l e R s m args below meth c A Z E ad H locs lsC K G D hl g1 g2)
theorem r_if_gt {x : Int32} {off : Int} (tgt : Nat) (hd : fet M pc = .ok (.ifCond .gt off, 3)) (hp : pc + 3 = pc') (ht : (pc : Int) + off = (tgt : Int)) (kt : 0 < x → wp d M Q kc ks tgt ls st h) (kf : ¬ 0 < x → wp d M Q kc ks pc' ls st h) : wp d M Q kc ks pc ls (vI x :: st) h := by
  subst hp
  intro p l e R s m args below meth c A Z E ad H locs lsC K G D hl g1 g2
  exact lv_if_gt K.1 K.2.1 hd ht (fun q => kt q p l e R s m args below meth c A Z E ad H locs lsC K G D hl g1 g2) (fun q => kf q p l e R s m args below meth c A Z E ad H locs lsC K G D hl g1 g2)
theorem r_icmp_gt {x y : Int32} {off : Int} (tgt : Nat) (hd : fet M pc = .ok (.if_icmp .gt off, 3)) (hp : pc + 3 = pc') (ht : (pc : Int) + off = (tgt : Int)) (kt : y < x → wp d M Q kc ks tgt ls st h) (kf : ¬ y < x → wp d M Q kc ks pc' ls st h) : wp d M Q kc ks pc ls (vI y :: vI x :: st) h := by
  subst hp
  intro p l e R s m args below meth c A Z E ad H locs lsC K G D hl g1 g2
  exact lv_icmp_gt K.1 K.2.1 hd ht (fun q => kt q p l e R s m args below meth c A Z E ad H locs lsC K G D hl g1 g2) (fun q => kf q p l e R s m args below meth c A Z E ad H locs lsC K G D hl g1 g2)
theorem r_if_le {x : Int32} {off : Int} (tgt : Nat) (hd : fet M pc = .ok (.ifCond .le off, 3)) (hp : pc + 3 = pc') (ht : (pc : Int) + off = (tgt : Int)) (kt : x ≤ 0 → wp d M Q kc ks tgt ls st h) (kf : ¬ x ≤ 0 → wp d M Q kc ks pc' ls st h) : wp d M Q kc ks pc ls (vI x :: st) h := by
  subst hp
  intro p l e R s m args below meth c A Z E ad H locs lsC K G D hl g1 g2
  exact lv_if_le K.1 K.2.1 hd ht (fun q => kt q p l e R s m args below meth c A Z E ad H locs lsC K G D hl g1 g2) (fun q => kf q p l e R s m args below meth c A Z E ad H locs lsC K G D hl g1 g2)
theorem r_icmp_le {x y : Int32} {off : Int} (tgt : Nat) (hd : fet M pc = .ok (.if_icmp .le off, 3)) (hp : pc + 3 = pc') (ht : (pc : Int) + off = (tgt : Int)) (kt : x ≤ y → wp d M Q kc ks tgt ls st h) (kf : ¬ x ≤ y → wp d M Q kc ks pc' ls st h) : wp d M Q kc ks pc ls (vI y :: vI x :: st) h := by
  subst hp
  intro p l e R s m args below meth c A Z E ad H locs lsC K G D hl g1 g2
  exact lv_icmp_le K.1 K.2.1 hd ht (fun q => kt q p l e R s m args below meth c A Z E ad H locs lsC K G D hl g1 g2) (fun q => kf q p l e R s m args below meth c A Z E ad H locs lsC K G D hl g1 g2)
theorem r_goto {off : Int} (tgt : Nat) (hd : fet M pc = .ok (.goto off, 3)) (ht : (pc : Int) + off = (tgt : Int)) (kk : wp d M Q kc ks tgt ls st h) : wp d M Q kc ks pc ls st h := by
  intro p l e R s m args below meth c A Z E ad H locs lsC K G D hl g1 g2
  exact lv_goto K.1 K.2.1 hd ht (kk p l e R s m args below meth c A Z E ad H locs lsC K G D hl g1 g2)
theorem r_ifnull {o : Option Nat} {off : Int} (tgt : Nat) (hd : fet M pc = .ok (.ifnull off, 3)) (hp : pc + 3 = pc') (ht : (pc : Int) + off = (tgt : Int)) (kt : o = none → wp d M Q kc ks tgt ls st h) (kf : ∀ x, o = some x → wp d M Q kc ks pc' ls st h) : wp d M Q kc ks pc ls (vR o :: st) h := by
  subst hp
  intro p l e R s m args below meth c A Z E ad H locs lsC K G D hl g1 g2
  cases o with
  | none => exact lv_ifnullN K.1 K.2.1 hd ht (kt rfl p l e R s m args below meth c A Z E ad H locs lsC K G D hl g1 g2)
  | some x => exact lv_ifnull K.1 K.2.1 hd (kf x rfl p l e R s m args below meth c A Z E ad H locs lsC K G D hl g1 g2)
theorem r_ifnonnull {o : Option Nat} {off : Int} (tgt : Nat) (hd : fet M pc = .ok (.ifnonnull off, 3)) (hp : pc + 3 = pc') (ht : (pc : Int) + off = (tgt : Int)) (kt : ∀ x, o = some x → wp d M Q kc ks tgt ls st h) (kf : o = none → wp d M Q kc ks pc' ls st h) : wp d M Q kc ks pc ls (vR o :: st) h := by
  subst hp
  intro p l e R s m args below meth c A Z E ad H locs lsC K G D hl g1 g2
  cases o with
  | none => exact lv_ifnonnullN K.1 K.2.1 hd (kf rfl p l e R s m args below meth c A Z E ad H locs lsC K G D hl g1 g2)
  | some x => exact lv_ifnonnull K.1 K.2.1 hd ht (kt x rfl p l e R s m args below meth c A Z E ad H locs lsC K G D hl g1 g2)
theorem ad_inj {E : En} {A : Nat → Prop} {ad : Nat → Nat} {h : Hp} (hD : va_D A (toW E ad h)) {a b : Nat} (ha : a < hn h) (hb : b < hn h) (hab : ad a = ad b) : a = b := hD.1 a b _ _ (toW_at ha) (toW_at hb) hab
theorem r_acmpne {a b : Option Nat} {off : Int} (tgt : Nat) (hd : fet M pc = .ok (.if_acmp .ne off, 3)) (hp : pc + 3 = pc') (ht : (pc : Int) + off = (tgt : Int)) (ha : ∀ x, a = some x → x < hn h) (hb : ∀ x, b = some x → x < hn h) (kt : ¬ a = b → wp d M Q kc ks tgt ls st h) (kf : a = b → wp d M Q kc ks pc' ls st h) : wp d M Q kc ks pc ls (vR b :: vR a :: st) h := by
  subst hp
  intro p l e R s m args below meth c A Z E ad H locs lsC K G D hl g1 g2
  have hinj : a.map ad = b.map ad → a = b := by
    intro q
    cases a with
    | none => cases b with
      | none => rfl
      | some y => cases q
    | some x => cases b with
      | none => cases q
      | some y => exact congrArg some (ad_inj D.2.1 (ha x rfl) (hb y rfl) (Option.some.inj q))
  exact lv_acmp_ne (rx := a.map ad) (ry := b.map ad) K.1 K.2.1 hd ht (fun q => kt (fun w => q (by rw [w])) p l e R s m args below meth c A Z E ad H locs lsC K G D hl g1 g2) (fun q => kf (hinj q) p l e R s m args below meth c A Z E ad H locs lsC K G D hl g1 g2)
theorem r_tableOut {dflt lo hi0 : Int} {offs : Array Int} {len : Nat} {x : Int32} (tgt : Nat) (hd : fet M pc = .ok (.tableswitch dflt lo hi0 offs, len)) (hx : x.toInt < lo ∨ hi0 < x.toInt) (ht : (pc : Int) + dflt = (tgt : Int)) (kk : wp d M Q kc ks tgt ls st h) : wp d M Q kc ks pc ls (vI x :: st) h := by
  intro p l e R s m args below meth c A Z E ad H locs lsC K G D hl g1 g2
  exact lv_tableOut K.1 K.2.1 hd hx ht (kk p l e R s m args below meth c A Z E ad H locs lsC K G D hl g1 g2)
theorem r_tableIn {dflt lo hi0 : Int} {offs : Array Int} {len : Nat} {x : Int32} {off : Int} (tgt : Nat) (hd : fet M pc = .ok (.tableswitch dflt lo hi0 offs, len)) (h1 : ¬ x.toInt < lo) (h2 : ¬ hi0 < x.toInt) (ho : offs[(x.toInt - lo).toNat]? = some off) (ht : (pc : Int) + off = (tgt : Int)) (kk : wp d M Q kc ks tgt ls st h) : wp d M Q kc ks pc ls (vI x :: st) h := by
  intro p l e R s m args below meth c A Z E ad H locs lsC K G D hl g1 g2
  exact lv_tableIn K.1 K.2.1 hd h1 h2 ho ht (kk p l e R s m args below meth c A Z E ad H locs lsC K G D hl g1 g2)
theorem r_lookup {dflt : Int} {ps : Array (Int × Int)} {len : Nat} {x : Int32} {off : Int} (tgt : Nat) (hd : fet M pc = .ok (.lookupswitch dflt ps, len)) (hp : (ps.toList.zip (ps.toList.drop 1)).all (fun (a, next) => a.1 < next.1) = true) (ho : Op.lookupswitch.offset ps.toList dflt x.toInt = off) (ht : (pc : Int) + off = (tgt : Int)) (kk : wp d M Q kc ks tgt ls st h) : wp d M Q kc ks pc ls (vI x :: st) h := by
  intro p l e R s m args below meth c A Z E ad H locs lsC K G D hl g1 g2
  exact lv_lookup K.1 K.2.1 hd hp ho ht (kk p l e R s m args below meth c A Z E ad H locs lsC K G D hl g1 g2)
theorem r_iret {x : Int32} {t : FieldType} (hd : fet M pc = .ok (.ireturn, 1)) (hr0 : rt M = some t) (hn0 : narrow t (.int x) = .int x) (kk : Q (some (vI x)) h) : wp d M Q kc ks pc ls [vI x] h := by
  intro p l e R s m args below meth c A Z E ad H locs lsC K G D hl g1 g2
  exact G ad (some (vI x)) h H locs kc ks pc lsC (fun _ _ => rfl) (Nat.le_refl _) (fun _ => ⟨rfl, rfl⟩) kk D g1 g2 ⟨hd, t, hr0, hn0⟩
theorem r_aret {o : Option Nat} {t : FieldType} (hd : fet M pc = .ok (.areturn, 1)) (hr0 : rt M = some t) (ht : (∃ n, t = .object n) ∨ ∃ u, t = .array u) (kk : Q (some (vR o)) h) : wp d M Q kc ks pc ls [vR o] h := by
  intro p l e R s m args below meth c A Z E ad H locs lsC K G D hl g1 g2
  exact G ad (some (vR o)) h H locs kc ks pc lsC (fun _ _ => rfl) (Nat.le_refl _) (fun _ => ⟨rfl, rfl⟩) kk D g1 g2 ⟨hd, t, hr0, ht⟩
theorem r_ret (hd : fet M pc = .ok (.return_, 1)) (hr0 : rt M = none) (kk : Q none h) : wp d M Q kc ks pc ls [] h := by
  intro p l e R s m args below meth c A Z E ad H locs lsC K G D hl g1 g2
  exact G ad none h H locs kc ks pc lsC (fun _ _ => rfl) (Nat.le_refl _) (fun _ => ⟨rfl, rfl⟩) kk D g1 g2 ⟨hd, hr0⟩
def SiteF (o : String) (idx ci k : Nat) (b : Bool) : Prop := (FK ci)[k]? = some b ∧ ∃ q : vw_C, classes[ci]? = some q ∧ k < q.2.2 ∧ (∀ w ∈ u_ws q.1 q.2.1 q.2.2, w ∈ TBL) ∧ Cond.fieldLink o idx (q.2.1 k).1 (q.2.1 k).2.1 (q.2.1 k).2.2.1 ∈ TBL
def ClsOK (q : vw_C) : Prop := (∃ ty : Nat → FieldType, ∀ k, k < q.2.2 → parseFieldDescriptor (q.2.1 k).2.2.1 = some (ty k)) ∧ ∀ a, a < q.2.2 → ∀ b, b < q.2.2 → a ≠ b → (q.2.1 a).2.1 ≠ (q.2.1 b).2.1
def SiteP (o : String) (idx ci k : Nat) (b : Bool) (ty : FieldType) (fin : Bool) : Prop := (FK ci)[k]? = some b ∧ ∃ q : vw_C, classes[ci]? = some q ∧ k < q.2.2 ∧ (∀ w ∈ u_ws q.1 q.2.1 q.2.2, w ∈ TBL) ∧ Cond.fieldLink o idx (q.2.1 k).1 (q.2.1 k).2.1 (q.2.1 k).2.2.1 ∈ TBL ∧ ClsOK q ∧ parseFieldDescriptor (q.2.1 k).2.2.1 = some ty ∧ ((fin = false ∧ (q.2.1 k).2.2.2 = false) ∨ fin = true ∧ (q.2.1 k).2.2.2 = true ∧ (q.2.1 k).1 = o)
theorem cell_obj {E : En} {ad : Nat → Nat} {h : Hp} {o ci : Nat} (hsh : SH o = (0, ci)) : cell E ad h o = .inr (ci, fv ad (hi h o) (hr h o) 0 (FK ci)) := by
  unfold cell; rw [hsh]; rfl
theorem cell_int {E : En} {ad : Nat → Nat} {h : Hp} {o n : Nat} (hsh : SH o = (1, n)) : cell E ad h o = .inl (E.2.1, n, .inl (hi h o)) := by
  unfold cell; rw [hsh]; rfl
theorem cell_bool {E : En} {ad : Nat → Nat} {h : Hp} {o n : Nat} (hsh : SH o = (2, n)) : cell E ad h o = .inl (E.2.2.1, n, .inl (hi h o)) := by
  unfold cell; rw [hsh]; rfl
theorem cell_kinds {E : En} {ad : Nat → Nat} {h : Hp} {o n : Nat} (hsh : SH o = (3, n)) : cell E ad h o = .inl (E.2.2.2.1, n, .inr (.inr (.inr (.inr (rrow (hr h o) ad))))) := by
  unfold cell; rw [hsh]; rfl
theorem cell_things {E : En} {ad : Nat → Nat} {h : Hp} {o n : Nat} (hsh : SH o = (4, n)) : cell E ad h o = .inl (E.2.2.2.2, n, .inr (.inr (.inr (.inr (rrow (hr h o) ad))))) := by
  unfold cell; rw [hsh]; rfl
theorem r_getI {o ci k idx : Nat} (hd : fet M pc = .ok (.getfield idx, 3)) (hp : pc + 3 = pc') {on : String} (hon : own M = on) (hs : SiteF on idx ci k true) (hsh : SH o = (0, ci)) (ho : o < hn h) (kk : wp d M Q kc ks pc' ls (vI (hi h o k) :: st) h) : wp d M Q kc ks pc ls (vR (some o) :: st) h := by
  subst hp
  intro p l e R s m args below meth c A Z E ad H locs lsC K G D hl g1 g2
  subst hon
  obtain ⟨hb, q, q1, q2, q3, q4⟩ := hs
  have hv := fv_get (ad := ad) (f := hi h o) (g := hr h o) (FK ci) 0 k _ hb
  rw [Nat.zero_add] at hv
  exact va_get (D := E.1) (T := q.2.1) (a := ad o) K.1 K.2.1 K.2.2.2.2.1 q3 K.2.2.2.1 K.2.2.2.2.2.1 D.1 o (by rw [toW_at ho, cell_obj hsh]) q1 k q2 (K.2.2.2.2.1 _ q4) (fun _ w => w) hv hd (kk p l e R s m args below meth c A Z E ad H locs lsC K G D hl g1 g2)
theorem r_getR {o ci k idx : Nat} (hd : fet M pc = .ok (.getfield idx, 3)) (hp : pc + 3 = pc') {on : String} (hon : own M = on) (hs : SiteF on idx ci k false) (hsh : SH o = (0, ci)) (ho : o < hn h) (kk : wp d M Q kc ks pc' ls (vR (hr h o k) :: st) h) : wp d M Q kc ks pc ls (vR (some o) :: st) h := by
  subst hp
  intro p l e R s m args below meth c A Z E ad H locs lsC K G D hl g1 g2
  subst hon
  obtain ⟨hb, q, q1, q2, q3, q4⟩ := hs
  have hv := fv_get (ad := ad) (f := hi h o) (g := hr h o) (FK ci) 0 k _ hb
  rw [Nat.zero_add] at hv
  exact va_get (D := E.1) (T := q.2.1) (a := ad o) K.1 K.2.1 K.2.2.2.2.1 q3 K.2.2.2.1 K.2.2.2.2.2.1 D.1 o (by rw [toW_at ho, cell_obj hsh]) q1 k q2 (K.2.2.2.2.1 _ q4) (fun _ w => w) hv hd (kk p l e R s m args below meth c A Z E ad H locs lsC K G D hl g1 g2)
theorem r_putI {x : Int32} {o ci k idx : Nat} {ty : FieldType} (hd : fet M pc = .ok (.putfield idx, 3)) (hp : pc + 3 = pc') {on : String} {fin : Bool} (hon : own M = on) (hs : SiteP on idx ci k true ty fin) (hsh : SH o = (0, ci)) (hfin : fin = true → (ym M).name = "<init>") (hty : ty = .int ∨ ty = .boolean ∧ (x = 0 ∨ x = 1)) (ho : o < hn h) (kk : wp d M Q kc ks pc' ls st (seti h o k x)) : wp d M Q kc ks pc ls (vI x :: vR (some o) :: st) h := by
  subst hp
  intro p l e R s m args below meth c A Z E ad H locs lsC K G D hl g1 g2
  subst hon
  obtain ⟨hb, q, q1, q2, q3, q4, ⟨⟨ty0, q5⟩, q6⟩, q7, q8⟩ := hs
  have hv := fv_setI (ad := ad) (f := hi h o) (g := hr h o) (v := x) (FK ci) 0 k hb
  rw [Nat.zero_add] at hv
  have hnar : narrow ty (.int x) = .int x ∧ fits ty (.int x) = true := by
    rcases hty with rfl | ⟨rfl, rfl | rfl⟩
    · exact ⟨vp_nar_int x, rfl⟩
    · exact ⟨rfl, rfl⟩
    · exact ⟨rfl, rfl⟩
  have hset : (toW E ad h).set o (ad o, .inr (ci, (fv ad (hi h o) (hr h o) 0 (FK ci)).set k (.int x))) = toW E ad (seti h o k x) := by
    refine toW_set rfl ?_ (fun a ha => hi_seti_ne h o k x a ha) (fun a _ => by rw [hr_seti])
    rw [cell_obj hsh, hv, hi_seti_row, hr_seti]
  have hlen : k < (fv ad (hi h o) (hr h o) 0 (FK ci)).length := by rw [fv_len]; exact (List.getElem?_eq_some_iff.mp hb).1
  rcases q8 with w | w
  · refine va_put (D := E.1) (T := q.2.1) (a := ad o) (v := .int x) K.1 K.2.1 K.2.2.2.2.1 q3 ty0 q5 q6 K.2.2.2.1 K.2.2.2.2.2.1 D.1 D.2.1 D.2.2 o (by rw [toW_at ho, cell_obj hsh]) q1 k q2 (K.2.2.2.2.1 _ q4) (fun _ w => w) w.2 q7 hnar.1 hnar.2 hlen hd (fun H1 locs1 e1 e2 e3 => ?_)
    rw [hset] at e1 e2
    exact kk p l e R s m args below meth c A Z E ad H1 locs1 lsC K G ⟨e1, e2, e3⟩ hl g1 g2
  · refine va_putF (D := E.1) (T := q.2.1) (a := ad o) (v := .int x) K.1 K.2.1 K.2.2.2.2.1 q3 ty0 q5 q6 K.2.2.2.1 K.2.2.2.2.2.1 D.1 D.2.1 D.2.2 o (by rw [toW_at ho, cell_obj hsh]) q1 k q2 (K.2.2.2.2.1 _ q4) (fun _ w => w) w.2.1 (K.2.2.2.2.2.2.2.2.2.2.2.2.trans (hfin w.1)) w.2.2 q7 hnar.1 hnar.2 hlen hd (fun H1 locs1 e1 e2 e3 => ?_)
    rw [hset] at e1 e2
    exact kk p l e R s m args below meth c A Z E ad H1 locs1 lsC K G ⟨e1, e2, e3⟩ hl g1 g2
theorem r_putR {x : Option Nat} {o ci k idx : Nat} {ty : FieldType} (hd : fet M pc = .ok (.putfield idx, 3)) (hp : pc + 3 = pc') {on : String} {fin : Bool} (hon : own M = on) (hs : SiteP on idx ci k false ty fin) (hsh : SH o = (0, ci)) (hfin : fin = true → (ym M).name = "<init>") (hty : (∃ n, ty = .object n) ∨ ∃ u, ty = .array u) (ho : o < hn h) (kk : wp d M Q kc ks pc' ls st (setr h o k x)) : wp d M Q kc ks pc ls (vR x :: vR (some o) :: st) h := by
  subst hp
  intro p l e R s m args below meth c A Z E ad H locs lsC K G D hl g1 g2
  subst hon
  obtain ⟨hb, q, q1, q2, q3, q4, ⟨⟨ty0, q5⟩, q6⟩, q7, q8⟩ := hs
  have hv := fv_setR (ad := ad) (f := hi h o) (g := hr h o) (v := x) (FK ci) 0 k hb
  rw [Nat.zero_add] at hv
  have hnar : narrow ty (va_rf (x.map ad)) = va_rf (x.map ad) ∧ fits ty (va_rf (x.map ad)) = true := by
    rcases hty with ⟨n, rfl⟩ | ⟨n, rfl⟩ <;> cases x <;> exact ⟨rfl, rfl⟩
  have hset : (toW E ad h).set o (ad o, .inr (ci, (fv ad (hi h o) (hr h o) 0 (FK ci)).set k (va_rf (x.map ad)))) = toW E ad (setr h o k x) := by
    refine toW_set rfl ?_ (fun a _ => by rw [hi_setr]) (fun a ha => hr_setr_ne h o k x a ha)
    rw [cell_obj hsh, hv, hr_setr_row, hi_setr]
  have hlen : k < (fv ad (hi h o) (hr h o) 0 (FK ci)).length := by rw [fv_len]; exact (List.getElem?_eq_some_iff.mp hb).1
  rcases q8 with w | w
  · refine va_put (D := E.1) (T := q.2.1) (a := ad o) (v := va_rf (x.map ad)) K.1 K.2.1 K.2.2.2.2.1 q3 ty0 q5 q6 K.2.2.2.1 K.2.2.2.2.2.1 D.1 D.2.1 D.2.2 o (by rw [toW_at ho, cell_obj hsh]) q1 k q2 (K.2.2.2.2.1 _ q4) (fun _ w => w) w.2 q7 hnar.1 hnar.2 hlen hd (fun H1 locs1 e1 e2 e3 => ?_)
    rw [hset] at e1 e2
    exact kk p l e R s m args below meth c A Z E ad H1 locs1 lsC K G ⟨e1, e2, e3⟩ hl g1 g2
  · refine va_putF (D := E.1) (T := q.2.1) (a := ad o) (v := va_rf (x.map ad)) K.1 K.2.1 K.2.2.2.2.1 q3 ty0 q5 q6 K.2.2.2.1 K.2.2.2.2.2.1 D.1 D.2.1 D.2.2 o (by rw [toW_at ho, cell_obj hsh]) q1 k q2 (K.2.2.2.2.1 _ q4) (fun _ w => w) w.2.1 (K.2.2.2.2.2.2.2.2.2.2.2.2.trans (hfin w.1)) w.2.2 q7 hnar.1 hnar.2 hlen hd (fun H1 locs1 e1 e2 e3 => ?_)
    rw [hset] at e1 e2
    exact kk p l e R s m args below meth c A Z E ad H1 locs1 lsC K G ⟨e1, e2, e3⟩ hl g1 g2
theorem r_iald {o n : Nat} {i : Int32} (hd : fet M pc = .ok (.iaload, 1)) (hp : pc + 1 = pc') (hsh : SH o = (1, n)) (ho : o < hn h) (hin : vp_in i n) (kk : wp d M Q kc ks pc' ls (vI (hi h o i.toNatClampNeg) :: st) h) : wp d M Q kc ks pc ls (vI i :: vR (some o) :: st) h := by
  subst hp
  intro p l e R s m args below meth c A Z E ad H locs lsC K G D hl g1 g2
  exact va_iald (D := E.1) (a := ad o) K.1 K.2.1 K.2.2.2.2.2.1 D.1 o 0 (by rw [toW_at ho, cell_int hsh]) rfl hin hd (kk p l e R s m args below meth c A Z E ad H locs lsC K G D hl g1 g2)
theorem r_bald {o n : Nat} {i : Int32} (hd : fet M pc = .ok (.baload, 1)) (hp : pc + 1 = pc') (hsh : SH o = (2, n)) (ho : o < hn h) (hin : vp_in i n) (kk : wp d M Q kc ks pc' ls (vI (hi h o i.toNatClampNeg) :: st) h) : wp d M Q kc ks pc ls (vI i :: vR (some o) :: st) h := by
  subst hp
  intro p l e R s m args below meth c A Z E ad H locs lsC K G D hl g1 g2
  exact va_zald (D := E.1) (a := ad o) K.1 K.2.1 K.2.2.2.2.2.1 D.1 o 1 (by rw [toW_at ho, cell_bool hsh]) rfl hin hd (kk p l e R s m args below meth c A Z E ad H locs lsC K G D hl g1 g2)
theorem r_iast {o n : Nat} {i x : Int32} (hd : fet M pc = .ok (.iastore, 1)) (hp : pc + 1 = pc') (hsh : SH o = (1, n)) (ho : o < hn h) (hin : vp_in i n) (kk : wp d M Q kc ks pc' ls st (seti h o i.toNatClampNeg x)) : wp d M Q kc ks pc ls (vI x :: vI i :: vR (some o) :: st) h := by
  subst hp
  intro p l e R s m args below meth c A Z E ad H locs lsC K G D hl g1 g2
  have hset : (toW E ad h).set o (ad o, .inl (E.2.1, n, .inl (upd (hi h o) i.toNatClampNeg x))) = toW E ad (seti h o i.toNatClampNeg x) := by
    refine toW_set rfl ?_ (fun a ha => hi_seti_ne h o _ x a ha) (fun a _ => by rw [hr_seti])
    rw [cell_int hsh, hi_seti_row]
  refine va_iast (D := E.1) (a := ad o) K.1 K.2.1 K.2.2.2.2.2.1 D.1 D.2.1 D.2.2 o 0 (by rw [toW_at ho, cell_int hsh]) rfl hin hd (fun H1 locs1 e1 e2 e3 => ?_)
  rw [hset] at e1 e2
  exact kk p l e R s m args below meth c A Z E ad H1 locs1 lsC K G ⟨e1, e2, e3⟩ hl g1 g2
theorem r_bast {o n : Nat} {i x : Int32} (hd : fet M pc = .ok (.bastore, 1)) (hp : pc + 1 = pc') (hsh : SH o = (2, n)) (ho : o < hn h) (hin : vp_in i n) (kk : wp d M Q kc ks pc' ls st (seti h o i.toNatClampNeg (vp_nar .boolean x))) : wp d M Q kc ks pc ls (vI x :: vI i :: vR (some o) :: st) h := by
  subst hp
  intro p l e R s m args below meth c A Z E ad H locs lsC K G D hl g1 g2
  have hset : (toW E ad h).set o (ad o, .inl (E.2.2.1, n, .inl (upd (hi h o) i.toNatClampNeg (vp_nar .boolean x)))) = toW E ad (seti h o i.toNatClampNeg (vp_nar .boolean x)) := by
    refine toW_set rfl ?_ (fun a ha => hi_seti_ne h o _ _ a ha) (fun a _ => by rw [hr_seti])
    rw [cell_bool hsh, hi_seti_row]
  refine va_zast (D := E.1) (a := ad o) K.1 K.2.1 K.2.2.2.2.2.1 D.1 D.2.1 D.2.2 o 1 (by rw [toW_at ho, cell_bool hsh]) rfl hin hd (fun H1 locs1 e1 e2 e3 => ?_)
  rw [hset] at e1 e2
  exact kk p l e R s m args below meth c A Z E ad H1 locs1 lsC K G ⟨e1, e2, e3⟩ hl g1 g2
theorem r_aaldK {o n : Nat} {i : Int32} (hd : fet M pc = .ok (.aaload, 1)) (hp : pc + 1 = pc') (hsh : SH o = (3, n)) (ho : o < hn h) (hin : vp_in i n) (kk : wp d M Q kc ks pc' ls (vR (hr h o i.toNatClampNeg) :: st) h) : wp d M Q kc ks pc ls (vI i :: vR (some o) :: st) h := by
  subst hp
  intro p l e R s m args below meth c A Z E ad H locs lsC K G D hl g1 g2
  exact va_aldq (D := E.1) (a := ad o) (f := rrow (hr h o) ad) K.1 K.2.1 K.2.2.2.2.2.1 D.1 o 2 (by rw [toW_at ho, cell_kinds hsh]) rfl hin hd (kk p l e R s m args below meth c A Z E ad H locs lsC K G D hl g1 g2)
theorem r_aaldT {o n : Nat} {i : Int32} (hd : fet M pc = .ok (.aaload, 1)) (hp : pc + 1 = pc') (hsh : SH o = (4, n)) (ho : o < hn h) (hin : vp_in i n) (kk : wp d M Q kc ks pc' ls (vR (hr h o i.toNatClampNeg) :: st) h) : wp d M Q kc ks pc ls (vI i :: vR (some o) :: st) h := by
  subst hp
  intro p l e R s m args below meth c A Z E ad H locs lsC K G D hl g1 g2
  exact va_aldq (D := E.1) (a := ad o) (f := rrow (hr h o) ad) K.1 K.2.1 K.2.2.2.2.2.1 D.1 o 3 (by rw [toW_at ho, cell_things hsh]) rfl hin hd (kk p l e R s m args below meth c A Z E ad H locs lsC K G D hl g1 g2)
theorem r_alen {o n t : Nat} (hd : fet M pc = .ok (.arraylength, 1)) (hp : pc + 1 = pc') (hsh : SH o = (t, n)) (ht : 0 < t ∧ t < 5) (ho : o < hn h) (kk : wp d M Q kc ks pc' ls (vI (nI n) :: st) h) : wp d M Q kc ks pc ls (vR (some o) :: st) h := by
  subst hp
  intro p l e R s m args below meth c A Z E ad H locs lsC K G D hl g1 g2
  rcases (show t = 1 ∨ t = 2 ∨ t = 3 ∨ t = 4 by omega) with rfl | rfl | rfl | rfl
  · exact va_alen (D := E.1) (a := ad o) (x := (n, .inl (hi h o))) K.1 K.2.1 K.2.2.2.2.2.1 D.1 o 0 (by rw [toW_at ho, cell_int hsh]) rfl rfl hd (kk p l e R s m args below meth c A Z E ad H locs lsC K G D hl g1 g2)
  · exact va_alen (D := E.1) (a := ad o) (x := (n, .inl (hi h o))) K.1 K.2.1 K.2.2.2.2.2.1 D.1 o 1 (by rw [toW_at ho, cell_bool hsh]) rfl rfl hd (kk p l e R s m args below meth c A Z E ad H locs lsC K G D hl g1 g2)
  · exact va_alen (D := E.1) (a := ad o) (x := (n, .inr (.inr (.inr (.inr (rrow (hr h o) ad)))))) K.1 K.2.1 K.2.2.2.2.2.1 D.1 o 2 (by rw [toW_at ho, cell_kinds hsh]) rfl rfl hd (kk p l e R s m args below meth c A Z E ad H locs lsC K G D hl g1 g2)
  · exact va_alen (D := E.1) (a := ad o) (x := (n, .inr (.inr (.inr (.inr (rrow (hr h o) ad)))))) K.1 K.2.1 K.2.2.2.2.2.1 D.1 o 3 (by rw [toW_at ho, cell_things hsh]) rfl rfl hd (kk p l e R s m args below meth c A Z E ad H locs lsC K G D hl g1 g2)
end Rules
end
section
/-! a method's contract out of wp; calls -/
theorem spec_intro {d M : Nat} {av : List AV} {h : Hp} {Q : Option AV → Hp → Prop} (hy : plainName (own M) = true) (hnl : av.all (fun v => !isL v) = true) (hlen : av.length ≤ ml M) (hwp : wp d M Q 0 0 0 (la 0 av) [] h) : Spec d M av h Q := by
  intro l E ad sz
  refine Met.ofW (cc := bt M) (maxL := ml M) (ret := rt M) hy rfl ?_
  intro p e s m args below meth c s₁ B hml hv
  obtain ⟨rfl, hsz, ⟨hP, hK, hN⟩, hD0⟩ := hv
  have hts := atoms_spec (ws := WS M) B.pre
  have hown : s.vm.findClass (own M) = some m.cls := findClass_of_methodNamed B.named
  have hlocks := B.notSynchronized
  subst hsz
  have hD := hD0.self (sz := s.heap.size)
  have hl := lv_entry (av.map (cv ad)) (n := ml M) (by rw [la_len _ _ hnl]; exact hlen)
  rw [la_args ad av hnl 0] at hl
  rw [lg_entry_eq]
  refine hwp p l e _ s m _ below meth c (va_A (toW E ad h) s.heap.size) _ E ad s.heap [] _ ⟨B.exec, B.bytes, hml, hown, fun w hw => hts w (List.mem_cons_of_mem _ hw), hK, fun q hq => Or.inr hq, hN, Nat.le_refl _, Nat.le_refl _, Nat.le_refl _, Nat.le_refl _, (name_of_methodNamed B.named B.method).1⟩ ?_ ⟨hP, hD, va_S.rf⟩ hl (Nat.zero_le _) (Nat.zero_le _)
  intro ad' r h1 H locs kc ks pc lsC a1 a2 a3 a4 a5 a6 a7 a8
  refine W.widen a6 a7 ?_
  have hq : ∀ t : State, t.heap = H → s.WarmedH t.vm → PostC E ad h Q M s.heap.size (av.map (cv ad)).toArray s (.returned (r.map (cv ad'))) t := fun t ht hW => ⟨⟨r, h1, ad', a1, a2, a3, rfl, a4, by rw [ht]; exact a5.1, a5.2.1⟩, a5.2.2.F ht⟩
  rcases r with _ | x | x | o
  · exact W.vret B.exec B.bytes (B.returns.trans a8.2) hq a5.2.2.2.2 a8.1
  · obtain ⟨hd, t, hr0, hn0⟩ := a8
    exact W.zret B.exec B.bytes (B.returns.trans hr0) hn0 hq a5.2.2.2.2 hd
  · exact a8.elim
  · obtain ⟨hd, t, hr0, ht⟩ := a8
    exact W.aret B.exec B.bytes (B.returns.trans hr0) ht (by cases o with
      | none => exact Or.inl rfl
      | some q => exact Or.inr ⟨_, rfl⟩) hq a5.2.2.2.2 hd
theorem run_W {p : Program} {l : Launch} {e : Env} {R : Room} {s : State} {m : MethodId} {args : Array Value} {below : List Frame} {meth : Method} {c : Code} {H : Heap} {locs : List Loc} {kc ks : Nat} {Z : State → Prop} {E : En} {ad : Nat → Nat} {h : Hp} {Q : Option AV → Hp → Prop} {M' pc : Nat} {A : Nat → Prop} {lsC : Array Slot} {st0 rest : List Value} {av : Array Value}
    (hr : va_Run p l e R s m args below meth c H locs kc ks (mc M') (ms M') (F0 m pc lsC st0) rest (PostC E ad h Q M' H.size av) (va_A (toW E ad h) H.size)) (hD : va_D A (toW E ad h)) (hS : va_S A s.heap H locs) (hA : ∀ q, s.heap.size ≤ q → A q)
    (kk : ∀ (r : Option AV) (h1 : Hp) (ad' : Nat → Nat) (H1 : Heap) (locs1 : List Loc), (∀ k, k < hn h → ad' k = ad k) → hn h ≤ hn h1 → (mc M' = 0 → ad' = ad ∧ hn h1 = hn h) → Q r h1 → WD E A ad' h1 s.heap H1 locs1 → W p l e R s m args below meth c H1 locs1 (kc + mc M') (ks + ms M') Z (F0 m (pc + 3) lsC ((r.map (cv ad')).toList ++ rest))) : W p l e R s m args below meth c H locs kc ks Z (F0 m pc lsC st0) := by
  have hF : ∀ q, va_A (toW E ad h) H.size q → A q := by
    intro q hq
    rcases hq with ⟨k, e0, hk⟩ | hq
    · exact hD.2 k _ hk
    · exact hA q (Nat.le_trans hS.1 hq)
  intro T hT X
  obtain ⟨v, st₀, t, T', L, h0, X', hL, e1, e2, ⟨⟨r, h1, ad', a1, a2, a3, hv, a4, a5, a6⟩, hz, hk⟩, st⟩ := hr T hT X
  have hv := Outcome.returned.inj hv
  subst hv
  rw [h0] at hz hk
  obtain ⟨t2, b1, b2⟩ := kk r h1 ad' T'.heap (locs ++ L) a1 a2 a3 a4 ⟨by rw [e1]; exact a5, a6.weaken (fun k q _ w => hF _ w), ⟨Nat.le_trans hS.1 (by rw [e1]; exact hz), fun q h1 h2 => by rw [e1, hk q (Nat.lt_of_lt_of_le h1 hS.1) (fun z => h2 (hF q z))]; exact hS.2.1 q h1 h2, fun q hq => by
      rcases List.mem_append.mp hq with w | w
      · exact hS.2.2 q w
      · exact hF _ (hL q w)⟩⟩ T' rfl X'
  exact ⟨t2, st t2 b1, b2⟩
/-- what a call site gives: the tables' words of the call are there -/
def Site (o : String) (ins : Instr) (cr : Option Nat) (M' : Nat) : Prop :=
  ∀ (p : Program) (l : Launch) (e : Env) (R : Room) (s : State) (m : MethodId) (args : Array Value) (below : List Frame) (meth : Method) (c : Code) (H : Heap) (locs : List Loc) (kc ks : Nat) (cc : ByteArray) (nL : Nat) (Pc : Array Value → State → Prop) (Qc : Array Value → State → Outcome → State → Prop) (free : Addr → Prop) (rm : Room) (As rest : List Value) (g : JFrame) (E : En),
    CallFix p m c cc nL s args TBL o → NC s → va_K E.1 classes (tysE E) s → Met l (ym M') (WS M') rm Pc Qc (mc M') (ms M') free → rm.cells = mc M' → rm.slots = ms M' → (rm.frames + 1 ≤ R.frames ∧ 8 + (ml M' + 11) + rm.locals ≤ R.locals) → FrameBlind Pc → (∀ U : State, U.heap = H → s.WarmedH U.vm → Pc As.toArray U) →
    (∀ ci, cr = some ci → ∃ (b : Addr) (As' : List Value) (q : vw_C) (cl : Cell), As = .ref b :: As' ∧ classes[ci]? = some q ∧ H[b]? = some cl ∧ cl.vm.isStatics = false ∧ s.vm.findClass q.1 = some cl.cls) →
    As.length = na M' + (if cr.isSome then 1 else 0) → g.method = m → g.locals.size = nL → g.stack = As.reverse ++ rest → 2 * g.monitorRoom + (rest.map fun v => v.category).sum ≤ 8 → decode cc g.pc = .ok (ins, 3) → (kc + mc M' ≤ R.cells ∧ ks + ms M' ≤ R.slots) →
    va_Run p l e R s m args below meth c H locs kc ks (mc M') (ms M') g rest (Qc As.toArray) free
def rcv (cr : Option Nat) (av : List AV) (h : Hp) : Prop := ∀ ci, cr = some ci → ∃ (o : Nat) (t : List AV), av = vR (some o) :: t ∧ SH o = (0, ci) ∧ o < hn h
theorem cat_sum (ad : Nat → Nat) (st : List AV) : ((st.map (cv ad)).map fun v => v.category) = st.map wt := by
  rw [List.map_map]
  apply List.map_congr_left
  intro v _
  exact cv_cat ad v
def nxt (r : Option AV) (st : List AV) : List AV := match r with
  | none => st
  | some v => v :: st
section Calls
variable {d M : Nat} {Q : Option AV → Hp → Prop} {kc ks pc pc' : Nat} {ls ls' : List (Nat × AV)} {st st0 : List AV} {h : Hp}
/-- a call's run, out of the site and the callee's contract -/
theorem site_run {M' : Nat} {ins : Instr} {cr : Option Nat} {av : List AV} {Q' : Option AV → Hp → Prop} {p : Program} {l : Launch} {e : Env} {R : Room} {s : State} {m : MethodId} {args : Array Value} {below : List Frame} {meth : Method} {c : Code} {A : Nat → Prop} {E : En} {ad : Nat → Nat} {H : Heap} {locs : List Loc} {lsC : Array Slot}
    (K : OKX p R s m args meth c A E (d + 1) M) (D : WD E A ad h s.heap H locs) (hl : lv_has lsC (ml M) (lc ad ls))
    (hd : fet M pc = .ok (ins, 3)) {on : String} (hon : own M = on) (hs : Site on ins cr M') (hcr : rcv cr av h) (hlen : av.length = na M' + (if cr.isSome then 1 else 0)) (hml : ml M' ≤ 20) (hwt : (st.map wt).sum ≤ 8) (hst : st0 = av.reverse ++ st) (hkc : kc + mc M' ≤ mc M) (hks : ks + ms M' ≤ ms M) (kk : Spec d M' av h Q') :
    va_Run p l e R s m args below meth c H locs kc ks (mc M') (ms M') (F0 m pc lsC (st0.map (cv ad))) (st.map (cv ad)) (PostC E ad h Q' M' H.size (av.map (cv ad)).toArray) (va_A (toW E ad h) H.size) := by
  subst hon
  obtain ⟨k1, k2, k3, k4, k5, k6, k7, k8, k9, k10, k11, k12, k13⟩ := K
  refine hs p l e R s m args below meth c H locs kc ks (bt M) (ml M) (PreC E ad h av H.size) (PostC E ad h Q' M' H.size) (va_A (toW E ad h) H.size) (rmD d M') (av.map (cv ad)) (st.map (cv ad)) (F0 m pc lsC (st0.map (cv ad))) E ⟨k1, k2, k3, k4, k5⟩ k8 k6 (kk l E ad H.size) rfl rfl ⟨k9, ?_⟩ PreC.blind ?_ ?_ ?_ rfl hl.1 ?_ ?_ hd ⟨Nat.le_trans hkc k11, Nat.le_trans hks k12⟩
  · show 8 + (ml M' + 11) + 40 * d ≤ R.locals
    omega
  · intro U hU hW
    exact ⟨rfl, by rw [hU], ⟨by rw [hU]; exact D.1, va_K.moved hW.alike k6, k8.warm hW⟩, D.2.1.weaken (fun _ _ _ _ => trivial)⟩
  · intro ci hci
    obtain ⟨o, t, rfl, hsh, ho⟩ := hcr ci hci
    have he : (toW E ad h)[o]? = some (ad o, .inr (ci, fv ad (hi h o) (hr h o) 0 (FK ci))) := by rw [toW_at ho, cell_obj hsh]
    obtain ⟨q, hq, -⟩ := D.1 o _ he
    obtain ⟨cl, c1, c2, c3⟩ := va_recv k6 D.1 hq he
    exact ⟨ad o, t.map (cv ad), q, cl, rfl, hq, c1, c2, c3⟩
  · rw [List.length_map]; exact hlen
  · rw [hst, List.map_append, List.map_reverse]
  · refine lv_room ?_
    rw [cat_sum]
    exact hwt
theorem r_call {M' : Nat} {ins : Instr} {cr : Option Nat} (av st : List AV) (hd : fet M pc = .ok (ins, 3)) (hp : pc + 3 = pc') {on : String} (hon : own M = on) (hs : Site on ins cr M') (hcr : rcv cr av h) (hlen : av.length = na M' + (if cr.isSome then 1 else 0)) (hml : ml M' ≤ 20) (hm : mc M' = 0 ∧ ms M' = 0) (hwt : (st.map wt).sum ≤ 8) (hst : st0 = av.reverse ++ st)
    (kk : Spec d M' av h (fun r h1 => wp (d + 1) M Q kc ks pc' ls (nxt r st) h1)) : wp (d + 1) M Q kc ks pc ls st0 h := by
  subst hp
  intro p l e R s m args below meth c A Z E ad H locs lsC K G D hl g1 g2
  refine run_W (site_run K D hl hd hon hs hcr hlen hml hwt hst (by rw [hm.1]; exact g1) (by rw [hm.2]; exact g2) kk) D.2.1 D.2.2 K.2.2.2.2.2.2.1 ?_
  intro r h1 ad' H1 locs1 a1 a2 a3 a4 a5
  obtain ⟨e1, e2⟩ := a3 hm.1
  subst e1
  rw [hm.1, hm.2]
  have w := a4 p l e R s m args below meth c A Z E ad' H1 locs1 lsC K (by rw [e2]; exact G) a5 hl g1 g2
  cases r with
  | none => exact w
  | some v => exact w
end Calls
end
section
/-! making cells; the JDK's own; instanceof (printed by wip/whole/p07.py) -/
def okv (n : Nat) : AV → Bool
  | .inr (.inr (some k)) => decide (k < n)
  | _ => true
def Val (h : Hp) : Prop := ∀ k j x, k < hn h → hr h k j = some x → x < hn h
def ext1 (ad : Nat → Nat) (n a : Nat) : Nat → Nat := fun k => if k = n then a else ad k
theorem ext1_lt {ad : Nat → Nat} {n a k : Nat} (hk : k < n) : ext1 ad n a k = ad k := by
  have hne : k ≠ n := by omega
  simp [ext1, hne]
theorem ext1_at {ad : Nat → Nat} {n a : Nat} : ext1 ad n a n = a := by simp [ext1]
theorem cv_ok {n : Nat} {ad ad' : Nat → Nat} {v : AV} (hv : okv n v = true) (ha : ∀ k, k < n → ad' k = ad k) : cv ad' v = cv ad v := by
  rcases v with x | x | o
  · rfl
  · rfl
  · cases o with
    | none => rfl
    | some k =>
      have hk : k < n := by simpa [okv] using hv
      simp [cv, ha k hk]
theorem lc_ok {n : Nat} {ad ad' : Nat → Nat} {ls : List (Nat × AV)} (hv : ls.all (fun q => okv n q.2) = true) (ha : ∀ k, k < n → ad' k = ad k) : lc ad' ls = lc ad ls := by
  unfold lc
  apply List.map_congr_left
  intro q hq
  rw [cv_ok (List.all_eq_true.mp hv q hq) ha]
theorem st_ok {n : Nat} {ad ad' : Nat → Nat} {st : List AV} (hv : st.all (okv n) = true) (ha : ∀ k, k < n → ad' k = ad k) : st.map (cv ad') = st.map (cv ad) := by
  apply List.map_congr_left
  intro q hq
  exact cv_ok (List.all_eq_true.mp hv q hq) ha
theorem fv_ad {ad ad' : Nat → Nat} {f : Nat → Int32} {g : Nat → Option Nat} (hv : ∀ j x, g j = some x → ad' x = ad x) : ∀ (l : List Bool) (j : Nat), fv ad' f g j l = fv ad f g j l := by
  intro l
  induction l with
  | nil => intro j; rfl
  | cons b t ih =>
    intro j
    cases b with
    | true => simp [fv, ih]
    | false =>
      have e : (g j).map ad' = (g j).map ad := by
        cases hg : g j with
        | none => rfl
        | some x => simp [hv j x hg]
      simp [fv, ih, e]
theorem rrow_ad {ad ad' : Nat → Nat} {g : Nat → Option Nat} (hv : ∀ j x, g j = some x → ad' x = ad x) : rrow g ad' = rrow g ad := by
  funext j
  unfold rrow
  cases hg : g j with
  | none => rfl
  | some x => simp [hv j x hg]
theorem cell_ad {E : En} {ad ad' : Nat → Nat} {h h' : Hp} {k : Nat} (h1 : hi h' k = hi h k) (h2 : hr h' k = hr h k) (hv : ∀ j x, hr h k j = some x → ad' x = ad x) : cell E ad' h' k = cell E ad h k := by
  unfold cell
  rw [h1, h2, rrow_ad hv]
  split <;> first | rfl | rw [fv_ad hv]
theorem hi_grow_lt {h : Hp} {k : Nat} (hk : k < hn h) : hi (grow h) k = hi h k := by
  have hne : k ≠ h.1 := Nat.ne_of_lt hk
  simp [hi, grow, hne]
theorem hr_grow_lt {h : Hp} {k : Nat} (hk : k < hn h) : hr (grow h) k = hr h k := by
  have hne : k ≠ h.1 := Nat.ne_of_lt hk
  simp [hr, grow, hne]
theorem hi_grow_at {h : Hp} : hi (grow h) (hn h) = fun _ => 0 := by simp [hi, grow, hn]
theorem hr_grow_at {h : Hp} : hr (grow h) (hn h) = fun _ => none := by simp [hr, grow, hn]
theorem toW_grow {E : En} {ad ad' : Nat → Nat} {h : Hp} (hv : Val h) (ha : ∀ k, k < hn h → ad' k = ad k) : toW E ad' (grow h) = toW E ad h ++ [(ad' (hn h), cell E ad' (grow h) (hn h))] := by
  show (List.range (hn h + 1)).map _ = _
  rw [List.range_succ, List.map_append]
  congr 1
  unfold toW
  apply List.map_congr_left
  intro k hk
  have hk : k < hn h := List.mem_range.mp hk
  rw [ha k hk, cell_ad (hi_grow_lt hk) (hr_grow_lt hk) (fun j x hx => ha x (hv k j x hk hx))]
theorem Val.grow {h : Hp} (hv : Val h) : Val (grow h) := by
  intro k j x hk hx
  by_cases hlt : k < hn h
  · rw [hr_grow_lt hlt] at hx
    exact Nat.lt_succ_of_lt (hv k j x hlt hx)
  · have : k = hn h := by
      have : k < hn h + 1 := hk
      omega
    subst this
    rw [hr_grow_at] at hx
    cases hx
theorem Val.seti {h : Hp} (hv : Val h) (k j : Nat) (x : Int32) : Val (seti h k j x) := hv
theorem Val.setr {h : Hp} (hv : Val h) (k j : Nat) (x : Nat) (hx : x < hn h) : Val (setr h k j (some x)) := by
  intro a b y ha hy
  rw [hr_setr] at hy
  split at hy
  · cases hy; exact hx
  · exact hv a b y ha hy
theorem RT_ext {p : Program} {l : Launch} {e : Env} {R : Room} {s : State} {m : MethodId} {args : Array Value} {below : List Frame} {meth : Method} {c : Code} {A : Nat → Prop} {Z : State → Prop} {E : En} {ad ad1 : Nat → Nat} {n n1 M : Nat} {Q : Option AV → Hp → Prop} (G : RT p l e R s m args below meth c A Z E ad n M Q) (hm : mc M ≠ 0) (ha : ∀ k, k < n → ad1 k = ad k) (hn1 : n ≤ n1) : RT p l e R s m args below meth c A Z E ad1 n1 M Q := by
  intro ad' r h1 H locs kc ks pc lsC a1 a2 a3 a4 a5 a6 a7 a8
  exact G ad' r h1 H locs kc ks pc lsC (fun k hk => (a1 k (Nat.lt_of_lt_of_le hk hn1)).trans (ha k hk)) (Nat.le_trans hn1 a2) (fun z => absurd z hm) a4 a5 a6 a7 a8
theorem ra_eq {U : State} {cA cB : ClassId} {ty : FieldType} (h1 : va_RA U cA ty) (h2 : va_RA U cB ty) : cA = cB := by
  cases ty with
  | object C =>
    obtain ⟨_, _, _, _, _, f1⟩ := h1
    obtain ⟨_, _, _, _, _, f2⟩ := h2
    exact Option.some.inj (f1.symm.trans f2)
  | _ => exact Option.some.inj (Eq.trans (Eq.symm h1) h2)
def SiteN (o : String) (idx ci N : Nat) : Prop := ∃ q : vw_C, classes[ci]? = some q ∧ q.2.2 = N ∧ (∀ w ∈ u_ws q.1 q.2.1 q.2.2, w ∈ TBL) ∧ Cond.classLink o idx q.1 ∈ TBL ∧ Cond.instantiable q.1 N ∈ TBL ∧ Cond.initialized q.1 ∈ TBL ∧ ∃ ty : Nat → FieldType, (∀ k, k < N → parseFieldDescriptor (q.2.1 k).2.2.1 = some (ty k)) ∧ ∀ j, j < N → defaultValue (ty j) = vp_V (fv id (fun _ => 0) (fun _ => none) 0 (FK ci)) j
section Making
variable {d M : Nat} {Q : Option AV → Hp → Prop} {kc ks pc pc' : Nat} {ls ls' : List (Nat × AV)} {st st0 : List AV} {h : Hp}
theorem r_new {idx ci N : Nat} (hd : fet M pc = .ok (.new idx, 3)) (hp : pc + 3 = pc') {on : String} (hon : own M = on) (hs : SiteN on idx ci N) (hsh : SH (hn h) = (0, ci)) (hv : Val h) (hls : ls.all (fun q => okv (hn h) q.2) = true) (hst : st.all (okv (hn h)) = true) (hkc : kc + 1 ≤ mc M) (hks : ks + N ≤ ms M) (kk : wp d M Q (kc + 1) (ks + N) pc' ls (vR (some (hn h)) :: st) (grow h)) : wp d M Q kc ks pc ls st h := by
  subst hp
  intro p l e R s m args below meth c A Z E ad H locs lsC K G D hl g1 g2
  subst hon
  obtain ⟨q, q1, q2, q3, q4, q5, q6, ty, q7, q8⟩ := hs
  subst q2
  obtain ⟨k1, k2, k3, k4, k5, k6, k7, k8, k9, k10, k11, k12, k13⟩ := id K
  refine va_new (D := E.1) (T := q.2.1) (ci := ci) (fs := fv id (fun _ => 0) (fun _ => none) 0 (FK ci)) k1 k2 k5 q3 ty q7 k4 (k5 _ q4) (k5 _ q5) (k5 _ q6) k6 D.1 D.2.1 D.2.2 k7 q1 q8 (Nat.le_trans hkc k11) (Nat.le_trans hks k12) hd (fun a H1 e1 e2 e3 => ?_)
  have hag : ∀ k, k < hn h → ext1 ad (hn h) a k = ad k := fun k hk => ext1_lt hk
  have hw : toW E (ext1 ad (hn h) a) (grow h) = toW E ad h ++ [(a, .inr (ci, fv id (fun _ => 0) (fun _ => none) 0 (FK ci)))] := by
    rw [toW_grow hv hag, ext1_at, cell_obj hsh, hi_grow_at, hr_grow_at, fv_ad (ad := id) (fun j x hx => by cases hx)]
  have w := kk p l e R s m args below meth c A Z E (ext1 ad (hn h) a) H1 locs lsC K (RT_ext G (by omega) hag (Nat.le_succ _)) ⟨by rw [hw]; exact e1, by rw [hw]; exact e2, e3⟩ (by rw [lc_ok hls hag]; exact hl) hkc hks
  rw [List.map_cons, st_ok hst hag, show cv (ext1 ad (hn h) a) (vR (some (hn h))) = .ref a by simp [cv, va_rf, ext1_at]] at w
  exact w
theorem r_newI {n : Int32} {N : Nat} (hd : fet M pc = .ok (.newarray .int, 2)) (hp : pc + 2 = pc') (hs : Cond.arrayClass .int ∈ TBL) (hsh : SH (hn h) = (1, N)) (hn0 : ¬ n < 0) (hN : n.toNatClampNeg = N) (hby : N ≤ 10000) (hv : Val h) (hls : ls.all (fun q => okv (hn h) q.2) = true) (hst : st.all (okv (hn h)) = true) (hkc : kc + 1 ≤ mc M) (hks : ks + N ≤ ms M) (kk : wp d M Q (kc + 1) (ks + N) pc' ls (vR (some (hn h)) :: st) (grow h)) : wp d M Q kc ks pc ls (vI n :: st) h := by
  subst hp
  intro p l e R s m args below meth c A Z E ad H locs lsC K G D hl g1 g2
  obtain ⟨k1, k2, k3, k4, k5, k6, k7, k8, k9, k10, k11, k12, k13⟩ := id K
  refine va_newa (D := E.1) (atype := .int) (a0 := (N, .inl (fun _ => 0))) (ty := .int) k1 k2 (k5 _ hs) rfl k6 D.1 D.2.1 D.2.2 k7 (fun _ => rfl) hn0 hN (by show N * 4 ≤ 536870912; omega) (Nat.le_trans hkc k11) (Nat.le_trans hks k12) hd (fun a cA H1 e0 e1 e2 e3 => ?_)
  have hcA : cA = E.2.1 := ra_eq (e0.2 4 (cA, .int) rfl).2 (k6.2 0 (E.2.1, .int) rfl).2
  subst hcA
  have hag : ∀ k, k < hn h → ext1 ad (hn h) a k = ad k := fun k hk => ext1_lt hk
  have hw : toW E (ext1 ad (hn h) a) (grow h) = toW E ad h ++ [(a, .inl (E.2.1, N, .inl (fun _ => 0)))] := by
    rw [toW_grow hv hag, ext1_at, cell_int hsh, hi_grow_at]
  have w := kk p l e R s m args below meth c A Z E (ext1 ad (hn h) a) H1 locs lsC K (RT_ext G (by omega) hag (Nat.le_succ _)) ⟨by rw [hw]; exact e1, by rw [hw]; exact e2, e3⟩ (by rw [lc_ok hls hag]; exact hl) hkc hks
  rw [List.map_cons, st_ok hst hag, show cv (ext1 ad (hn h) a) (vR (some (hn h))) = .ref a by simp [cv, va_rf, ext1_at]] at w
  exact w
theorem r_newZ {n : Int32} {N : Nat} (hd : fet M pc = .ok (.newarray .boolean, 2)) (hp : pc + 2 = pc') (hs : Cond.arrayClass .boolean ∈ TBL) (hsh : SH (hn h) = (2, N)) (hn0 : ¬ n < 0) (hN : n.toNatClampNeg = N) (hby : N ≤ 10000) (hv : Val h) (hls : ls.all (fun q => okv (hn h) q.2) = true) (hst : st.all (okv (hn h)) = true) (hkc : kc + 1 ≤ mc M) (hks : ks + N ≤ ms M) (kk : wp d M Q (kc + 1) (ks + N) pc' ls (vR (some (hn h)) :: st) (grow h)) : wp d M Q kc ks pc ls (vI n :: st) h := by
  subst hp
  intro p l e R s m args below meth c A Z E ad H locs lsC K G D hl g1 g2
  obtain ⟨k1, k2, k3, k4, k5, k6, k7, k8, k9, k10, k11, k12, k13⟩ := id K
  refine va_newa (D := E.1) (atype := .boolean) (a0 := (N, .inl (fun _ => 0))) (ty := .boolean) k1 k2 (k5 _ hs) rfl k6 D.1 D.2.1 D.2.2 k7 (fun _ => rfl) hn0 hN (by show N * 1 ≤ 536870912; omega) (Nat.le_trans hkc k11) (Nat.le_trans hks k12) hd (fun a cA H1 e0 e1 e2 e3 => ?_)
  have hcA : cA = E.2.2.1 := ra_eq (e0.2 4 (cA, .boolean) rfl).2 (k6.2 1 (E.2.2.1, .boolean) rfl).2
  subst hcA
  have hag : ∀ k, k < hn h → ext1 ad (hn h) a k = ad k := fun k hk => ext1_lt hk
  have hw : toW E (ext1 ad (hn h) a) (grow h) = toW E ad h ++ [(a, .inl (E.2.2.1, N, .inl (fun _ => 0)))] := by
    rw [toW_grow hv hag, ext1_at, cell_bool hsh, hi_grow_at]
  have w := kk p l e R s m args below meth c A Z E (ext1 ad (hn h) a) H1 locs lsC K (RT_ext G (by omega) hag (Nat.le_succ _)) ⟨by rw [hw]; exact e1, by rw [hw]; exact e2, e3⟩ (by rw [lc_ok hls hag]; exact hl) hkc hks
  rw [List.map_cons, st_ok hst hag, show cv (ext1 ad (hn h) a) (vR (some (hn h))) = .ref a by simp [cv, va_rf, ext1_at]] at w
  exact w
theorem r_newK {n : Int32} {N idx : Nat} (hd : fet M pc = .ok (.anewarray idx, 3)) (hp : pc + 3 = pc') {on : String} (hon : own M = on) (hs : Cond.classLink on idx RX3 ∈ TBL) (hov : RX3 ∈ overL) (hsh : SH (hn h) = (3, N)) (hn0 : ¬ n < 0) (hN : n.toNatClampNeg = N) (hby : N ≤ 10000) (hv : Val h) (hls : ls.all (fun q => okv (hn h) q.2) = true) (hst : st.all (okv (hn h)) = true) (hkc : kc + 1 ≤ mc M) (hks : ks + N ≤ ms M) (kk : wp d M Q (kc + 1) (ks + N) pc' ls (vR (some (hn h)) :: st) (grow h)) : wp d M Q kc ks pc ls (vI n :: st) h := by
  subst hp
  subst hon
  intro p l e R s m args below meth c A Z E ad H locs lsC K G D hl g1 g2
  obtain ⟨k1, k2, k3, k4, k5, k6, k7, k8, k9, k10, k11, k12, k13⟩ := id K
  refine va_newq (D := E.1) (C := RX3) k1 k2 k4 (k5 _ hs) (k8.2.2.2 _ hov) k6 D.1 D.2.1 D.2.2 k7 hn0 hN (by omega) (Nat.le_trans hkc k11) (Nat.le_trans hks k12) hd (fun a cA H1 e0 e1 e2 e3 => ?_)
  have hcA : cA = E.2.2.2.1 := ra_eq (e0.2 4 (cA, .object RX3) rfl).2 (k6.2 2 (E.2.2.2.1, .object RX3) rfl).2
  subst hcA
  have hag : ∀ k, k < hn h → ext1 ad (hn h) a k = ad k := fun k hk => ext1_lt hk
  have hw : toW E (ext1 ad (hn h) a) (grow h) = toW E ad h ++ [(a, .inl (E.2.2.2.1, N, .inr (.inr (.inr (.inr (fun _ => none))))))] := by
    rw [toW_grow hv hag, ext1_at, cell_kinds hsh, hr_grow_at]
    rfl
  have w := kk p l e R s m args below meth c A Z E (ext1 ad (hn h) a) H1 locs lsC K (RT_ext G (by omega) hag (Nat.le_succ _)) ⟨by rw [hw]; exact e1, by rw [hw]; exact e2, e3⟩ (by rw [lc_ok hls hag]; exact hl) hkc hks
  rw [List.map_cons, st_ok hst hag, show cv (ext1 ad (hn h) a) (vR (some (hn h))) = .ref a by simp [cv, va_rf, ext1_at]] at w
  exact w
theorem r_newT {n : Int32} {N idx : Nat} (hd : fet M pc = .ok (.anewarray idx, 3)) (hp : pc + 3 = pc') {on : String} (hon : own M = on) (hs : Cond.classLink on idx RX8 ∈ TBL) (hov : RX8 ∈ overL) (hsh : SH (hn h) = (4, N)) (hn0 : ¬ n < 0) (hN : n.toNatClampNeg = N) (hby : N ≤ 10000) (hv : Val h) (hls : ls.all (fun q => okv (hn h) q.2) = true) (hst : st.all (okv (hn h)) = true) (hkc : kc + 1 ≤ mc M) (hks : ks + N ≤ ms M) (kk : wp d M Q (kc + 1) (ks + N) pc' ls (vR (some (hn h)) :: st) (grow h)) : wp d M Q kc ks pc ls (vI n :: st) h := by
  subst hp
  subst hon
  intro p l e R s m args below meth c A Z E ad H locs lsC K G D hl g1 g2
  obtain ⟨k1, k2, k3, k4, k5, k6, k7, k8, k9, k10, k11, k12, k13⟩ := id K
  refine va_newq (D := E.1) (C := RX8) k1 k2 k4 (k5 _ hs) (k8.2.2.2 _ hov) k6 D.1 D.2.1 D.2.2 k7 hn0 hN (by omega) (Nat.le_trans hkc k11) (Nat.le_trans hks k12) hd (fun a cA H1 e0 e1 e2 e3 => ?_)
  have hcA : cA = E.2.2.2.2 := ra_eq (e0.2 4 (cA, .object RX8) rfl).2 (k6.2 3 (E.2.2.2.2, .object RX8) rfl).2
  subst hcA
  have hag : ∀ k, k < hn h → ext1 ad (hn h) a k = ad k := fun k hk => ext1_lt hk
  have hw : toW E (ext1 ad (hn h) a) (grow h) = toW E ad h ++ [(a, .inl (E.2.2.2.2, N, .inr (.inr (.inr (.inr (fun _ => none))))))] := by
    rw [toW_grow hv hag, ext1_at, cell_things hsh, hr_grow_at]
    rfl
  have w := kk p l e R s m args below meth c A Z E (ext1 ad (hn h) a) H1 locs lsC K (RT_ext G (by omega) hag (Nat.le_succ _)) ⟨by rw [hw]; exact e1, by rw [hw]; exact e2, e3⟩ (by rw [lc_ok hls hag]; exact hl) hkc hks
  rw [List.map_cons, st_ok hst hag, show cv (ext1 ad (hn h) a) (vR (some (hn h))) = .ref a by simp [cv, va_rf, ext1_at]] at w
  exact w
theorem r_aastK {o n x ci : Nat} {i : Int32} (hd : fet M pc = .ok (.aastore, 1)) (hp : pc + 1 = pc') (hsh : SH o = (3, n)) (ho : o < hn h) (hx : SH x = (0, ci)) (hxo : x < hn h) (hcx : (classes.getD ci (RL, TX0, 0)).1 = RX3 ∨ ((classes.getD ci (RL, TX0, 0)).1, RX3) ∈ castL) (hin : vp_in i n) (kk : wp d M Q kc ks pc' ls st (setr h o i.toNatClampNeg (some x))) : wp d M Q kc ks pc ls (vR (some x) :: vI i :: vR (some o) :: st) h := by
  subst hp
  intro p l e R s m args below meth c A Z E ad H locs lsC K G D hl g1 g2
  have he : (toW E ad h)[x]? = some (ad x, .inr (ci, fv ad (hi h x) (hr h x) 0 (FK ci))) := by rw [toW_at hxo, cell_obj hx]
  obtain ⟨q, hq, -⟩ := D.1 x _ he
  have hg : classes.getD ci (RL, TX0, 0) = q := by rw [List.getD_eq_getElem?_getD, hq]; rfl
  rw [hg] at hcx
  have hset : (toW E ad h).set o (ad o, .inl (E.2.2.2.1, n, .inr (.inr (.inr (.inr (va_up (rrow (hr h o) ad) i.toNatClampNeg (some (ad x)))))))) = toW E ad (setr h o i.toNatClampNeg (some x)) := by
    refine toW_set rfl ?_ (fun a _ => by rw [hi_setr]) (fun a ha => hr_setr_ne h o _ _ a ha)
    rw [cell_kinds hsh, hr_setr_row, rrow_up]
    rfl
  rcases hcx with w | w
  · refine va_astq (D := E.1) (a := ad o) (v := ad x) (r := q) K.1 K.2.1 K.2.2.2.2.2.1 D.1 D.2.1 D.2.2 o 2 x ci (by rw [toW_at ho, cell_kinds hsh]) (by rw [w]; rfl) he hq hin hd (fun H1 locs1 e1 e2 e3 => ?_)
    rw [hset] at e1 e2
    exact kk p l e R s m args below meth c A Z E ad H1 locs1 lsC K G ⟨e1, e2, e3⟩ hl g1 g2
  · refine va_astqO (D := E.1) (a := ad o) (v := ad x) (r := q) (E := RX3) K.1 K.2.1 K.2.2.2.2.2.1 D.1 D.2.1 D.2.2 o 2 x ci (by rw [toW_at ho, cell_kinds hsh]) rfl (K.2.2.2.2.2.2.2.1.2.1 _ w) he hq hin hd (fun H1 locs1 e1 e2 e3 => ?_)
    rw [hset] at e1 e2
    exact kk p l e R s m args below meth c A Z E ad H1 locs1 lsC K G ⟨e1, e2, e3⟩ hl g1 g2
theorem r_aastT {o n x ci : Nat} {i : Int32} (hd : fet M pc = .ok (.aastore, 1)) (hp : pc + 1 = pc') (hsh : SH o = (4, n)) (ho : o < hn h) (hx : SH x = (0, ci)) (hxo : x < hn h) (hcx : (classes.getD ci (RL, TX0, 0)).1 = RX8 ∨ ((classes.getD ci (RL, TX0, 0)).1, RX8) ∈ castL) (hin : vp_in i n) (kk : wp d M Q kc ks pc' ls st (setr h o i.toNatClampNeg (some x))) : wp d M Q kc ks pc ls (vR (some x) :: vI i :: vR (some o) :: st) h := by
  subst hp
  intro p l e R s m args below meth c A Z E ad H locs lsC K G D hl g1 g2
  have he : (toW E ad h)[x]? = some (ad x, .inr (ci, fv ad (hi h x) (hr h x) 0 (FK ci))) := by rw [toW_at hxo, cell_obj hx]
  obtain ⟨q, hq, -⟩ := D.1 x _ he
  have hg : classes.getD ci (RL, TX0, 0) = q := by rw [List.getD_eq_getElem?_getD, hq]; rfl
  rw [hg] at hcx
  have hset : (toW E ad h).set o (ad o, .inl (E.2.2.2.2, n, .inr (.inr (.inr (.inr (va_up (rrow (hr h o) ad) i.toNatClampNeg (some (ad x)))))))) = toW E ad (setr h o i.toNatClampNeg (some x)) := by
    refine toW_set rfl ?_ (fun a _ => by rw [hi_setr]) (fun a ha => hr_setr_ne h o _ _ a ha)
    rw [cell_things hsh, hr_setr_row, rrow_up]
    rfl
  rcases hcx with w | w
  · refine va_astq (D := E.1) (a := ad o) (v := ad x) (r := q) K.1 K.2.1 K.2.2.2.2.2.1 D.1 D.2.1 D.2.2 o 3 x ci (by rw [toW_at ho, cell_things hsh]) (by rw [w]; rfl) he hq hin hd (fun H1 locs1 e1 e2 e3 => ?_)
    rw [hset] at e1 e2
    exact kk p l e R s m args below meth c A Z E ad H1 locs1 lsC K G ⟨e1, e2, e3⟩ hl g1 g2
  · refine va_astqO (D := E.1) (a := ad o) (v := ad x) (r := q) (E := RX8) K.1 K.2.1 K.2.2.2.2.2.1 D.1 D.2.1 D.2.2 o 3 x ci (by rw [toW_at ho, cell_things hsh]) rfl (K.2.2.2.2.2.2.2.1.2.1 _ w) he hq hin hd (fun H1 locs1 e1 e2 e3 => ?_)
    rw [hset] at e1 e2
    exact kk p l e R s m args below meth c A Z E ad H1 locs1 lsC K G ⟨e1, e2, e3⟩ hl g1 g2
theorem r_callA {M' : Nat} {ins : Instr} {cr : Option Nat} (av st : List AV) (hd : fet M pc = .ok (ins, 3)) (hp : pc + 3 = pc') {on : String} (hon : own M = on) (hs : Site on ins cr M') (hcr : rcv cr av h) (hlen : av.length = na M' + (if cr.isSome then 1 else 0)) (hml : ml M' ≤ 20) (hm : mc M ≠ 0) (hls : ls.all (fun q => okv (hn h) q.2) = true) (hso : st.all (okv (hn h)) = true) (hwt : (st.map wt).sum ≤ 8) (hst : st0 = av.reverse ++ st) (hkc : kc + mc M' ≤ mc M) (hks : ks + ms M' ≤ ms M)
    (kk : Spec d M' av h (fun r h1 => wp (d + 1) M Q (kc + mc M') (ks + ms M') pc' ls (nxt r st) h1)) : wp (d + 1) M Q kc ks pc ls st0 h := by
  subst hp
  intro p l e R s m args below meth c A Z E ad H locs lsC K G D hl g1 g2
  refine run_W (site_run K D hl hd hon hs hcr hlen hml hwt hst hkc hks kk) D.2.1 D.2.2 K.2.2.2.2.2.2.1 ?_
  intro r h1 ad' H1 locs1 a1 a2 a3 a4 a5
  have w := a4 p l e R s m args below meth c A Z E ad' H1 locs1 lsC K (RT_ext G hm a1 a2) a5 (by rw [lc_ok hls a1]; exact hl) hkc hks
  cases r with
  | none => rw [nxt, st_ok hso a1] at w; exact w
  | some v => rw [nxt, List.map_cons, st_ok hso a1] at w; exact w
theorem r_objInit {idx o : Nat} (hd : fet M pc = .ok (.invokespecial idx, 3)) (hp : pc + 3 = pc') {on : String} (hon : own M = on) (h1 : Cond.methodLink on idx objectInit ∈ TBL) (h2 : Cond.instanceMethod objectInit ∈ TBL) (h3 : Cond.code objectInit ⟨#[0xb1]⟩ 1 none ∈ TBL) (hwt : (st.map wt).sum ≤ 8) (kk : wp (d + 1) M Q kc ks pc' ls st h) : wp (d + 1) M Q kc ks pc ls (vR (some o) :: st) h := by
  subst hp
  subst hon
  intro p l e R s m args below meth c A Z E ad H locs lsC K G D hl g1 g2
  obtain ⟨k1, k2, k3, k4, k5, k6, k7, k8, k9, k10, k11, k12, k13⟩ := id K
  refine W.objInit (a := ad o) k1 k2 k4 (k5 _ h1) (k5 _ h2) (k5 _ h3) rfl (by rw [k3]; exact hl.1) rfl hd (by omega) ?_ (kk p l e R s m args below meth c A Z E ad H locs lsC K G D hl g1 g2)
  have w := lv_room (m := m) (pc := pc) (ls := lsC) (rest := []) (st := st.map (cv ad)) (by rw [cat_sum]; exact hwt)
  have e0 : (F0 m pc lsC ([] : List Value)).monitorRoom = (F0 m pc lsC (List.map (cv ad) (vR (some o) :: st))).monitorRoom := rfl
  rw [e0] at w
  omega
theorem r_max {x y : Int32} {idx : Nat} (hd : fet M pc = .ok (.invokestatic idx, 3)) (hp : pc + 3 = pc') {on : String} (hon : own M = on) (h1 : Cond.methodLink on idx Lib.Math.max.name ∈ TBL) (h2 : Cond.static Lib.Math.max.name ∈ TBL) (h3 : Cond.initialized "java/lang/Math" ∈ TBL) (h4 : Cond.code Lib.Math.max.name Lib.Math.max.code 2 (some .int) ∈ TBL) (hwt : (st.map wt).sum ≤ 8) (kk : wp (d + 1) M Q kc ks pc' ls (vI (if x < y then y else x) :: st) h) : wp (d + 1) M Q kc ks pc ls (vI y :: vI x :: st) h := by
  subst hp
  subst hon
  intro p l e R s m args below meth c A Z E ad H locs lsC K G D hl g1 g2
  obtain ⟨k1, k2, k3, k4, k5, k6, k7, k8, k9, k10, k11, k12, k13⟩ := id K
  exact va_mmax k1 k2 (by rw [k3]; exact hl.1.symm) k4 (k5 _ h1) (k5 _ h2) (k5 _ h3) (k5 _ h4) (by omega) (by rw [cat_sum]; omega) (Nat.le_trans g1 k11) (Nat.le_trans g2 k12) hd (kk p l e R s m args below meth c A Z E ad H locs lsC K G D hl g1 g2)
theorem r_min {x y : Int32} {idx : Nat} (hd : fet M pc = .ok (.invokestatic idx, 3)) (hp : pc + 3 = pc') {on : String} (hon : own M = on) (h1 : Cond.methodLink on idx Lib.Math.min.name ∈ TBL) (h2 : Cond.static Lib.Math.min.name ∈ TBL) (h3 : Cond.initialized "java/lang/Math" ∈ TBL) (h4 : Cond.code Lib.Math.min.name Lib.Math.min.code 2 (some .int) ∈ TBL) (hwt : (st.map wt).sum ≤ 8) (kk : wp (d + 1) M Q kc ks pc' ls (vI (if y < x then y else x) :: st) h) : wp (d + 1) M Q kc ks pc ls (vI y :: vI x :: st) h := by
  subst hp
  subst hon
  intro p l e R s m args below meth c A Z E ad H locs lsC K G D hl g1 g2
  obtain ⟨k1, k2, k3, k4, k5, k6, k7, k8, k9, k10, k11, k12, k13⟩ := id K
  exact va_mmin k1 k2 (by rw [k3]; exact hl.1.symm) k4 (k5 _ h1) (k5 _ h2) (k5 _ h3) (k5 _ h4) (by omega) (by rw [cat_sum]; omega) (Nat.le_trans g1 k11) (Nat.le_trans g2 k12) hd (kk p l e R s m args below meth c A Z E ad H locs lsC K G D hl g1 g2)
theorem r_abs {x : Int32} {idx : Nat} (hd : fet M pc = .ok (.invokestatic idx, 3)) (hp : pc + 3 = pc') {on : String} (hon : own M = on) (h1 : Cond.methodLink on idx Lib.Math.abs.name ∈ TBL) (h2 : Cond.static Lib.Math.abs.name ∈ TBL) (h3 : Cond.initialized "java/lang/Math" ∈ TBL) (h4 : Cond.code Lib.Math.abs.name Lib.Math.abs.code 1 (some .int) ∈ TBL) (hwt : (st.map wt).sum ≤ 8) (kk : wp (d + 1) M Q kc ks pc' ls (vI (if 0 ≤ x then x else 0 - x) :: st) h) : wp (d + 1) M Q kc ks pc ls (vI x :: st) h := by
  subst hp
  subst hon
  intro p l e R s m args below meth c A Z E ad H locs lsC K G D hl g1 g2
  obtain ⟨k1, k2, k3, k4, k5, k6, k7, k8, k9, k10, k11, k12, k13⟩ := id K
  exact va_mabs k1 k2 (by rw [k3]; exact hl.1.symm) k4 (k5 _ h1) (k5 _ h2) (k5 _ h3) (k5 _ h4) (by omega) (by rw [cat_sum]; omega) (Nat.le_trans g1 k11) (Nat.le_trans g2 k12) hd (kk p l e R s m args below meth c A Z E ad H locs lsC K G D hl g1 g2)
theorem r_copy {o0 o1 n0 n1 idx : Nat} {sp dp n : Int32} (hd : fet M pc = .ok (.invokestatic idx, 3)) (hp : pc + 3 = pc') {on : String} (hon : own M = on) (h1 : Cond.methodLink on idx arraycopyName ∈ TBL) (h2 : Cond.native arraycopyName ∈ TBL) (h3 : Cond.static arraycopyName ∈ TBL) (h4 : Cond.initialized "java/lang/System" ∈ TBL) (hs0 : SH o0 = (1, n0)) (hs1 : SH o1 = (1, n1)) (ho0 : o0 < hn h) (ho1 : o1 < hn h) (c1 : ¬ sp < 0) (c2 : ¬ dp < 0) (c3 : ¬ n < 0) (c4 : sp.toNatClampNeg + n.toNatClampNeg ≤ n0) (c5 : dp.toNatClampNeg + n.toNatClampNeg ≤ n1) (hwt : (st.map wt).sum ≤ 8) (kk : wp (d + 1) M Q kc ks pc' ls st (setw h o1 (va_cpy (hi h o0) (hi h o1) sp.toNatClampNeg dp.toNatClampNeg n.toNatClampNeg))) : wp (d + 1) M Q kc ks pc ls (vI n :: vI dp :: vR (some o1) :: vI sp :: vR (some o0) :: st) h := by
  subst hp
  subst hon
  intro p l e R s m args below meth c A Z E ad H locs lsC K G D hl g1 g2
  obtain ⟨k1, k2, k3, k4, k5, k6, k7, k8, k9, k10, k11, k12, k13⟩ := id K
  have hset : (toW E ad h).set o1 (ad o1, .inl (E.2.1, n1, .inl (va_cpy (hi h o0) (hi h o1) sp.toNatClampNeg dp.toNatClampNeg n.toNatClampNeg))) = toW E ad (setw h o1 (va_cpy (hi h o0) (hi h o1) sp.toNatClampNeg dp.toNatClampNeg n.toNatClampNeg)) := by
    refine toW_set rfl ?_ (fun a ha => hi_setw_ne h o1 _ a ha) (fun a _ => by rw [hr_setw])
    rw [cell_int hs1, hi_setw_row]
  have hnw : nativeFrameWords "java/lang/System" "arraycopy" 5 ≤ 20 := by decide +kernel
  refine va_copyi (D := E.1) (a := ad o1) (a0 := ad o0) (ty := .int) k1 k2 (by rw [k3]; exact hl.1.symm) k4 (k5 _ h1) (k5 _ h2) (k5 _ h3) (k5 _ h4) k6 D.1 D.2.1 D.2.2 o0 o1 0 0 (by rw [toW_at ho0, cell_int hs0]) (by rw [toW_at ho1, cell_int hs1]) rfl rfl rfl c1 c2 c3 c4 c5 (fun _ _ => rfl) (by omega) (by rw [cat_sum]; omega) hd (fun H1 locs1 e1 e2 e3 => ?_)
  rw [hset] at e1 e2
  exact kk p l e R s m args below meth c A Z E ad H1 locs1 lsC K G ⟨e1, e2, e3⟩ hl g1 g2
theorem r_instN {idx : Nat} (hd : fet M pc = .ok (.instanceof idx, 3)) (hp : pc + 3 = pc') (kk : wp d M Q kc ks pc' ls (vI 0 :: st) h) : wp d M Q kc ks pc ls (vR none :: st) h := by
  subst hp
  intro p l e R s m args below meth c A Z E ad H locs lsC K G D hl g1 g2
  exact lv_instN K.1 K.2.1 hd (kk p l e R s m args below meth c A Z E ad H locs lsC K G D hl g1 g2)
theorem r_inst {idx o ci : Nat} {nm : String} (b : Bool) (hd : fet M pc = .ok (.instanceof idx, 3)) (hp : pc + 3 = pc') {on : String} (hon : own M = on) (hs : Cond.classLink on idx nm ∈ TBL) (hsh : SH o = (0, ci)) (ho : o < hn h) (hb : if b then (classes.getD ci (RL, TX0, 0)).1 = nm ∨ ((classes.getD ci (RL, TX0, 0)).1, nm) ∈ castL else ((classes.getD ci (RL, TX0, 0)).1, nm) ∈ nocastL) (kk : wp d M Q kc ks pc' ls (vI (if b then 1 else 0) :: st) h) : wp d M Q kc ks pc ls (vR (some o) :: st) h := by
  subst hp
  subst hon
  intro p l e R s m args below meth c A Z E ad H locs lsC K G D hl g1 g2
  obtain ⟨k1, k2, k3, k4, k5, k6, k7, k8, k9, k10, k11, k12, k13⟩ := id K
  have he : (toW E ad h)[o]? = some (ad o, .inr (ci, fv ad (hi h o) (hr h o) 0 (FK ci))) := by rw [toW_at ho, cell_obj hsh]
  obtain ⟨q, hq, -⟩ := D.1 o _ he
  have hg : classes.getD ci (RL, TX0, 0) = q := by rw [List.getD_eq_getElem?_getD, hq]; rfl
  rw [hg] at hb
  have hrc := va_recv k6 D.1 hq he
  cases b with
  | true =>
    rcases hb with w | w
    · subst w
      exact va_instS (a := ad o) k1 k2 k4 (k5 _ hs) ((k6.1 ci q hq).2) hrc hd (kk p l e R s m args below meth c A Z E ad H locs lsC K G D hl g1 g2)
    · exact va_instY (a := ad o) (C := q.1) k1 k2 k4 (k5 _ hs) (k8.2.1 _ w) hrc hd (kk p l e R s m args below meth c A Z E ad H locs lsC K G D hl g1 g2)
  | false => exact va_instNo (a := ad o) (C := q.1) k1 k2 k4 (k5 _ hs) (k8.2.2.1 _ hb) hrc hd (kk p l e R s m args below meth c A Z E ad H locs lsC K G D hl g1 g2)
end Making
end
section
/-! call sites in general -/
def DOK (M' : Nat) : Prop := (ym M').cls ≠ "java/lang/invoke/MethodHandle" ∧ (ym M').cls ≠ "java/lang/invoke/VarHandle" ∧ (parseMethodDescriptor (ym M').desc).map (fun d => d.parameters.length) = some (na M')
def MI (M' : Nat) : Prop := Cond.code (ym M') (bt M') (ml M') (rt M') ∈ TBL ∧ Cond.instanceMethod (ym M') ∈ TBL ∧ Cond.initialized (ym M').cls ∈ TBL ∧ DOK M'
def MSt (M' : Nat) : Prop := Cond.code (ym M') (bt M') (ml M') (rt M') ∈ TBL ∧ Cond.static (ym M') ∈ TBL ∧ Cond.initialized (ym M').cls ∈ TBL ∧ DOK M'
theorem mem3 {a b c : Cond} {l : List Cond} (h1 : a ∈ l) (h2 : b ∈ l) (h3 : c ∈ l) : ∀ w ∈ [a, b, c], w ∈ l := by
  intro w hw
  simp at hw
  rcases hw with rfl | rfl | rfl <;> assumption
theorem mem4 {a b c d : Cond} {l : List Cond} (h1 : a ∈ l) (h2 : b ∈ l) (h3 : c ∈ l) (h4 : d ∈ l) : ∀ w ∈ [a, b, c, d], w ∈ l := by
  intro w hw
  simp at hw
  rcases hw with rfl | rfl | rfl | rfl <;> assumption
theorem mem5 {a b c d e : Cond} {l : List Cond} (h1 : a ∈ l) (h2 : b ∈ l) (h3 : c ∈ l) (h4 : d ∈ l) (h5 : e ∈ l) : ∀ w ∈ [a, b, c, d, e], w ∈ l := by
  intro w hw
  simp at hw
  rcases hw with rfl | rfl | rfl | rfl | rfl <;> assumption
theorem mem6 {a b c d e f : Cond} {l : List Cond} (h1 : a ∈ l) (h2 : b ∈ l) (h3 : c ∈ l) (h4 : d ∈ l) (h5 : e ∈ l) (h6 : f ∈ l) : ∀ w ∈ [a, b, c, d, e, f], w ∈ l := by
  intro w hw
  simp at hw
  rcases hw with rfl | rfl | rfl | rfl | rfl | rfl <;> assumption
theorem siteV {o : String} {idx ci M' : Nat} (q : vw_C) (hq0 : classes[ci]? = some q) (hC : (ym M').cls = q.1) (hM0 : MI M') (h1 : Cond.methodLink o idx (ym M') ∈ TBL) (h3 : Cond.selects q.1 (ym M') (ym M') ∈ TBL) : Site o (.invokevirtual idx) (some ci) M' := by
  intro p l e R s m args below meth c H locs kc ks cc nL Pc Qc free rm As rest g E S N hK hM hc hs hR hb hpc hrc hlen hg hsz hst hw hd hf
  obtain ⟨b, As', q2, cl, rfl, hq, c1, c2, c3⟩ := hrc ci rfl
  cases hq0.symm.trans hq
  obtain ⟨m1, m2, m3, m4⟩ := hM0
  exact va_runV (As := As') (rest := rest) (C := q.1) S hM (cwV (na M') S.2.2.2.2 (good_app (mem4 h1 m2 h3 (hC ▸ m3)) (good_ws m1)) rfl hc hs ⟨hC, m4⟩ hR) ⟨hb, ⟨cl, c1, c2, c3⟩, hpc⟩ hg (by simpa using hlen) hsz (by rw [hst]; simp) hw hd hf
theorem siteS {o : String} {idx M' : Nat} (hC : (ym M').cls = o) (hM0 : MSt M') (h1 : Cond.methodLink o idx (ym M') ∈ TBL) : Site o (.invokestatic idx) none M' := by
  intro p l e R s m args below meth c H locs kc ks cc nL Pc Qc free rm As rest g E S N hK hM hc hs hR hb hpc hrc hlen hg hsz hst hw hd hf
  obtain ⟨m1, m2, m3, m4⟩ := hM0
  exact va_runS (As := As) (rest := rest) S hM (cwS (na M') S.2.2.2.2 (good_app (mem3 h1 m2 (hC ▸ m3)) (good_ws m1)) rfl hc hs ⟨hC, m4⟩ hR) ⟨hb, hpc⟩ hg (by simpa using hlen) hsz hst hw hd hf
theorem siteS2 {o : String} {idx M' : Nat} (hM0 : MSt M') (h1 : Cond.methodLink o idx (ym M') ∈ TBL) : Site o (.invokestatic idx) none M' := by
  intro p l e R s m args below meth c H locs kc ks cc nL Pc Qc free rm As rest g E S N hK hM hc hs hR hb hpc hrc hlen hg hsz hst hw hd hf
  obtain ⟨m1, m2, m3, m4⟩ := hM0
  have ht := S.2.2.2.2
  exact va_runS (As := As) (rest := rest) S hM ⟨callB_of (na M') ht (good_ws m1) rfl hc hs (ht _ m3) (ht _ h1) m4 hR, ht _ m2⟩ ⟨hb, hpc⟩ hg (by simpa using hlen) hsz hst hw hd hf
theorem siteSN {o host : String} {idx M' : Nat} (hM0 : MSt M') (h1 : (o, idx, ym M', host) ∈ nestL) : Site o (.invokestatic idx) none M' := by
  intro p l e R s m args below meth c H locs kc ks cc nL Pc Qc free rm As rest g E S N hK hM hc hs hR hb hpc hrc hlen hg hsz hst hw hd hf
  obtain ⟨m1, m2, m3, m4⟩ := hM0
  have ht := S.2.2.2.2
  exact va_runSN (As := As) (rest := rest) S hM ⟨va_cnB (na M') ht (good_ws m1) rfl hc hs (N.1 _ h1) (ht _ m3) m4 hR, ht _ m2, trivial⟩ ⟨hb, hpc⟩ hg (by simpa using hlen) hsz hst hw hd hf
theorem siteI {o : String} {idx ci M' : Nat} (hn0 : rt M' = none) (hi0 : (ym M').name = "<init>") (hM0 : MI M') (h1 : Cond.methodLink o idx (ym M') ∈ TBL) : Site o (.invokespecial idx) (some ci) M' := by
  intro p l e R s m args below meth c H locs kc ks cc nL Pc Qc free rm As rest g E S N hK hM hc hs hR hb hpc hrc hlen hg hsz hst hw hd hf
  obtain ⟨b, As', q2, cl, rfl, hq, c1, c2, c3⟩ := hrc ci rfl
  obtain ⟨m1, m2, m3, m4⟩ := hM0
  have ht := S.2.2.2.2
  exact va_runI (As := As') (rest := rest) (maxL := ml M') (bytes := bt M') S hM (cwI (na M') ht (good_ws m1) (show WS M' = Cond.code (ym M') (bt M') (ml M') none :: TBL by unfold WS; rw [hn0]) hc hs (ht _ m3) (ht _ h1) (ht _ m2) hi0 m4 hR) ⟨hb, hpc⟩ hg (by simpa using hlen) hsz (by rw [hst]; simp) hw hd hf
theorem siteIN {o host : String} {idx ci M' : Nat} (hn0 : rt M' = none) (hi0 : (ym M').name = "<init>") (hM0 : MI M') (h1 : (o, idx, ym M', host) ∈ nestL) : Site o (.invokespecial idx) (some ci) M' := by
  intro p l e R s m args below meth c H locs kc ks cc nL Pc Qc free rm As rest g E S N hK hM hc hs hR hb hpc hrc hlen hg hsz hst hw hd hf
  obtain ⟨b, As', q2, cl, rfl, hq, c1, c2, c3⟩ := hrc ci rfl
  obtain ⟨m1, m2, m3, m4⟩ := hM0
  have ht := S.2.2.2.2
  exact va_runIN (As := As') (rest := rest) (maxL := ml M') (bytes := bt M') S hM ⟨va_cnB (na M') ht (good_ws m1) (show WS M' = Cond.code (ym M') (bt M') (ml M') none :: TBL by unfold WS; rw [hn0]) hc hs (N.1 _ h1) (ht _ m3) m4 hR, hi0, ht _ m2⟩ ⟨hb, hpc⟩ hg (by simpa using hlen) hsz (by rw [hst]; simp) hw hd hf
theorem siteU {o owner : String} {idx ci M' : Nat} (x : MethodName) (q : vw_C) (hq0 : classes[ci]? = some q) (hyx : ym M' = ⟨owner, x.name, x.desc⟩) (hM0 : MI M') (h1 : Cond.methodLink o idx x ∈ TBL) (h2 : Cond.sameMethod x.cls owner x.name x.desc ∈ TBL) (h3 : Cond.selects q.1 x (ym M') ∈ TBL) : Site o (.invokevirtual idx) (some ci) M' := by
  intro p l e R s m args below meth c H locs kc ks cc nL Pc Qc free rm As rest g E S N hK hM hc hs hR hb hpc hrc hlen hg hsz hst hw hd hf
  obtain ⟨b, As', q2, cl, rfl, hq, c1, c2, c3⟩ := hrc ci rfl
  cases hq0.symm.trans hq
  obtain ⟨m1, m2, m3, m4⟩ := hM0
  have m5 := m4
  unfold DOK at m5
  rw [hyx] at m5
  exact va_runU (As := As') (rest := rest) (C := q.1) (owner := owner) S hM (va_cwU (na M') S.2.2.2.2 (good_app (mem5 h1 h2 h3 m2 m3) (good_ws m1)) rfl hc hs hyx m5 hR) ⟨hb, ⟨cl, c1, c2, c3⟩, hpc⟩ hg (by simpa using hlen) hsz (by rw [hst]; simp) hw hd hf
theorem siteO {o owner : String} {idx ci M' M0 : Nat} (x : MethodName) (q : vw_C) (hq0 : classes[ci]? = some q) (hyx : ym M0 = ⟨owner, x.name, x.desc⟩) (hna : na M0 = na M') (hM0 : MI M') (hM1 : MI M0) (h1 : Cond.methodLink o idx x ∈ TBL) (h2 : Cond.sameMethod x.cls owner x.name x.desc ∈ TBL) (h3 : Cond.selects q.1 x (ym M') ∈ TBL) : Site o (.invokevirtual idx) (some ci) M' := by
  intro p l e R s m args below meth c H locs kc ks cc nL Pc Qc free rm As rest g E S N hK hM hc hs hR hb hpc hrc hlen hg hsz hst hw hd hf
  obtain ⟨b, As', q2, cl, rfl, hq, c1, c2, c3⟩ := hrc ci rfl
  cases hq0.symm.trans hq
  obtain ⟨m1, m2, m3, m4⟩ := hM0
  obtain ⟨z1, z2, z3, z4⟩ := hM1
  unfold DOK at z4
  rw [hyx] at z1 z2 z4
  rw [hna] at z4
  exact va_runU (As := As') (rest := rest) (C := q.1) (owner := owner) S hM (va_cwO (na M') S.2.2.2.2 (good_app (mem6 h1 h2 z2 h3 m2 m3) (good_ws m1)) rfl hc hs z1 z4 hR) ⟨hb, ⟨cl, c1, c2, c3⟩, hpc⟩ hg (by simpa using hlen) hsz (by rw [hst]; simp) hw hd hf
theorem siteSU {o : String} {idx ci M' : Nat} (hno : (ym M').name ≠ "<init>") (hM0 : MI M') (h1 : Cond.methodLink o idx (ym M') ∈ TBL) (h2 : Cond.sameMethod (ym M').cls (ym M').cls (ym M').name (ym M').desc ∈ TBL) (h3 : Cond.superclass o (ym M').cls ∈ TBL) : Site o (.invokespecial idx) (some ci) M' := by
  intro p l e R s m args below meth c H locs kc ks cc nL Pc Qc free rm As rest g E S N hK hM hc hs hR hb hpc hrc hlen hg hsz hst hw hd hf
  obtain ⟨b, As', q2, cl, rfl, hq, c1, c2, c3⟩ := hrc ci rfl
  obtain ⟨m1, m2, m3, m4⟩ := hM0
  exact va_runSU (As := As') (rest := rest) ((hK.1 ci q2 hq).2) S hM (va_cwSU (na M') S.2.2.2.2 (good_app (mem5 h1 h2 h3 m2 m3) (good_ws m1)) rfl hc hs ⟨hno, m4.2.2⟩ hR) ⟨hb, ⟨cl, c1, c2, c3⟩, hpc⟩ hg (by simpa using hlen) hsz (by rw [hst]; simp) hw hd hf
end
section
theorem o0 : own 0 = RX0 := by decide +kernel
theorem d0_0 : fet 0 0 = .ok (.aload_n 0, 1) := by decide +kernel
theorem d0_1 : fet 0 1 = .ok (.iload_n 1, 1) := by decide +kernel
theorem d0_2 : fet 0 2 = .ok (.iload_n 2, 1) := by decide +kernel
theorem d0_3 : fet 0 3 = .ok (.iload_n 3, 1) := by decide +kernel
theorem d0_4 : fet 0 4 = .ok (.iload 4, 2) := by decide +kernel
theorem d0_6 : fet 0 6 = .ok (.invokespecial 1, 3) := by decide +kernel
theorem d0_9 : fet 0 9 = .ok (.return_, 1) := by decide +kernel
theorem o1 : own 1 = RX0 := by decide +kernel
theorem d1_0 : fet 1 0 = .ok (.aload_n 2, 1) := by decide +kernel
theorem d1_1 : fet 1 1 = .ok (.bipush 13, 2) := by decide +kernel
theorem d1_3 : fet 1 3 = .ok (.invokevirtual 7, 3) := by decide +kernel
theorem d1_6 : fet 1 6 = .ok (.aload_n 0, 1) := by decide +kernel
theorem d1_7 : fet 1 7 = .ok (.aload_n 1, 1) := by decide +kernel
theorem d1_8 : fet 1 8 = .ok (.aload_n 2, 1) := by decide +kernel
theorem d1_9 : fet 1 9 = .ok (.invokespecial 13, 3) := by decide +kernel
theorem d1_12 : fet 1 12 = .ok (.bipush 100, 2) := by decide +kernel
theorem d1_14 : fet 1 14 = .ok (.isub, 1) := by decide +kernel
theorem d1_15 : fet 1 15 = .ok (.ireturn, 1) := by decide +kernel
theorem o2 : own 2 = RX0 := by decide +kernel
theorem d2_0 : fet 2 0 = .ok (.aload_n 2, 1) := by decide +kernel
theorem d2_1 : fet 2 1 = .ok (.bipush 23, 2) := by decide +kernel
theorem d2_3 : fet 2 3 = .ok (.invokevirtual 7, 3) := by decide +kernel
theorem d2_6 : fet 2 6 = .ok (.aload_n 0, 1) := by decide +kernel
theorem d2_7 : fet 2 7 = .ok (.aload_n 1, 1) := by decide +kernel
theorem d2_8 : fet 2 8 = .ok (.aload_n 2, 1) := by decide +kernel
theorem d2_9 : fet 2 9 = .ok (.invokespecial 17, 3) := by decide +kernel
theorem d2_12 : fet 2 12 = .ok (.aload_n 0, 1) := by decide +kernel
theorem d2_13 : fet 2 13 = .ok (.aload_n 1, 1) := by decide +kernel
theorem d2_14 : fet 2 14 = .ok (.aload_n 2, 1) := by decide +kernel
theorem d2_15 : fet 2 15 = .ok (.invokevirtual 20, 3) := by decide +kernel
theorem d2_18 : fet 2 18 = .ok (.isub, 1) := by decide +kernel
theorem d2_19 : fet 2 19 = .ok (.ireturn, 1) := by decide +kernel
theorem o3 : own 3 = RX1 := by decide +kernel
theorem d3_0 : fet 3 0 = .ok (.aload_n 0, 1) := by decide +kernel
theorem d3_1 : fet 3 1 = .ok (.iload_n 1, 1) := by decide +kernel
theorem d3_2 : fet 3 2 = .ok (.iload_n 2, 1) := by decide +kernel
theorem d3_3 : fet 3 3 = .ok (.iload_n 3, 1) := by decide +kernel
theorem d3_4 : fet 3 4 = .ok (.iload 4, 2) := by decide +kernel
theorem d3_6 : fet 3 6 = .ok (.invokespecial 1, 3) := by decide +kernel
theorem d3_9 : fet 3 9 = .ok (.return_, 1) := by decide +kernel
theorem o4 : own 4 = RX1 := by decide +kernel
theorem d4_0 : fet 4 0 = .ok (.aload_n 2, 1) := by decide +kernel
theorem d4_1 : fet 4 1 = .ok (.bipush 12, 2) := by decide +kernel
theorem d4_3 : fet 4 3 = .ok (.invokevirtual 7, 3) := by decide +kernel
theorem d4_6 : fet 4 6 = .ok (.aload_n 0, 1) := by decide +kernel
theorem d4_7 : fet 4 7 = .ok (.aload_n 1, 1) := by decide +kernel
theorem d4_8 : fet 4 8 = .ok (.aload_n 2, 1) := by decide +kernel
theorem d4_9 : fet 4 9 = .ok (.invokespecial 13, 3) := by decide +kernel
theorem d4_12 : fet 4 12 = .ok (.ineg, 1) := by decide +kernel
theorem d4_13 : fet 4 13 = .ok (.ireturn, 1) := by decide +kernel
theorem o5 : own 5 = RX1 := by decide +kernel
theorem d5_0 : fet 5 0 = .ok (.aload_n 2, 1) := by decide +kernel
theorem d5_1 : fet 5 1 = .ok (.bipush 24, 2) := by decide +kernel
theorem d5_3 : fet 5 3 = .ok (.invokevirtual 7, 3) := by decide +kernel
theorem d5_6 : fet 5 6 = .ok (.iconst 2, 1) := by decide +kernel
theorem d5_7 : fet 5 7 = .ok (.aload_n 0, 1) := by decide +kernel
theorem d5_8 : fet 5 8 = .ok (.aload_n 1, 1) := by decide +kernel
theorem d5_9 : fet 5 9 = .ok (.aload_n 2, 1) := by decide +kernel
theorem d5_10 : fet 5 10 = .ok (.invokespecial 17, 3) := by decide +kernel
theorem d5_13 : fet 5 13 = .ok (.imul, 1) := by decide +kernel
theorem d5_14 : fet 5 14 = .ok (.ireturn, 1) := by decide +kernel
theorem o6 : own 6 = RX2 := by decide +kernel
theorem d6_0 : fet 6 0 = .ok (.aload_n 0, 1) := by decide +kernel
theorem d6_1 : fet 6 1 = .ok (.iload_n 1, 1) := by decide +kernel
theorem d6_2 : fet 6 2 = .ok (.iload_n 2, 1) := by decide +kernel
theorem d6_3 : fet 6 3 = .ok (.iload_n 3, 1) := by decide +kernel
theorem d6_4 : fet 6 4 = .ok (.iload 4, 2) := by decide +kernel
theorem d6_6 : fet 6 6 = .ok (.invokespecial 1, 3) := by decide +kernel
theorem d6_9 : fet 6 9 = .ok (.return_, 1) := by decide +kernel
theorem o7 : own 7 = RX2 := by decide +kernel
theorem d7_0 : fet 7 0 = .ok (.aload_n 2, 1) := by decide +kernel
theorem d7_1 : fet 7 1 = .ok (.bipush 14, 2) := by decide +kernel
theorem d7_3 : fet 7 3 = .ok (.invokevirtual 7, 3) := by decide +kernel
theorem d7_6 : fet 7 6 = .ok (.iconst 2, 1) := by decide +kernel
theorem d7_7 : fet 7 7 = .ok (.aload_n 0, 1) := by decide +kernel
theorem d7_8 : fet 7 8 = .ok (.aload_n 1, 1) := by decide +kernel
theorem d7_9 : fet 7 9 = .ok (.aload_n 2, 1) := by decide +kernel
theorem d7_10 : fet 7 10 = .ok (.invokespecial 13, 3) := by decide +kernel
theorem d7_13 : fet 7 13 = .ok (.imul, 1) := by decide +kernel
theorem d7_14 : fet 7 14 = .ok (.ireturn, 1) := by decide +kernel
theorem o8 : own 8 = RX3 := by decide +kernel
theorem d8_0 : fet 8 0 = .ok (.aload_n 0, 1) := by decide +kernel
theorem d8_1 : fet 8 1 = .ok (.invokespecial 1, 3) := by decide +kernel
theorem d8_4 : fet 8 4 = .ok (.aload_n 0, 1) := by decide +kernel
theorem d8_5 : fet 8 5 = .ok (.iload_n 1, 1) := by decide +kernel
theorem d8_6 : fet 8 6 = .ok (.putfield 7, 3) := by decide +kernel
theorem d8_9 : fet 8 9 = .ok (.aload_n 0, 1) := by decide +kernel
theorem d8_10 : fet 8 10 = .ok (.iload_n 2, 1) := by decide +kernel
theorem d8_11 : fet 8 11 = .ok (.putfield 13, 3) := by decide +kernel
theorem d8_14 : fet 8 14 = .ok (.aload_n 0, 1) := by decide +kernel
theorem d8_15 : fet 8 15 = .ok (.iload_n 3, 1) := by decide +kernel
theorem d8_16 : fet 8 16 = .ok (.putfield 16, 3) := by decide +kernel
theorem d8_19 : fet 8 19 = .ok (.aload_n 0, 1) := by decide +kernel
theorem d8_20 : fet 8 20 = .ok (.iload 4, 2) := by decide +kernel
theorem d8_22 : fet 8 22 = .ok (.putfield 19, 3) := by decide +kernel
theorem d8_25 : fet 8 25 = .ok (.return_, 1) := by decide +kernel
theorem o9 : own 9 = RX3 := by decide +kernel
theorem d9_0 : fet 9 0 = .ok (.aload_n 0, 1) := by decide +kernel
theorem d9_1 : fet 9 1 = .ok (.getfield 13, 3) := by decide +kernel
theorem d9_4 : fet 9 4 = .ok (.ifCond .le 12, 3) := by decide +kernel
theorem d9_7 : fet 9 7 = .ok (.iload_n 1, 1) := by decide +kernel
theorem d9_8 : fet 9 8 = .ok (.aload_n 0, 1) := by decide +kernel
theorem d9_9 : fet 9 9 = .ok (.getfield 13, 3) := by decide +kernel
theorem d9_12 : fet 9 12 = .ok (.idiv, 1) := by decide +kernel
theorem d9_13 : fet 9 13 = .ok (.goto 4, 3) := by decide +kernel
theorem d9_16 : fet 9 16 = .ok (.iconst 0, 1) := by decide +kernel
theorem d9_17 : fet 9 17 = .ok (.ireturn, 1) := by decide +kernel
theorem o10 : own 10 = RX3 := by decide +kernel
theorem d10_0 : fet 10 0 = .ok (.iconst 0, 1) := by decide +kernel
theorem d10_1 : fet 10 1 = .ok (.ireturn, 1) := by decide +kernel
theorem o11 : own 11 = RX3 := by decide +kernel
theorem d11_0 : fet 11 0 = .ok (.aload_n 2, 1) := by decide +kernel
theorem d11_1 : fet 11 1 = .ok (.bipush 10, 2) := by decide +kernel
theorem d11_3 : fet 11 3 = .ok (.invokevirtual 22, 3) := by decide +kernel
theorem d11_6 : fet 11 6 = .ok (.aload_n 1, 1) := by decide +kernel
theorem d11_7 : fet 11 7 = .ok (.getfield 28, 3) := by decide +kernel
theorem d11_10 : fet 11 10 = .ok (.ireturn, 1) := by decide +kernel
theorem o12 : own 12 = RX3 := by decide +kernel
theorem d12_0 : fet 12 0 = .ok (.aload_n 2, 1) := by decide +kernel
theorem d12_1 : fet 12 1 = .ok (.bipush 20, 2) := by decide +kernel
theorem d12_3 : fet 12 3 = .ok (.invokevirtual 22, 3) := by decide +kernel
theorem d12_6 : fet 12 6 = .ok (.aload_n 1, 1) := by decide +kernel
theorem d12_7 : fet 12 7 = .ok (.getfield 33, 3) := by decide +kernel
theorem d12_10 : fet 12 10 = .ok (.ireturn, 1) := by decide +kernel
theorem o13 : own 13 = RX4 := by decide +kernel
theorem d13_0 : fet 13 0 = .ok (.aload_n 0, 1) := by decide +kernel
theorem d13_1 : fet 13 1 = .ok (.invokespecial 3, 3) := by decide +kernel
theorem d13_4 : fet 13 4 = .ok (.aload_n 0, 1) := by decide +kernel
theorem d13_5 : fet 13 5 = .ok (.sipush 160, 3) := by decide +kernel
theorem d13_8 : fet 13 8 = .ok (.newarray .int, 2) := by decide +kernel
theorem d13_10 : fet 13 10 = .ok (.putfield 11, 3) := by decide +kernel
theorem d13_13 : fet 13 13 = .ok (.return_, 1) := by decide +kernel
theorem o14 : own 14 = RX4 := by decide +kernel
theorem d14_0 : fet 14 0 = .ok (.aload_n 0, 1) := by decide +kernel
theorem d14_1 : fet 14 1 = .ok (.getfield 15, 3) := by decide +kernel
theorem d14_4 : fet 14 4 = .ok (.sipush 160, 3) := by decide +kernel
theorem d14_7 : fet 14 7 = .ok (.if_icmp .lt 5, 3) := by decide +kernel
theorem d14_10 : fet 14 10 = .ok (.iconst 0, 1) := by decide +kernel
theorem d14_11 : fet 14 11 = .ok (.ireturn, 1) := by decide +kernel
theorem d14_12 : fet 14 12 = .ok (.aload_n 0, 1) := by decide +kernel
theorem d14_13 : fet 14 13 = .ok (.getfield 11, 3) := by decide +kernel
theorem d14_16 : fet 14 16 = .ok (.aload_n 0, 1) := by decide +kernel
theorem d14_17 : fet 14 17 = .ok (.getfield 15, 3) := by decide +kernel
theorem d14_20 : fet 14 20 = .ok (.iload_n 1, 1) := by decide +kernel
theorem d14_21 : fet 14 21 = .ok (.iastore, 1) := by decide +kernel
theorem d14_22 : fet 14 22 = .ok (.aload_n 0, 1) := by decide +kernel
theorem d14_23 : fet 14 23 = .ok (.dup, 1) := by decide +kernel
theorem d14_24 : fet 14 24 = .ok (.getfield 15, 3) := by decide +kernel
theorem d14_27 : fet 14 27 = .ok (.iconst 1, 1) := by decide +kernel
theorem d14_28 : fet 14 28 = .ok (.iadd, 1) := by decide +kernel
theorem d14_29 : fet 14 29 = .ok (.putfield 15, 3) := by decide +kernel
theorem d14_32 : fet 14 32 = .ok (.iconst 1, 1) := by decide +kernel
theorem d14_33 : fet 14 33 = .ok (.ireturn, 1) := by decide +kernel
theorem o15 : own 15 = RX4 := by decide +kernel
theorem d15_0 : fet 15 0 = .ok (.aload_n 0, 1) := by decide +kernel
theorem d15_1 : fet 15 1 = .ok (.iconst 0, 1) := by decide +kernel
theorem d15_2 : fet 15 2 = .ok (.putfield 19, 3) := by decide +kernel
theorem d15_5 : fet 15 5 = .ok (.aload_n 0, 1) := by decide +kernel
theorem d15_6 : fet 15 6 = .ok (.iconst 0, 1) := by decide +kernel
theorem d15_7 : fet 15 7 = .ok (.putfield 22, 3) := by decide +kernel
theorem d15_10 : fet 15 10 = .ok (.aload_n 1, 1) := by decide +kernel
theorem d15_11 : fet 15 11 = .ok (.invokevirtual 26, 3) := by decide +kernel
theorem d15_14 : fet 15 14 = .ok (.aload_n 0, 1) := by decide +kernel
theorem d15_15 : fet 15 15 = .ok (.aload_n 1, 1) := by decide +kernel
theorem d15_16 : fet 15 16 = .ok (.invokevirtual 31, 3) := by decide +kernel
theorem d15_19 : fet 15 19 = .ok (.iconst 0, 1) := by decide +kernel
theorem d15_20 : fet 15 20 = .ok (.istore_n 2, 1) := by decide +kernel
theorem d15_21 : fet 15 21 = .ok (.iload_n 2, 1) := by decide +kernel
theorem d15_22 : fet 15 22 = .ok (.bipush 8, 2) := by decide +kernel
theorem d15_24 : fet 15 24 = .ok (.if_icmp .gt 30, 3) := by decide +kernel
theorem d15_27 : fet 15 27 = .ok (.aload_n 0, 1) := by decide +kernel
theorem d15_28 : fet 15 28 = .ok (.getfield 22, 3) := by decide +kernel
theorem d15_31 : fet 15 31 = .ok (.ifCond .ne 23, 3) := by decide +kernel
theorem d15_34 : fet 15 34 = .ok (.aload_n 0, 1) := by decide +kernel
theorem d15_35 : fet 15 35 = .ok (.invokevirtual 35, 3) := by decide +kernel
theorem d15_38 : fet 15 38 = .ok (.bipush 99, 2) := by decide +kernel
theorem d15_40 : fet 15 40 = .ok (.if_icmp .ne 14, 3) := by decide +kernel
theorem d15_43 : fet 15 43 = .ok (.aload_n 0, 1) := by decide +kernel
theorem d15_44 : fet 15 44 = .ok (.aload_n 1, 1) := by decide +kernel
theorem d15_45 : fet 15 45 = .ok (.invokevirtual 39, 3) := by decide +kernel
theorem d15_48 : fet 15 48 = .ok (.iinc 2 1, 3) := by decide +kernel
theorem d15_51 : fet 15 51 = .ok (.goto (-30), 3) := by decide +kernel
theorem d15_54 : fet 15 54 = .ok (.iconst 0, 1) := by decide +kernel
theorem d15_55 : fet 15 55 = .ok (.istore_n 2, 1) := by decide +kernel
theorem d15_56 : fet 15 56 = .ok (.iload_n 2, 1) := by decide +kernel
theorem d15_57 : fet 15 57 = .ok (.bipush 6, 2) := by decide +kernel
theorem d15_59 : fet 15 59 = .ok (.if_icmp .gt 33, 3) := by decide +kernel
theorem d15_62 : fet 15 62 = .ok (.aload_n 0, 1) := by decide +kernel
theorem d15_63 : fet 15 63 = .ok (.getfield 22, 3) := by decide +kernel
theorem d15_66 : fet 15 66 = .ok (.ifCond .ne 26, 3) := by decide +kernel
theorem d15_69 : fet 15 69 = .ok (.aload_n 0, 1) := by decide +kernel
theorem d15_70 : fet 15 70 = .ok (.invokevirtual 35, 3) := by decide +kernel
theorem d15_73 : fet 15 73 = .ok (.invokestatic 42, 3) := by decide +kernel
theorem d15_76 : fet 15 76 = .ok (.ldc 46, 2) := by decide +kernel
theorem d15_78 : fet 15 78 = .ok (.if_icmp .eq 14, 3) := by decide +kernel
theorem d15_81 : fet 15 81 = .ok (.aload_n 0, 1) := by decide +kernel
theorem d15_82 : fet 15 82 = .ok (.aload_n 1, 1) := by decide +kernel
theorem d15_83 : fet 15 83 = .ok (.invokevirtual 47, 3) := by decide +kernel
theorem d15_86 : fet 15 86 = .ok (.iinc 2 1, 3) := by decide +kernel
theorem d15_89 : fet 15 89 = .ok (.goto (-33), 3) := by decide +kernel
theorem d15_92 : fet 15 92 = .ok (.iconst 0, 1) := by decide +kernel
theorem d15_93 : fet 15 93 = .ok (.istore_n 2, 1) := by decide +kernel
theorem d15_94 : fet 15 94 = .ok (.iload_n 2, 1) := by decide +kernel
theorem d15_95 : fet 15 95 = .ok (.iconst 4, 1) := by decide +kernel
theorem d15_96 : fet 15 96 = .ok (.if_icmp .gt 30, 3) := by decide +kernel
theorem d15_99 : fet 15 99 = .ok (.aload_n 0, 1) := by decide +kernel
theorem d15_100 : fet 15 100 = .ok (.getfield 22, 3) := by decide +kernel
theorem d15_103 : fet 15 103 = .ok (.ifCond .ne 23, 3) := by decide +kernel
theorem d15_106 : fet 15 106 = .ok (.aload_n 0, 1) := by decide +kernel
theorem d15_107 : fet 15 107 = .ok (.invokevirtual 35, 3) := by decide +kernel
theorem d15_110 : fet 15 110 = .ok (.bipush 101, 2) := by decide +kernel
theorem d15_112 : fet 15 112 = .ok (.if_icmp .ne 14, 3) := by decide +kernel
theorem d15_115 : fet 15 115 = .ok (.aload_n 0, 1) := by decide +kernel
theorem d15_116 : fet 15 116 = .ok (.aload_n 1, 1) := by decide +kernel
theorem d15_117 : fet 15 117 = .ok (.invokevirtual 50, 3) := by decide +kernel
theorem d15_120 : fet 15 120 = .ok (.iinc 2 1, 3) := by decide +kernel
theorem d15_123 : fet 15 123 = .ok (.goto (-29), 3) := by decide +kernel
theorem d15_126 : fet 15 126 = .ok (.aload_n 0, 1) := by decide +kernel
theorem d15_127 : fet 15 127 = .ok (.getfield 22, 3) := by decide +kernel
theorem d15_130 : fet 15 130 = .ok (.ifCond .ne 23, 3) := by decide +kernel
theorem d15_133 : fet 15 133 = .ok (.aload_n 0, 1) := by decide +kernel
theorem d15_134 : fet 15 134 = .ok (.getfield 19, 3) := by decide +kernel
theorem d15_137 : fet 15 137 = .ok (.aload_n 0, 1) := by decide +kernel
theorem d15_138 : fet 15 138 = .ok (.getfield 15, 3) := by decide +kernel
theorem d15_141 : fet 15 141 = .ok (.if_icmp .ge 12, 3) := by decide +kernel
theorem d15_144 : fet 15 144 = .ok (.aload_n 0, 1) := by decide +kernel
theorem d15_145 : fet 15 145 = .ok (.iconst 1, 1) := by decide +kernel
theorem d15_146 : fet 15 146 = .ok (.aload_n 0, 1) := by decide +kernel
theorem d15_147 : fet 15 147 = .ok (.getfield 19, 3) := by decide +kernel
theorem d15_150 : fet 15 150 = .ok (.invokevirtual 53, 3) := by decide +kernel
theorem d15_153 : fet 15 153 = .ok (.aload_n 0, 1) := by decide +kernel
theorem d15_154 : fet 15 154 = .ok (.getfield 22, 3) := by decide +kernel
theorem d15_157 : fet 15 157 = .ok (.ifCond .ne 7, 3) := by decide +kernel
theorem d15_160 : fet 15 160 = .ok (.iconst 1, 1) := by decide +kernel
theorem d15_161 : fet 15 161 = .ok (.goto 4, 3) := by decide +kernel
theorem d15_164 : fet 15 164 = .ok (.iconst 0, 1) := by decide +kernel
theorem d15_165 : fet 15 165 = .ok (.ireturn, 1) := by decide +kernel
theorem o16 : own 16 = RX4 := by decide +kernel
theorem d16_0 : fet 16 0 = .ok (.aload_n 0, 1) := by decide +kernel
theorem d16_1 : fet 16 1 = .ok (.bipush 103, 2) := by decide +kernel
theorem d16_3 : fet 16 3 = .ok (.invokevirtual 57, 3) := by decide +kernel
theorem d16_6 : fet 16 6 = .ok (.aload_n 1, 1) := by decide +kernel
theorem d16_7 : fet 16 7 = .ok (.aload_n 0, 1) := by decide +kernel
theorem d16_8 : fet 16 8 = .ok (.iconst 1, 1) := by decide +kernel
theorem d16_9 : fet 16 9 = .ok (.bipush 30, 2) := by decide +kernel
theorem d16_11 : fet 16 11 = .ok (.invokevirtual 61, 3) := by decide +kernel
theorem d16_14 : fet 16 14 = .ok (.putfield 65, 3) := by decide +kernel
theorem d16_17 : fet 16 17 = .ok (.aload_n 0, 1) := by decide +kernel
theorem d16_18 : fet 16 18 = .ok (.bipush 44, 2) := by decide +kernel
theorem d16_20 : fet 16 20 = .ok (.invokevirtual 57, 3) := by decide +kernel
theorem d16_23 : fet 16 23 = .ok (.aload_n 1, 1) := by decide +kernel
theorem d16_24 : fet 16 24 = .ok (.aload_n 0, 1) := by decide +kernel
theorem d16_25 : fet 16 25 = .ok (.iconst 0, 1) := by decide +kernel
theorem d16_26 : fet 16 26 = .ok (.bipush 9, 2) := by decide +kernel
theorem d16_28 : fet 16 28 = .ok (.invokevirtual 61, 3) := by decide +kernel
theorem d16_31 : fet 16 31 = .ok (.putfield 68, 3) := by decide +kernel
theorem d16_34 : fet 16 34 = .ok (.aload_n 0, 1) := by decide +kernel
theorem d16_35 : fet 16 35 = .ok (.bipush 59, 2) := by decide +kernel
theorem d16_37 : fet 16 37 = .ok (.invokevirtual 57, 3) := by decide +kernel
theorem d16_40 : fet 16 40 = .ok (.return_, 1) := by decide +kernel
theorem o17 : own 17 = RX4 := by decide +kernel
theorem d17_0 : fet 17 0 = .ok (.aload_n 1, 1) := by decide +kernel
theorem d17_1 : fet 17 1 = .ok (.getfield 71, 3) := by decide +kernel
theorem d17_4 : fet 17 4 = .ok (.bipush 8, 2) := by decide +kernel
theorem d17_6 : fet 17 6 = .ok (.if_icmp .lt 13, 3) := by decide +kernel
theorem d17_9 : fet 17 9 = .ok (.aload_n 0, 1) := by decide +kernel
theorem d17_10 : fet 17 10 = .ok (.iconst 3, 1) := by decide +kernel
theorem d17_11 : fet 17 11 = .ok (.aload_n 0, 1) := by decide +kernel
theorem d17_12 : fet 17 12 = .ok (.getfield 19, 3) := by decide +kernel
theorem d17_15 : fet 17 15 = .ok (.invokevirtual 53, 3) := by decide +kernel
theorem d17_18 : fet 17 18 = .ok (.return_, 1) := by decide +kernel
theorem d17_19 : fet 17 19 = .ok (.aload_n 0, 1) := by decide +kernel
theorem d17_20 : fet 17 20 = .ok (.bipush 99, 2) := by decide +kernel
theorem d17_22 : fet 17 22 = .ok (.invokevirtual 57, 3) := by decide +kernel
theorem d17_25 : fet 17 25 = .ok (.aload_n 0, 1) := by decide +kernel
theorem d17_26 : fet 17 26 = .ok (.iconst 0, 1) := by decide +kernel
theorem d17_27 : fet 17 27 = .ok (.bipush 11, 2) := by decide +kernel
theorem d17_29 : fet 17 29 = .ok (.invokevirtual 61, 3) := by decide +kernel
theorem d17_32 : fet 17 32 = .ok (.istore_n 2, 1) := by decide +kernel
theorem d17_33 : fet 17 33 = .ok (.aload_n 0, 1) := by decide +kernel
theorem d17_34 : fet 17 34 = .ok (.bipush 44, 2) := by decide +kernel
theorem d17_36 : fet 17 36 = .ok (.invokevirtual 57, 3) := by decide +kernel
theorem d17_39 : fet 17 39 = .ok (.aload_n 0, 1) := by decide +kernel
theorem d17_40 : fet 17 40 = .ok (.iconst 1, 1) := by decide +kernel
theorem d17_41 : fet 17 41 = .ok (.bipush 30, 2) := by decide +kernel
theorem d17_43 : fet 17 43 = .ok (.invokevirtual 61, 3) := by decide +kernel
theorem d17_46 : fet 17 46 = .ok (.istore_n 3, 1) := by decide +kernel
theorem d17_47 : fet 17 47 = .ok (.aload_n 0, 1) := by decide +kernel
theorem d17_48 : fet 17 48 = .ok (.bipush 59, 2) := by decide +kernel
theorem d17_50 : fet 17 50 = .ok (.invokevirtual 57, 3) := by decide +kernel
theorem d17_53 : fet 17 53 = .ok (.aload_n 1, 1) := by decide +kernel
theorem d17_54 : fet 17 54 = .ok (.iload_n 2, 1) := by decide +kernel
theorem d17_55 : fet 17 55 = .ok (.iload_n 3, 1) := by decide +kernel
theorem d17_56 : fet 17 56 = .ok (.iconst 0, 1) := by decide +kernel
theorem d17_57 : fet 17 57 = .ok (.invokevirtual 74, 3) := by decide +kernel
theorem d17_60 : fet 17 60 = .ok (.return_, 1) := by decide +kernel
theorem o18 : own 18 = RX4 := by decide +kernel
theorem d18_0 : fet 18 0 = .ok (.aload_n 1, 1) := by decide +kernel
theorem d18_1 : fet 18 1 = .ok (.getfield 78, 3) := by decide +kernel
theorem d18_4 : fet 18 4 = .ok (.bipush 6, 2) := by decide +kernel
theorem d18_6 : fet 18 6 = .ok (.if_icmp .lt 13, 3) := by decide +kernel
theorem d18_9 : fet 18 9 = .ok (.aload_n 0, 1) := by decide +kernel
theorem d18_10 : fet 18 10 = .ok (.iconst 3, 1) := by decide +kernel
theorem d18_11 : fet 18 11 = .ok (.aload_n 0, 1) := by decide +kernel
theorem d18_12 : fet 18 12 = .ok (.getfield 19, 3) := by decide +kernel
theorem d18_15 : fet 18 15 = .ok (.invokevirtual 53, 3) := by decide +kernel
theorem d18_18 : fet 18 18 = .ok (.return_, 1) := by decide +kernel
theorem d18_19 : fet 18 19 = .ok (.aload_n 0, 1) := by decide +kernel
theorem d18_20 : fet 18 20 = .ok (.invokevirtual 81, 3) := by decide +kernel
theorem d18_23 : fet 18 23 = .ok (.istore_n 2, 1) := by decide +kernel
theorem d18_24 : fet 18 24 = .ok (.aload_n 0, 1) := by decide +kernel
theorem d18_25 : fet 18 25 = .ok (.getfield 19, 3) := by decide +kernel
theorem d18_28 : fet 18 28 = .ok (.istore_n 3, 1) := by decide +kernel
theorem d18_29 : fet 18 29 = .ok (.aload_n 0, 1) := by decide +kernel
theorem d18_30 : fet 18 30 = .ok (.iconst 0, 1) := by decide +kernel
theorem d18_31 : fet 18 31 = .ok (.bipush 12, 2) := by decide +kernel
theorem d18_33 : fet 18 33 = .ok (.invokevirtual 61, 3) := by decide +kernel
theorem d18_36 : fet 18 36 = .ok (.istore 4, 2) := by decide +kernel
theorem d18_38 : fet 18 38 = .ok (.aload_n 0, 1) := by decide +kernel
theorem d18_39 : fet 18 39 = .ok (.getfield 22, 3) := by decide +kernel
theorem d18_42 : fet 18 42 = .ok (.ifCond .ne 18, 3) := by decide +kernel
theorem d18_45 : fet 18 45 = .ok (.aload_n 1, 1) := by decide +kernel
theorem d18_46 : fet 18 46 = .ok (.iload 4, 2) := by decide +kernel
theorem d18_48 : fet 18 48 = .ok (.invokevirtual 84, 3) := by decide +kernel
theorem d18_51 : fet 18 51 = .ok (.ifnull 9, 3) := by decide +kernel
theorem d18_54 : fet 18 54 = .ok (.aload_n 0, 1) := by decide +kernel
theorem d18_55 : fet 18 55 = .ok (.iconst 2, 1) := by decide +kernel
theorem d18_56 : fet 18 56 = .ok (.iload_n 3, 1) := by decide +kernel
theorem d18_57 : fet 18 57 = .ok (.invokevirtual 53, 3) := by decide +kernel
theorem d18_60 : fet 18 60 = .ok (.aload_n 0, 1) := by decide +kernel
theorem d18_61 : fet 18 61 = .ok (.bipush 59, 2) := by decide +kernel
theorem d18_63 : fet 18 63 = .ok (.invokevirtual 57, 3) := by decide +kernel
theorem d18_66 : fet 18 66 = .ok (.aload_n 1, 1) := by decide +kernel
theorem d18_67 : fet 18 67 = .ok (.iload_n 2, 1) := by decide +kernel
theorem d18_68 : fet 18 68 = .ok (.iload 4, 2) := by decide +kernel
theorem d18_70 : fet 18 70 = .ok (.invokevirtual 88, 3) := by decide +kernel
theorem d18_73 : fet 18 73 = .ok (.return_, 1) := by decide +kernel
theorem o19 : own 19 = RX4 := by decide +kernel
theorem d19_0 : fet 19 0 = .ok (.aload_n 1, 1) := by decide +kernel
theorem d19_1 : fet 19 1 = .ok (.getfield 91, 3) := by decide +kernel
theorem d19_4 : fet 19 4 = .ok (.iconst 4, 1) := by decide +kernel
theorem d19_5 : fet 19 5 = .ok (.if_icmp .lt 13, 3) := by decide +kernel
theorem d19_8 : fet 19 8 = .ok (.aload_n 0, 1) := by decide +kernel
theorem d19_9 : fet 19 9 = .ok (.iconst 3, 1) := by decide +kernel
theorem d19_10 : fet 19 10 = .ok (.aload_n 0, 1) := by decide +kernel
theorem d19_11 : fet 19 11 = .ok (.getfield 19, 3) := by decide +kernel
theorem d19_14 : fet 19 14 = .ok (.invokevirtual 53, 3) := by decide +kernel
theorem d19_17 : fet 19 17 = .ok (.return_, 1) := by decide +kernel
theorem d19_18 : fet 19 18 = .ok (.aload_n 0, 1) := by decide +kernel
theorem d19_19 : fet 19 19 = .ok (.bipush 101, 2) := by decide +kernel
theorem d19_21 : fet 19 21 = .ok (.invokevirtual 57, 3) := by decide +kernel
theorem d19_24 : fet 19 24 = .ok (.aload_n 0, 1) := by decide +kernel
theorem d19_25 : fet 19 25 = .ok (.invokevirtual 81, 3) := by decide +kernel
theorem d19_28 : fet 19 28 = .ok (.istore_n 2, 1) := by decide +kernel
theorem d19_29 : fet 19 29 = .ok (.aload_n 0, 1) := by decide +kernel
theorem d19_30 : fet 19 30 = .ok (.iconst 0, 1) := by decide +kernel
theorem d19_31 : fet 19 31 = .ok (.bipush 60, 2) := by decide +kernel
theorem d19_33 : fet 19 33 = .ok (.invokevirtual 61, 3) := by decide +kernel
theorem d19_36 : fet 19 36 = .ok (.istore_n 3, 1) := by decide +kernel
theorem d19_37 : fet 19 37 = .ok (.aload_n 0, 1) := by decide +kernel
theorem d19_38 : fet 19 38 = .ok (.bipush 59, 2) := by decide +kernel
theorem d19_40 : fet 19 40 = .ok (.invokevirtual 57, 3) := by decide +kernel
theorem d19_43 : fet 19 43 = .ok (.aload_n 1, 1) := by decide +kernel
theorem d19_44 : fet 19 44 = .ok (.iload_n 2, 1) := by decide +kernel
theorem d19_45 : fet 19 45 = .ok (.iload_n 3, 1) := by decide +kernel
theorem d19_46 : fet 19 46 = .ok (.invokevirtual 94, 3) := by decide +kernel
theorem d19_49 : fet 19 49 = .ok (.return_, 1) := by decide +kernel
theorem o20 : own 20 = RX4 := by decide +kernel
theorem d20_0 : fet 20 0 = .ok (.aload_n 0, 1) := by decide +kernel
theorem d20_1 : fet 20 1 = .ok (.getfield 19, 3) := by decide +kernel
theorem d20_4 : fet 20 4 = .ok (.aload_n 0, 1) := by decide +kernel
theorem d20_5 : fet 20 5 = .ok (.getfield 15, 3) := by decide +kernel
theorem d20_8 : fet 20 8 = .ok (.if_icmp .ge 15, 3) := by decide +kernel
theorem d20_11 : fet 20 11 = .ok (.aload_n 0, 1) := by decide +kernel
theorem d20_12 : fet 20 12 = .ok (.getfield 11, 3) := by decide +kernel
theorem d20_15 : fet 20 15 = .ok (.aload_n 0, 1) := by decide +kernel
theorem d20_16 : fet 20 16 = .ok (.getfield 19, 3) := by decide +kernel
theorem d20_19 : fet 20 19 = .ok (.iaload, 1) := by decide +kernel
theorem d20_20 : fet 20 20 = .ok (.goto 4, 3) := by decide +kernel
theorem d20_23 : fet 20 23 = .ok (.iconst (-1), 1) := by decide +kernel
theorem d20_24 : fet 20 24 = .ok (.ireturn, 1) := by decide +kernel
theorem o21 : own 21 = RX4 := by decide +kernel
theorem d21_0 : fet 21 0 = .ok (.aload_n 0, 1) := by decide +kernel
theorem d21_1 : fet 21 1 = .ok (.invokevirtual 35, 3) := by decide +kernel
theorem d21_4 : fet 21 4 = .ok (.iload_n 1, 1) := by decide +kernel
theorem d21_5 : fet 21 5 = .ok (.if_icmp .ne 16, 3) := by decide +kernel
theorem d21_8 : fet 21 8 = .ok (.aload_n 0, 1) := by decide +kernel
theorem d21_9 : fet 21 9 = .ok (.dup, 1) := by decide +kernel
theorem d21_10 : fet 21 10 = .ok (.getfield 19, 3) := by decide +kernel
theorem d21_13 : fet 21 13 = .ok (.iconst 1, 1) := by decide +kernel
theorem d21_14 : fet 21 14 = .ok (.iadd, 1) := by decide +kernel
theorem d21_15 : fet 21 15 = .ok (.putfield 19, 3) := by decide +kernel
theorem d21_18 : fet 21 18 = .ok (.goto 12, 3) := by decide +kernel
theorem d21_21 : fet 21 21 = .ok (.aload_n 0, 1) := by decide +kernel
theorem d21_22 : fet 21 22 = .ok (.iconst 1, 1) := by decide +kernel
theorem d21_23 : fet 21 23 = .ok (.aload_n 0, 1) := by decide +kernel
theorem d21_24 : fet 21 24 = .ok (.getfield 19, 3) := by decide +kernel
theorem d21_27 : fet 21 27 = .ok (.invokevirtual 53, 3) := by decide +kernel
theorem d21_30 : fet 21 30 = .ok (.return_, 1) := by decide +kernel
theorem o22 : own 22 = RX4 := by decide +kernel
theorem d22_0 : fet 22 0 = .ok (.aload_n 0, 1) := by decide +kernel
theorem d22_1 : fet 22 1 = .ok (.invokevirtual 35, 3) := by decide +kernel
theorem d22_4 : fet 22 4 = .ok (.invokestatic 42, 3) := by decide +kernel
theorem d22_7 : fet 22 7 = .ok (.istore_n 1, 1) := by decide +kernel
theorem d22_8 : fet 22 8 = .ok (.iload_n 1, 1) := by decide +kernel
theorem d22_9 : fet 22 9 = .ok (.ldc 46, 2) := by decide +kernel
theorem d22_11 : fet 22 11 = .ok (.if_icmp .ne 14, 3) := by decide +kernel
theorem d22_14 : fet 22 14 = .ok (.aload_n 0, 1) := by decide +kernel
theorem d22_15 : fet 22 15 = .ok (.iconst 1, 1) := by decide +kernel
theorem d22_16 : fet 22 16 = .ok (.aload_n 0, 1) := by decide +kernel
theorem d22_17 : fet 22 17 = .ok (.getfield 19, 3) := by decide +kernel
theorem d22_20 : fet 22 20 = .ok (.invokevirtual 53, 3) := by decide +kernel
theorem d22_23 : fet 22 23 = .ok (.iconst 0, 1) := by decide +kernel
theorem d22_24 : fet 22 24 = .ok (.ireturn, 1) := by decide +kernel
theorem d22_25 : fet 22 25 = .ok (.aload_n 0, 1) := by decide +kernel
theorem d22_26 : fet 22 26 = .ok (.dup, 1) := by decide +kernel
theorem d22_27 : fet 22 27 = .ok (.getfield 19, 3) := by decide +kernel
theorem d22_30 : fet 22 30 = .ok (.iconst 1, 1) := by decide +kernel
theorem d22_31 : fet 22 31 = .ok (.iadd, 1) := by decide +kernel
theorem d22_32 : fet 22 32 = .ok (.putfield 19, 3) := by decide +kernel
theorem d22_35 : fet 22 35 = .ok (.iload_n 1, 1) := by decide +kernel
theorem d22_36 : fet 22 36 = .ok (.ireturn, 1) := by decide +kernel
theorem o23 : own 23 = RX4 := by decide +kernel
theorem d23_0 : fet 23 0 = .ok (.aload_n 0, 1) := by decide +kernel
theorem d23_1 : fet 23 1 = .ok (.getfield 19, 3) := by decide +kernel
theorem d23_4 : fet 23 4 = .ok (.istore_n 3, 1) := by decide +kernel
theorem d23_5 : fet 23 5 = .ok (.iconst 0, 1) := by decide +kernel
theorem d23_6 : fet 23 6 = .ok (.istore 4, 2) := by decide +kernel
theorem d23_8 : fet 23 8 = .ok (.iconst 0, 1) := by decide +kernel
theorem d23_9 : fet 23 9 = .ok (.istore 5, 2) := by decide +kernel
theorem d23_11 : fet 23 11 = .ok (.iload 5, 2) := by decide +kernel
theorem d23_13 : fet 23 13 = .ok (.iconst 3, 1) := by decide +kernel
theorem d23_14 : fet 23 14 = .ok (.if_icmp .ge 44, 3) := by decide +kernel
theorem d23_17 : fet 23 17 = .ok (.aload_n 0, 1) := by decide +kernel
theorem d23_18 : fet 23 18 = .ok (.invokevirtual 35, 3) := by decide +kernel
theorem d23_21 : fet 23 21 = .ok (.invokestatic 97, 3) := by decide +kernel
theorem d23_24 : fet 23 24 = .ok (.ifCond .eq 34, 3) := by decide +kernel
theorem d23_27 : fet 23 27 = .ok (.iload 4, 2) := by decide +kernel
theorem d23_29 : fet 23 29 = .ok (.bipush 10, 2) := by decide +kernel
theorem d23_31 : fet 23 31 = .ok (.imul, 1) := by decide +kernel
theorem d23_32 : fet 23 32 = .ok (.aload_n 0, 1) := by decide +kernel
theorem d23_33 : fet 23 33 = .ok (.invokevirtual 35, 3) := by decide +kernel
theorem d23_36 : fet 23 36 = .ok (.iadd, 1) := by decide +kernel
theorem d23_37 : fet 23 37 = .ok (.bipush 48, 2) := by decide +kernel
theorem d23_39 : fet 23 39 = .ok (.isub, 1) := by decide +kernel
theorem d23_40 : fet 23 40 = .ok (.istore 4, 2) := by decide +kernel
theorem d23_42 : fet 23 42 = .ok (.aload_n 0, 1) := by decide +kernel
theorem d23_43 : fet 23 43 = .ok (.dup, 1) := by decide +kernel
theorem d23_44 : fet 23 44 = .ok (.getfield 19, 3) := by decide +kernel
theorem d23_47 : fet 23 47 = .ok (.iconst 1, 1) := by decide +kernel
theorem d23_48 : fet 23 48 = .ok (.iadd, 1) := by decide +kernel
theorem d23_49 : fet 23 49 = .ok (.putfield 19, 3) := by decide +kernel
theorem d23_52 : fet 23 52 = .ok (.iinc 5 1, 3) := by decide +kernel
theorem d23_55 : fet 23 55 = .ok (.goto (-44), 3) := by decide +kernel
theorem d23_58 : fet 23 58 = .ok (.aload_n 0, 1) := by decide +kernel
theorem d23_59 : fet 23 59 = .ok (.getfield 19, 3) := by decide +kernel
theorem d23_62 : fet 23 62 = .ok (.iload_n 3, 1) := by decide +kernel
theorem d23_63 : fet 23 63 = .ok (.isub, 1) := by decide +kernel
theorem d23_64 : fet 23 64 = .ok (.istore 5, 2) := by decide +kernel
theorem d23_66 : fet 23 66 = .ok (.iload 5, 2) := by decide +kernel
theorem d23_68 : fet 23 68 = .ok (.iconst 1, 1) := by decide +kernel
theorem d23_69 : fet 23 69 = .ok (.if_icmp .lt 9, 3) := by decide +kernel
theorem d23_72 : fet 23 72 = .ok (.iload 5, 2) := by decide +kernel
theorem d23_74 : fet 23 74 = .ok (.iconst 2, 1) := by decide +kernel
theorem d23_75 : fet 23 75 = .ok (.if_icmp .le 12, 3) := by decide +kernel
theorem d23_78 : fet 23 78 = .ok (.aload_n 0, 1) := by decide +kernel
theorem d23_79 : fet 23 79 = .ok (.iconst 1, 1) := by decide +kernel
theorem d23_80 : fet 23 80 = .ok (.iload_n 3, 1) := by decide +kernel
theorem d23_81 : fet 23 81 = .ok (.invokevirtual 53, 3) := by decide +kernel
theorem d23_84 : fet 23 84 = .ok (.goto 21, 3) := by decide +kernel
theorem d23_87 : fet 23 87 = .ok (.iload 4, 2) := by decide +kernel
theorem d23_89 : fet 23 89 = .ok (.iload_n 1, 1) := by decide +kernel
theorem d23_90 : fet 23 90 = .ok (.if_icmp .lt 9, 3) := by decide +kernel
theorem d23_93 : fet 23 93 = .ok (.iload 4, 2) := by decide +kernel
theorem d23_95 : fet 23 95 = .ok (.iload_n 2, 1) := by decide +kernel
theorem d23_96 : fet 23 96 = .ok (.if_icmp .le 9, 3) := by decide +kernel
theorem d23_99 : fet 23 99 = .ok (.aload_n 0, 1) := by decide +kernel
theorem d23_100 : fet 23 100 = .ok (.iconst 2, 1) := by decide +kernel
theorem d23_101 : fet 23 101 = .ok (.iload_n 3, 1) := by decide +kernel
theorem d23_102 : fet 23 102 = .ok (.invokevirtual 53, 3) := by decide +kernel
theorem d23_105 : fet 23 105 = .ok (.iload 4, 2) := by decide +kernel
theorem d23_107 : fet 23 107 = .ok (.ireturn, 1) := by decide +kernel
theorem o24 : own 24 = RX4 := by decide +kernel
theorem d24_0 : fet 24 0 = .ok (.aload_n 0, 1) := by decide +kernel
theorem d24_1 : fet 24 1 = .ok (.getfield 22, 3) := by decide +kernel
theorem d24_4 : fet 24 4 = .ok (.ifCond .ne 18, 3) := by decide +kernel
theorem d24_7 : fet 24 7 = .ok (.aload_n 0, 1) := by decide +kernel
theorem d24_8 : fet 24 8 = .ok (.iconst 1, 1) := by decide +kernel
theorem d24_9 : fet 24 9 = .ok (.putfield 22, 3) := by decide +kernel
theorem d24_12 : fet 24 12 = .ok (.aload_n 0, 1) := by decide +kernel
theorem d24_13 : fet 24 13 = .ok (.iload_n 1, 1) := by decide +kernel
theorem d24_14 : fet 24 14 = .ok (.putfield 101, 3) := by decide +kernel
theorem d24_17 : fet 24 17 = .ok (.aload_n 0, 1) := by decide +kernel
theorem d24_18 : fet 24 18 = .ok (.iload_n 2, 1) := by decide +kernel
theorem d24_19 : fet 24 19 = .ok (.putfield 104, 3) := by decide +kernel
theorem d24_22 : fet 24 22 = .ok (.return_, 1) := by decide +kernel
theorem o25 : own 25 = RX4 := by decide +kernel
theorem d25_0 : fet 25 0 = .ok (.iload_n 0, 1) := by decide +kernel
theorem d25_1 : fet 25 1 = .ok (.bipush 48, 2) := by decide +kernel
theorem d25_3 : fet 25 3 = .ok (.if_icmp .lt 13, 3) := by decide +kernel
theorem d25_6 : fet 25 6 = .ok (.iload_n 0, 1) := by decide +kernel
theorem d25_7 : fet 25 7 = .ok (.bipush 57, 2) := by decide +kernel
theorem d25_9 : fet 25 9 = .ok (.if_icmp .gt 7, 3) := by decide +kernel
theorem d25_12 : fet 25 12 = .ok (.iconst 1, 1) := by decide +kernel
theorem d25_13 : fet 25 13 = .ok (.goto 4, 3) := by decide +kernel
theorem d25_16 : fet 25 16 = .ok (.iconst 0, 1) := by decide +kernel
theorem d25_17 : fet 25 17 = .ok (.ireturn, 1) := by decide +kernel
theorem o26 : own 26 = RX4 := by decide +kernel
theorem d26_0 : fet 26 0 = .ok (.iload_n 0, 1) := by decide +kernel
theorem d26_1 : fet 26 1 = .ok (.lookupswitch 61 #[(100, 55), (104, 57), (107, 53), (109, 59), (119, 51)], 51) := by decide +kernel
theorem d26_52 : fet 26 52 = .ok (.iconst 1, 1) := by decide +kernel
theorem d26_53 : fet 26 53 = .ok (.ireturn, 1) := by decide +kernel
theorem d26_54 : fet 26 54 = .ok (.iconst 2, 1) := by decide +kernel
theorem d26_55 : fet 26 55 = .ok (.ireturn, 1) := by decide +kernel
theorem d26_56 : fet 26 56 = .ok (.iconst 3, 1) := by decide +kernel
theorem d26_57 : fet 26 57 = .ok (.ireturn, 1) := by decide +kernel
theorem d26_58 : fet 26 58 = .ok (.iconst 4, 1) := by decide +kernel
theorem d26_59 : fet 26 59 = .ok (.ireturn, 1) := by decide +kernel
theorem d26_60 : fet 26 60 = .ok (.iconst 5, 1) := by decide +kernel
theorem d26_61 : fet 26 61 = .ok (.ireturn, 1) := by decide +kernel
theorem d26_62 : fet 26 62 = .ok (.ldc 46, 2) := by decide +kernel
theorem d26_64 : fet 26 64 = .ok (.ireturn, 1) := by decide +kernel
theorem o27 : own 27 = RX5 := by decide +kernel
theorem d27_0 : fet 27 0 = .ok (.aload_n 0, 1) := by decide +kernel
theorem d27_1 : fet 27 1 = .ok (.invokespecial 1, 3) := by decide +kernel
theorem d27_4 : fet 27 4 = .ok (.aload_n 0, 1) := by decide +kernel
theorem d27_5 : fet 27 5 = .ok (.sipush 320, 3) := by decide +kernel
theorem d27_8 : fet 27 8 = .ok (.newarray .int, 2) := by decide +kernel
theorem d27_10 : fet 27 10 = .ok (.putfield 9, 3) := by decide +kernel
theorem d27_13 : fet 27 13 = .ok (.aload_n 0, 1) := by decide +kernel
theorem d27_14 : fet 27 14 = .ok (.bipush 8, 2) := by decide +kernel
theorem d27_16 : fet 27 16 = .ok (.newarray .int, 2) := by decide +kernel
theorem d27_18 : fet 27 18 = .ok (.putfield 13, 3) := by decide +kernel
theorem d27_21 : fet 27 21 = .ok (.aload_n 0, 1) := by decide +kernel
theorem d27_22 : fet 27 22 = .ok (.bipush 8, 2) := by decide +kernel
theorem d27_24 : fet 27 24 = .ok (.newarray .int, 2) := by decide +kernel
theorem d27_26 : fet 27 26 = .ok (.putfield 16, 3) := by decide +kernel
theorem d27_29 : fet 27 29 = .ok (.iconst 0, 1) := by decide +kernel
theorem d27_30 : fet 27 30 = .ok (.istore_n 1, 1) := by decide +kernel
theorem d27_31 : fet 27 31 = .ok (.iload_n 1, 1) := by decide +kernel
theorem d27_32 : fet 27 32 = .ok (.bipush 8, 2) := by decide +kernel
theorem d27_34 : fet 27 34 = .ok (.if_icmp .ge 16, 3) := by decide +kernel
theorem d27_37 : fet 27 37 = .ok (.aload_n 0, 1) := by decide +kernel
theorem d27_38 : fet 27 38 = .ok (.getfield 13, 3) := by decide +kernel
theorem d27_41 : fet 27 41 = .ok (.iload_n 1, 1) := by decide +kernel
theorem d27_42 : fet 27 42 = .ok (.iconst (-1), 1) := by decide +kernel
theorem d27_43 : fet 27 43 = .ok (.iastore, 1) := by decide +kernel
theorem d27_44 : fet 27 44 = .ok (.iinc 1 1, 3) := by decide +kernel
theorem d27_47 : fet 27 47 = .ok (.goto (-16), 3) := by decide +kernel
theorem d27_50 : fet 27 50 = .ok (.return_, 1) := by decide +kernel
theorem o28 : own 28 = RX5 := by decide +kernel
theorem d28_0 : fet 28 0 = .ok (.iload_n 1, 1) := by decide +kernel
theorem d28_1 : fet 28 1 = .ok (.ifCond .lt 13, 3) := by decide +kernel
theorem d28_4 : fet 28 4 = .ok (.iload_n 1, 1) := by decide +kernel
theorem d28_5 : fet 28 5 = .ok (.bipush 8, 2) := by decide +kernel
theorem d28_7 : fet 28 7 = .ok (.if_icmp .ge 7, 3) := by decide +kernel
theorem d28_10 : fet 28 10 = .ok (.iconst 1, 1) := by decide +kernel
theorem d28_11 : fet 28 11 = .ok (.goto 4, 3) := by decide +kernel
theorem d28_14 : fet 28 14 = .ok (.iconst 0, 1) := by decide +kernel
theorem d28_15 : fet 28 15 = .ok (.ireturn, 1) := by decide +kernel
theorem o29 : own 29 = RX5 := by decide +kernel
theorem d29_0 : fet 29 0 = .ok (.aload_n 0, 1) := by decide +kernel
theorem d29_1 : fet 29 1 = .ok (.getfield 13, 3) := by decide +kernel
theorem d29_4 : fet 29 4 = .ok (.iload_n 1, 1) := by decide +kernel
theorem d29_5 : fet 29 5 = .ok (.iaload, 1) := by decide +kernel
theorem d29_6 : fet 29 6 = .ok (.iconst (-1), 1) := by decide +kernel
theorem d29_7 : fet 29 7 = .ok (.if_icmp .ne 7, 3) := by decide +kernel
theorem d29_10 : fet 29 10 = .ok (.iconst 1, 1) := by decide +kernel
theorem d29_11 : fet 29 11 = .ok (.goto 4, 3) := by decide +kernel
theorem d29_14 : fet 29 14 = .ok (.iconst 0, 1) := by decide +kernel
theorem d29_15 : fet 29 15 = .ok (.ireturn, 1) := by decide +kernel
theorem o30 : own 30 = RX5 := by decide +kernel
theorem d30_0 : fet 30 0 = .ok (.aload_n 0, 1) := by decide +kernel
theorem d30_1 : fet 30 1 = .ok (.getfield 13, 3) := by decide +kernel
theorem d30_4 : fet 30 4 = .ok (.iload_n 1, 1) := by decide +kernel
theorem d30_5 : fet 30 5 = .ok (.iaload, 1) := by decide +kernel
theorem d30_6 : fet 30 6 = .ok (.aload_n 0, 1) := by decide +kernel
theorem d30_7 : fet 30 7 = .ok (.getfield 13, 3) := by decide +kernel
theorem d30_10 : fet 30 10 = .ok (.iload_n 2, 1) := by decide +kernel
theorem d30_11 : fet 30 11 = .ok (.iaload, 1) := by decide +kernel
theorem d30_12 : fet 30 12 = .ok (.if_icmp .ne 7, 3) := by decide +kernel
theorem d30_15 : fet 30 15 = .ok (.iconst 1, 1) := by decide +kernel
theorem d30_16 : fet 30 16 = .ok (.goto 4, 3) := by decide +kernel
theorem d30_19 : fet 30 19 = .ok (.iconst 0, 1) := by decide +kernel
theorem d30_20 : fet 30 20 = .ok (.ireturn, 1) := by decide +kernel
theorem o31 : own 31 = RX5 := by decide +kernel
theorem d31_0 : fet 31 0 = .ok (.iload_n 2, 1) := by decide +kernel
theorem d31_1 : fet 31 1 = .ok (.ifCond .lt 33, 3) := by decide +kernel
theorem d31_4 : fet 31 4 = .ok (.iload_n 3, 1) := by decide +kernel
theorem d31_5 : fet 31 5 = .ok (.ifCond .lt 29, 3) := by decide +kernel
theorem d31_8 : fet 31 8 = .ok (.iload_n 3, 1) := by decide +kernel
theorem d31_9 : fet 31 9 = .ok (.aload_n 0, 1) := by decide +kernel
theorem d31_10 : fet 31 10 = .ok (.getfield 16, 3) := by decide +kernel
theorem d31_13 : fet 31 13 = .ok (.iload_n 1, 1) := by decide +kernel
theorem d31_14 : fet 31 14 = .ok (.iaload, 1) := by decide +kernel
theorem d31_15 : fet 31 15 = .ok (.if_icmp .gt 19, 3) := by decide +kernel
theorem d31_18 : fet 31 18 = .ok (.iload_n 2, 1) := by decide +kernel
theorem d31_19 : fet 31 19 = .ok (.aload_n 0, 1) := by decide +kernel
theorem d31_20 : fet 31 20 = .ok (.getfield 16, 3) := by decide +kernel
theorem d31_23 : fet 31 23 = .ok (.iload_n 1, 1) := by decide +kernel
theorem d31_24 : fet 31 24 = .ok (.iaload, 1) := by decide +kernel
theorem d31_25 : fet 31 25 = .ok (.iload_n 3, 1) := by decide +kernel
theorem d31_26 : fet 31 26 = .ok (.isub, 1) := by decide +kernel
theorem d31_27 : fet 31 27 = .ok (.if_icmp .gt 7, 3) := by decide +kernel
theorem d31_30 : fet 31 30 = .ok (.iconst 1, 1) := by decide +kernel
theorem d31_31 : fet 31 31 = .ok (.goto 4, 3) := by decide +kernel
theorem d31_34 : fet 31 34 = .ok (.iconst 0, 1) := by decide +kernel
theorem d31_35 : fet 31 35 = .ok (.ireturn, 1) := by decide +kernel
theorem o32 : own 32 = RX5 := by decide +kernel
theorem d32_0 : fet 32 0 = .ok (.aload_n 0, 1) := by decide +kernel
theorem d32_1 : fet 32 1 = .ok (.getfield 13, 3) := by decide +kernel
theorem d32_4 : fet 32 4 = .ok (.iload_n 1, 1) := by decide +kernel
theorem d32_5 : fet 32 5 = .ok (.iload_n 2, 1) := by decide +kernel
theorem d32_6 : fet 32 6 = .ok (.iastore, 1) := by decide +kernel
theorem d32_7 : fet 32 7 = .ok (.aload_n 0, 1) := by decide +kernel
theorem d32_8 : fet 32 8 = .ok (.getfield 16, 3) := by decide +kernel
theorem d32_11 : fet 32 11 = .ok (.iload_n 1, 1) := by decide +kernel
theorem d32_12 : fet 32 12 = .ok (.iload_n 3, 1) := by decide +kernel
theorem d32_13 : fet 32 13 = .ok (.iastore, 1) := by decide +kernel
theorem d32_14 : fet 32 14 = .ok (.iconst 0, 1) := by decide +kernel
theorem d32_15 : fet 32 15 = .ok (.istore 4, 2) := by decide +kernel
theorem d32_17 : fet 32 17 = .ok (.iload 4, 2) := by decide +kernel
theorem d32_19 : fet 32 19 = .ok (.iload_n 3, 1) := by decide +kernel
theorem d32_20 : fet 32 20 = .ok (.if_icmp .ge 22, 3) := by decide +kernel
theorem d32_23 : fet 32 23 = .ok (.aload_n 0, 1) := by decide +kernel
theorem d32_24 : fet 32 24 = .ok (.getfield 9, 3) := by decide +kernel
theorem d32_27 : fet 32 27 = .ok (.iload_n 1, 1) := by decide +kernel
theorem d32_28 : fet 32 28 = .ok (.bipush 40, 2) := by decide +kernel
theorem d32_30 : fet 32 30 = .ok (.imul, 1) := by decide +kernel
theorem d32_31 : fet 32 31 = .ok (.iload 4, 2) := by decide +kernel
theorem d32_33 : fet 32 33 = .ok (.iadd, 1) := by decide +kernel
theorem d32_34 : fet 32 34 = .ok (.iconst 0, 1) := by decide +kernel
theorem d32_35 : fet 32 35 = .ok (.iastore, 1) := by decide +kernel
theorem d32_36 : fet 32 36 = .ok (.iinc 4 1, 3) := by decide +kernel
theorem d32_39 : fet 32 39 = .ok (.goto (-22), 3) := by decide +kernel
theorem d32_42 : fet 32 42 = .ok (.return_, 1) := by decide +kernel
theorem o33 : own 33 = RX5 := by decide +kernel
theorem d33_0 : fet 33 0 = .ok (.aload_n 0, 1) := by decide +kernel
theorem d33_1 : fet 33 1 = .ok (.getfield 9, 3) := by decide +kernel
theorem d33_4 : fet 33 4 = .ok (.iload_n 1, 1) := by decide +kernel
theorem d33_5 : fet 33 5 = .ok (.bipush 40, 2) := by decide +kernel
theorem d33_7 : fet 33 7 = .ok (.imul, 1) := by decide +kernel
theorem d33_8 : fet 33 8 = .ok (.iload_n 2, 1) := by decide +kernel
theorem d33_9 : fet 33 9 = .ok (.iadd, 1) := by decide +kernel
theorem d33_10 : fet 33 10 = .ok (.iaload, 1) := by decide +kernel
theorem d33_11 : fet 33 11 = .ok (.ireturn, 1) := by decide +kernel
theorem o34 : own 34 = RX5 := by decide +kernel
theorem d34_0 : fet 34 0 = .ok (.aload_n 0, 1) := by decide +kernel
theorem d34_1 : fet 34 1 = .ok (.getfield 13, 3) := by decide +kernel
theorem d34_4 : fet 34 4 = .ok (.iload_n 1, 1) := by decide +kernel
theorem d34_5 : fet 34 5 = .ok (.iaload, 1) := by decide +kernel
theorem d34_6 : fet 34 6 = .ok (.ifCond .ne 8, 3) := by decide +kernel
theorem d34_9 : fet 34 9 = .ok (.iload_n 3, 1) := by decide +kernel
theorem d34_10 : fet 34 10 = .ok (.i2b, 1) := by decide +kernel
theorem d34_11 : fet 34 11 = .ok (.goto 19, 3) := by decide +kernel
theorem d34_14 : fet 34 14 = .ok (.aload_n 0, 1) := by decide +kernel
theorem d34_15 : fet 34 15 = .ok (.getfield 13, 3) := by decide +kernel
theorem d34_18 : fet 34 18 = .ok (.iload_n 1, 1) := by decide +kernel
theorem d34_19 : fet 34 19 = .ok (.iaload, 1) := by decide +kernel
theorem d34_20 : fet 34 20 = .ok (.iconst 1, 1) := by decide +kernel
theorem d34_21 : fet 34 21 = .ok (.if_icmp .ne 8, 3) := by decide +kernel
theorem d34_24 : fet 34 24 = .ok (.iload_n 3, 1) := by decide +kernel
theorem d34_25 : fet 34 25 = .ok (.i2s, 1) := by decide +kernel
theorem d34_26 : fet 34 26 = .ok (.goto 4, 3) := by decide +kernel
theorem d34_29 : fet 34 29 = .ok (.iload_n 3, 1) := by decide +kernel
theorem d34_30 : fet 34 30 = .ok (.istore 4, 2) := by decide +kernel
theorem d34_32 : fet 34 32 = .ok (.aload_n 0, 1) := by decide +kernel
theorem d34_33 : fet 34 33 = .ok (.getfield 9, 3) := by decide +kernel
theorem d34_36 : fet 34 36 = .ok (.iload_n 1, 1) := by decide +kernel
theorem d34_37 : fet 34 37 = .ok (.bipush 40, 2) := by decide +kernel
theorem d34_39 : fet 34 39 = .ok (.imul, 1) := by decide +kernel
theorem d34_40 : fet 34 40 = .ok (.iload_n 2, 1) := by decide +kernel
theorem d34_41 : fet 34 41 = .ok (.iadd, 1) := by decide +kernel
theorem d34_42 : fet 34 42 = .ok (.iload 4, 2) := by decide +kernel
theorem d34_44 : fet 34 44 = .ok (.iastore, 1) := by decide +kernel
theorem d34_45 : fet 34 45 = .ok (.iload 4, 2) := by decide +kernel
theorem d34_47 : fet 34 47 = .ok (.ireturn, 1) := by decide +kernel
theorem o35 : own 35 = RX5 := by decide +kernel
theorem d35_0 : fet 35 0 = .ok (.aload_n 0, 1) := by decide +kernel
theorem d35_1 : fet 35 1 = .ok (.getfield 9, 3) := by decide +kernel
theorem d35_4 : fet 35 4 = .ok (.iload_n 1, 1) := by decide +kernel
theorem d35_5 : fet 35 5 = .ok (.bipush 40, 2) := by decide +kernel
theorem d35_7 : fet 35 7 = .ok (.imul, 1) := by decide +kernel
theorem d35_8 : fet 35 8 = .ok (.iload_n 2, 1) := by decide +kernel
theorem d35_9 : fet 35 9 = .ok (.iadd, 1) := by decide +kernel
theorem d35_10 : fet 35 10 = .ok (.aload_n 0, 1) := by decide +kernel
theorem d35_11 : fet 35 11 = .ok (.getfield 9, 3) := by decide +kernel
theorem d35_14 : fet 35 14 = .ok (.iload_n 3, 1) := by decide +kernel
theorem d35_15 : fet 35 15 = .ok (.bipush 40, 2) := by decide +kernel
theorem d35_17 : fet 35 17 = .ok (.imul, 1) := by decide +kernel
theorem d35_18 : fet 35 18 = .ok (.iload 4, 2) := by decide +kernel
theorem d35_20 : fet 35 20 = .ok (.iadd, 1) := by decide +kernel
theorem d35_21 : fet 35 21 = .ok (.iload 5, 2) := by decide +kernel
theorem d35_23 : fet 35 23 = .ok (.invokestatic 19, 3) := by decide +kernel
theorem d35_26 : fet 35 26 = .ok (.return_, 1) := by decide +kernel
theorem o36 : own 36 = RX5 := by decide +kernel
theorem d36_0 : fet 36 0 = .ok (.aload_n 0, 1) := by decide +kernel
theorem d36_1 : fet 36 1 = .ok (.getfield 13, 3) := by decide +kernel
theorem d36_4 : fet 36 4 = .ok (.iload_n 1, 1) := by decide +kernel
theorem d36_5 : fet 36 5 = .ok (.iconst (-1), 1) := by decide +kernel
theorem d36_6 : fet 36 6 = .ok (.iastore, 1) := by decide +kernel
theorem d36_7 : fet 36 7 = .ok (.aload_n 0, 1) := by decide +kernel
theorem d36_8 : fet 36 8 = .ok (.getfield 16, 3) := by decide +kernel
theorem d36_11 : fet 36 11 = .ok (.iload_n 1, 1) := by decide +kernel
theorem d36_12 : fet 36 12 = .ok (.iaload, 1) := by decide +kernel
theorem d36_13 : fet 36 13 = .ok (.ireturn, 1) := by decide +kernel
theorem o37 : own 37 = RX5 := by decide +kernel
theorem d37_0 : fet 37 0 = .ok (.iconst 0, 1) := by decide +kernel
theorem d37_1 : fet 37 1 = .ok (.istore_n 1, 1) := by decide +kernel
theorem d37_2 : fet 37 2 = .ok (.iconst 0, 1) := by decide +kernel
theorem d37_3 : fet 37 3 = .ok (.istore_n 2, 1) := by decide +kernel
theorem d37_4 : fet 37 4 = .ok (.iload_n 2, 1) := by decide +kernel
theorem d37_5 : fet 37 5 = .ok (.bipush 8, 2) := by decide +kernel
theorem d37_7 : fet 37 7 = .ok (.if_icmp .ge 28, 3) := by decide +kernel
theorem d37_10 : fet 37 10 = .ok (.iload_n 1, 1) := by decide +kernel
theorem d37_11 : fet 37 11 = .ok (.aload_n 0, 1) := by decide +kernel
theorem d37_12 : fet 37 12 = .ok (.iload_n 2, 1) := by decide +kernel
theorem d37_13 : fet 37 13 = .ok (.invokevirtual 25, 3) := by decide +kernel
theorem d37_16 : fet 37 16 = .ok (.ifCond .ne 7, 3) := by decide +kernel
theorem d37_19 : fet 37 19 = .ok (.iconst 1, 1) := by decide +kernel
theorem d37_20 : fet 37 20 = .ok (.goto 4, 3) := by decide +kernel
theorem d37_23 : fet 37 23 = .ok (.iconst 0, 1) := by decide +kernel
theorem d37_24 : fet 37 24 = .ok (.invokestatic 29, 3) := by decide +kernel
theorem d37_27 : fet 37 27 = .ok (.iadd, 1) := by decide +kernel
theorem d37_28 : fet 37 28 = .ok (.istore_n 1, 1) := by decide +kernel
theorem d37_29 : fet 37 29 = .ok (.iinc 2 1, 3) := by decide +kernel
theorem d37_32 : fet 37 32 = .ok (.goto (-28), 3) := by decide +kernel
theorem d37_35 : fet 37 35 = .ok (.iload_n 1, 1) := by decide +kernel
theorem d37_36 : fet 37 36 = .ok (.ireturn, 1) := by decide +kernel
theorem o38 : own 38 = RX6 := by decide +kernel
theorem d38_0 : fet 38 0 = .ok (.aload_n 0, 1) := by decide +kernel
theorem d38_1 : fet 38 1 = .ok (.iload_n 1, 1) := by decide +kernel
theorem d38_2 : fet 38 2 = .ok (.iload_n 2, 1) := by decide +kernel
theorem d38_3 : fet 38 3 = .ok (.iload_n 3, 1) := by decide +kernel
theorem d38_4 : fet 38 4 = .ok (.iload 4, 2) := by decide +kernel
theorem d38_6 : fet 38 6 = .ok (.invokespecial 1, 3) := by decide +kernel
theorem d38_9 : fet 38 9 = .ok (.return_, 1) := by decide +kernel
theorem o39 : own 39 = RX6 := by decide +kernel
theorem d39_0 : fet 39 0 = .ok (.iconst 1, 1) := by decide +kernel
theorem d39_1 : fet 39 1 = .ok (.ireturn, 1) := by decide +kernel
theorem o40 : own 40 = RX6 := by decide +kernel
theorem d40_0 : fet 40 0 = .ok (.aload_n 2, 1) := by decide +kernel
theorem d40_1 : fet 40 1 = .ok (.bipush 11, 2) := by decide +kernel
theorem d40_3 : fet 40 3 = .ok (.invokevirtual 7, 3) := by decide +kernel
theorem d40_6 : fet 40 6 = .ok (.aload_n 0, 1) := by decide +kernel
theorem d40_7 : fet 40 7 = .ok (.aload_n 1, 1) := by decide +kernel
theorem d40_8 : fet 40 8 = .ok (.aload_n 2, 1) := by decide +kernel
theorem d40_9 : fet 40 9 = .ok (.invokespecial 13, 3) := by decide +kernel
theorem d40_12 : fet 40 12 = .ok (.aload_n 0, 1) := by decide +kernel
theorem d40_13 : fet 40 13 = .ok (.aload_n 1, 1) := by decide +kernel
theorem d40_14 : fet 40 14 = .ok (.aload_n 2, 1) := by decide +kernel
theorem d40_15 : fet 40 15 = .ok (.invokevirtual 17, 3) := by decide +kernel
theorem d40_18 : fet 40 18 = .ok (.iadd, 1) := by decide +kernel
theorem d40_19 : fet 40 19 = .ok (.ireturn, 1) := by decide +kernel
theorem o41 : own 41 = RX6 := by decide +kernel
theorem d41_0 : fet 41 0 = .ok (.aload_n 2, 1) := by decide +kernel
theorem d41_1 : fet 41 1 = .ok (.bipush 21, 2) := by decide +kernel
theorem d41_3 : fet 41 3 = .ok (.invokevirtual 7, 3) := by decide +kernel
theorem d41_6 : fet 41 6 = .ok (.aload_n 0, 1) := by decide +kernel
theorem d41_7 : fet 41 7 = .ok (.aload_n 1, 1) := by decide +kernel
theorem d41_8 : fet 41 8 = .ok (.aload_n 2, 1) := by decide +kernel
theorem d41_9 : fet 41 9 = .ok (.invokespecial 22, 3) := by decide +kernel
theorem d41_12 : fet 41 12 = .ok (.aload_n 1, 1) := by decide +kernel
theorem d41_13 : fet 41 13 = .ok (.getfield 23, 3) := by decide +kernel
theorem d41_16 : fet 41 16 = .ok (.iadd, 1) := by decide +kernel
theorem d41_17 : fet 41 17 = .ok (.ireturn, 1) := by decide +kernel
theorem o42 : own 42 = RX7 := by decide +kernel
theorem d42_0 : fet 42 0 = .ok (.aload_n 0, 1) := by decide +kernel
theorem d42_1 : fet 42 1 = .ok (.iload_n 1, 1) := by decide +kernel
theorem d42_2 : fet 42 2 = .ok (.iload_n 2, 1) := by decide +kernel
theorem d42_3 : fet 42 3 = .ok (.iload_n 3, 1) := by decide +kernel
theorem d42_4 : fet 42 4 = .ok (.iload 4, 2) := by decide +kernel
theorem d42_6 : fet 42 6 = .ok (.invokespecial 1, 3) := by decide +kernel
theorem d42_9 : fet 42 9 = .ok (.return_, 1) := by decide +kernel
theorem o43 : own 43 = RX7 := by decide +kernel
theorem d43_0 : fet 43 0 = .ok (.aload_n 2, 1) := by decide +kernel
theorem d43_1 : fet 43 1 = .ok (.bipush 22, 2) := by decide +kernel
theorem d43_3 : fet 43 3 = .ok (.invokevirtual 7, 3) := by decide +kernel
theorem d43_6 : fet 43 6 = .ok (.aload_n 0, 1) := by decide +kernel
theorem d43_7 : fet 43 7 = .ok (.aload_n 1, 1) := by decide +kernel
theorem d43_8 : fet 43 8 = .ok (.aload_n 2, 1) := by decide +kernel
theorem d43_9 : fet 43 9 = .ok (.invokespecial 13, 3) := by decide +kernel
theorem d43_12 : fet 43 12 = .ok (.sipush 1000, 3) := by decide +kernel
theorem d43_15 : fet 43 15 = .ok (.isub, 1) := by decide +kernel
theorem d43_16 : fet 43 16 = .ok (.ireturn, 1) := by decide +kernel
theorem o44 : own 44 = RX8 := by decide +kernel
theorem d44_0 : fet 44 0 = .ok (.aload_n 0, 1) := by decide +kernel
theorem d44_1 : fet 44 1 = .ok (.invokespecial 3, 3) := by decide +kernel
theorem d44_4 : fet 44 4 = .ok (.aload_n 0, 1) := by decide +kernel
theorem d44_5 : fet 44 5 = .ok (.iload_n 1, 1) := by decide +kernel
theorem d44_6 : fet 44 6 = .ok (.putfield 9, 3) := by decide +kernel
theorem d44_9 : fet 44 9 = .ok (.aload_n 0, 1) := by decide +kernel
theorem d44_10 : fet 44 10 = .ok (.aload_n 2, 1) := by decide +kernel
theorem d44_11 : fet 44 11 = .ok (.putfield 15, 3) := by decide +kernel
theorem d44_14 : fet 44 14 = .ok (.return_, 1) := by decide +kernel
theorem o45 : own 45 = RX8 := by decide +kernel
theorem d45_0 : fet 45 0 = .ok (.aload_n 0, 1) := by decide +kernel
theorem d45_1 : fet 45 1 = .ok (.aload_n 1, 1) := by decide +kernel
theorem d45_2 : fet 45 2 = .ok (.putfield 15, 3) := by decide +kernel
theorem d45_5 : fet 45 5 = .ok (.aload_n 0, 1) := by decide +kernel
theorem d45_6 : fet 45 6 = .ok (.iload_n 2, 1) := by decide +kernel
theorem d45_7 : fet 45 7 = .ok (.putfield 19, 3) := by decide +kernel
theorem d45_10 : fet 45 10 = .ok (.aload_n 0, 1) := by decide +kernel
theorem d45_11 : fet 45 11 = .ok (.iconst 0, 1) := by decide +kernel
theorem d45_12 : fet 45 12 = .ok (.putfield 22, 3) := by decide +kernel
theorem d45_15 : fet 45 15 = .ok (.aload_n 0, 1) := by decide +kernel
theorem d45_16 : fet 45 16 = .ok (.iconst 0, 1) := by decide +kernel
theorem d45_17 : fet 45 17 = .ok (.putfield 25, 3) := by decide +kernel
theorem d45_20 : fet 45 20 = .ok (.aload_n 0, 1) := by decide +kernel
theorem d45_21 : fet 45 21 = .ok (.iconst 0, 1) := by decide +kernel
theorem d45_22 : fet 45 22 = .ok (.putfield 28, 3) := by decide +kernel
theorem d45_25 : fet 45 25 = .ok (.aload_n 0, 1) := by decide +kernel
theorem d45_26 : fet 45 26 = .ok (.iconst 0, 1) := by decide +kernel
theorem d45_27 : fet 45 27 = .ok (.putfield 31, 3) := by decide +kernel
theorem d45_30 : fet 45 30 = .ok (.aload_n 0, 1) := by decide +kernel
theorem d45_31 : fet 45 31 = .ok (.iconst 0, 1) := by decide +kernel
theorem d45_32 : fet 45 32 = .ok (.putfield 34, 3) := by decide +kernel
theorem d45_35 : fet 45 35 = .ok (.return_, 1) := by decide +kernel
theorem o46 : own 46 = RX8 := by decide +kernel
theorem d46_0 : fet 46 0 = .ok (.aload_n 0, 1) := by decide +kernel
theorem d46_1 : fet 46 1 = .ok (.aload_n 1, 1) := by decide +kernel
theorem d46_2 : fet 46 2 = .ok (.getfield 15, 3) := by decide +kernel
theorem d46_5 : fet 46 5 = .ok (.putfield 15, 3) := by decide +kernel
theorem d46_8 : fet 46 8 = .ok (.aload_n 0, 1) := by decide +kernel
theorem d46_9 : fet 46 9 = .ok (.aload_n 1, 1) := by decide +kernel
theorem d46_10 : fet 46 10 = .ok (.getfield 19, 3) := by decide +kernel
theorem d46_13 : fet 46 13 = .ok (.putfield 19, 3) := by decide +kernel
theorem d46_16 : fet 46 16 = .ok (.aload_n 0, 1) := by decide +kernel
theorem d46_17 : fet 46 17 = .ok (.aload_n 1, 1) := by decide +kernel
theorem d46_18 : fet 46 18 = .ok (.getfield 22, 3) := by decide +kernel
theorem d46_21 : fet 46 21 = .ok (.putfield 22, 3) := by decide +kernel
theorem d46_24 : fet 46 24 = .ok (.aload_n 0, 1) := by decide +kernel
theorem d46_25 : fet 46 25 = .ok (.aload_n 1, 1) := by decide +kernel
theorem d46_26 : fet 46 26 = .ok (.getfield 25, 3) := by decide +kernel
theorem d46_29 : fet 46 29 = .ok (.putfield 25, 3) := by decide +kernel
theorem d46_32 : fet 46 32 = .ok (.aload_n 0, 1) := by decide +kernel
theorem d46_33 : fet 46 33 = .ok (.aload_n 1, 1) := by decide +kernel
theorem d46_34 : fet 46 34 = .ok (.getfield 28, 3) := by decide +kernel
theorem d46_37 : fet 46 37 = .ok (.putfield 28, 3) := by decide +kernel
theorem d46_40 : fet 46 40 = .ok (.aload_n 0, 1) := by decide +kernel
theorem d46_41 : fet 46 41 = .ok (.aload_n 1, 1) := by decide +kernel
theorem d46_42 : fet 46 42 = .ok (.getfield 31, 3) := by decide +kernel
theorem d46_45 : fet 46 45 = .ok (.putfield 31, 3) := by decide +kernel
theorem d46_48 : fet 46 48 = .ok (.aload_n 0, 1) := by decide +kernel
theorem d46_49 : fet 46 49 = .ok (.aload_n 1, 1) := by decide +kernel
theorem d46_50 : fet 46 50 = .ok (.getfield 34, 3) := by decide +kernel
theorem d46_53 : fet 46 53 = .ok (.putfield 34, 3) := by decide +kernel
theorem d46_56 : fet 46 56 = .ok (.return_, 1) := by decide +kernel
theorem o47 : own 47 = RX8 := by decide +kernel
theorem d47_0 : fet 47 0 = .ok (.aload_n 0, 1) := by decide +kernel
theorem d47_1 : fet 47 1 = .ok (.getfield 19, 3) := by decide +kernel
theorem d47_4 : fet 47 4 = .ok (.bipush 13, 2) := by decide +kernel
theorem d47_6 : fet 47 6 = .ok (.if_icmp .ne 7, 3) := by decide +kernel
theorem d47_9 : fet 47 9 = .ok (.iconst 1, 1) := by decide +kernel
theorem d47_10 : fet 47 10 = .ok (.goto 4, 3) := by decide +kernel
theorem d47_13 : fet 47 13 = .ok (.iconst 0, 1) := by decide +kernel
theorem d47_14 : fet 47 14 = .ok (.ireturn, 1) := by decide +kernel
theorem o48 : own 48 = RX8 := by decide +kernel
theorem d48_0 : fet 48 0 = .ok (.aload_n 0, 1) := by decide +kernel
theorem d48_1 : fet 48 1 = .ok (.getfield 22, 3) := by decide +kernel
theorem d48_4 : fet 48 4 = .ok (.aload_n 0, 1) := by decide +kernel
theorem d48_5 : fet 48 5 = .ok (.getfield 15, 3) := by decide +kernel
theorem d48_8 : fet 48 8 = .ok (.getfield 38, 3) := by decide +kernel
theorem d48_11 : fet 48 11 = .ok (.if_icmp .lt 7, 3) := by decide +kernel
theorem d48_14 : fet 48 14 = .ok (.iconst 1, 1) := by decide +kernel
theorem d48_15 : fet 48 15 = .ok (.goto 4, 3) := by decide +kernel
theorem d48_18 : fet 48 18 = .ok (.iconst 0, 1) := by decide +kernel
theorem d48_19 : fet 48 19 = .ok (.ireturn, 1) := by decide +kernel
theorem o49 : own 49 = RX8 := by decide +kernel
theorem d49_0 : fet 49 0 = .ok (.aload_n 0, 1) := by decide +kernel
theorem d49_1 : fet 49 1 = .ok (.invokevirtual 43, 3) := by decide +kernel
theorem d49_4 : fet 49 4 = .ok (.ifCond .eq 14, 3) := by decide +kernel
theorem d49_7 : fet 49 7 = .ok (.aload_n 0, 1) := by decide +kernel
theorem d49_8 : fet 49 8 = .ok (.getfield 34, 3) := by decide +kernel
theorem d49_11 : fet 49 11 = .ok (.ifCond .ne 7, 3) := by decide +kernel
theorem d49_14 : fet 49 14 = .ok (.iconst 1, 1) := by decide +kernel
theorem d49_15 : fet 49 15 = .ok (.goto 4, 3) := by decide +kernel
theorem d49_18 : fet 49 18 = .ok (.iconst 0, 1) := by decide +kernel
theorem d49_19 : fet 49 19 = .ok (.ireturn, 1) := by decide +kernel
theorem o50 : own 50 = RX8 := by decide +kernel
theorem d50_0 : fet 50 0 = .ok (.iload_n 1, 1) := by decide +kernel
theorem d50_1 : fet 50 1 = .ok (.aload_n 0, 1) := by decide +kernel
theorem d50_2 : fet 50 2 = .ok (.getfield 31, 3) := by decide +kernel
theorem d50_5 : fet 50 5 = .ok (.if_icmp .ne 10, 3) := by decide +kernel
theorem d50_8 : fet 50 8 = .ok (.aload_n 0, 1) := by decide +kernel
theorem d50_9 : fet 50 9 = .ok (.getfield 25, 3) := by decide +kernel
theorem d50_12 : fet 50 12 = .ok (.goto 7, 3) := by decide +kernel
theorem d50_15 : fet 50 15 = .ok (.aload_n 0, 1) := by decide +kernel
theorem d50_16 : fet 50 16 = .ok (.getfield 28, 3) := by decide +kernel
theorem d50_19 : fet 50 19 = .ok (.ireturn, 1) := by decide +kernel
theorem o51 : own 51 = RX8 := by decide +kernel
theorem d51_0 : fet 51 0 = .ok (.aload_n 0, 1) := by decide +kernel
theorem d51_1 : fet 51 1 = .ok (.getfield 25, 3) := by decide +kernel
theorem d51_4 : fet 51 4 = .ok (.istore_n 1, 1) := by decide +kernel
theorem d51_5 : fet 51 5 = .ok (.aload_n 0, 1) := by decide +kernel
theorem d51_6 : fet 51 6 = .ok (.aload_n 0, 1) := by decide +kernel
theorem d51_7 : fet 51 7 = .ok (.getfield 28, 3) := by decide +kernel
theorem d51_10 : fet 51 10 = .ok (.putfield 25, 3) := by decide +kernel
theorem d51_13 : fet 51 13 = .ok (.aload_n 0, 1) := by decide +kernel
theorem d51_14 : fet 51 14 = .ok (.iload_n 1, 1) := by decide +kernel
theorem d51_15 : fet 51 15 = .ok (.putfield 28, 3) := by decide +kernel
theorem d51_18 : fet 51 18 = .ok (.aload_n 0, 1) := by decide +kernel
theorem d51_19 : fet 51 19 = .ok (.iconst 1, 1) := by decide +kernel
theorem d51_20 : fet 51 20 = .ok (.aload_n 0, 1) := by decide +kernel
theorem d51_21 : fet 51 21 = .ok (.getfield 31, 3) := by decide +kernel
theorem d51_24 : fet 51 24 = .ok (.isub, 1) := by decide +kernel
theorem d51_25 : fet 51 25 = .ok (.putfield 31, 3) := by decide +kernel
theorem d51_28 : fet 51 28 = .ok (.return_, 1) := by decide +kernel
theorem o52 : own 52 = RX8 := by decide +kernel
theorem d52_0 : fet 52 0 = .ok (.iload_n 1, 1) := by decide +kernel
theorem d52_1 : fet 52 1 = .ok (.ifCond .le 26, 3) := by decide +kernel
theorem d52_4 : fet 52 4 = .ok (.aload_n 0, 1) := by decide +kernel
theorem d52_5 : fet 52 5 = .ok (.getfield 25, 3) := by decide +kernel
theorem d52_8 : fet 52 8 = .ok (.bipush 10, 2) := by decide +kernel
theorem d52_10 : fet 52 10 = .ok (.if_icmp .lt 17, 3) := by decide +kernel
theorem d52_13 : fet 52 13 = .ok (.aload_n 0, 1) := by decide +kernel
theorem d52_14 : fet 52 14 = .ok (.getfield 15, 3) := by decide +kernel
theorem d52_17 : fet 52 17 = .ok (.invokevirtual 47, 3) := by decide +kernel
theorem d52_20 : fet 52 20 = .ok (.ifCond .eq 7, 3) := by decide +kernel
theorem d52_23 : fet 52 23 = .ok (.iconst 3, 1) := by decide +kernel
theorem d52_24 : fet 52 24 = .ok (.goto 4, 3) := by decide +kernel
theorem d52_27 : fet 52 27 = .ok (.iconst 0, 1) := by decide +kernel
theorem d52_28 : fet 52 28 = .ok (.istore_n 3, 1) := by decide +kernel
theorem d52_29 : fet 52 29 = .ok (.iload_n 1, 1) := by decide +kernel
theorem d52_30 : fet 52 30 = .ok (.iload_n 3, 1) := by decide +kernel
theorem d52_31 : fet 52 31 = .ok (.iadd, 1) := by decide +kernel
theorem d52_32 : fet 52 32 = .ok (.iload_n 2, 1) := by decide +kernel
theorem d52_33 : fet 52 33 = .ok (.iadd, 1) := by decide +kernel
theorem d52_34 : fet 52 34 = .ok (.ireturn, 1) := by decide +kernel
theorem o53 : own 53 = RX8 := by decide +kernel
theorem d53_0 : fet 53 0 = .ok (.aload_n 0, 1) := by decide +kernel
theorem d53_1 : fet 53 1 = .ok (.dup, 1) := by decide +kernel
theorem d53_2 : fet 53 2 = .ok (.getfield 25, 3) := by decide +kernel
theorem d53_5 : fet 53 5 = .ok (.aload_n 0, 1) := by decide +kernel
theorem d53_6 : fet 53 6 = .ok (.iload_n 1, 1) := by decide +kernel
theorem d53_7 : fet 53 7 = .ok (.iload_n 2, 1) := by decide +kernel
theorem d53_8 : fet 53 8 = .ok (.invokevirtual 50, 3) := by decide +kernel
theorem d53_11 : fet 53 11 = .ok (.iadd, 1) := by decide +kernel
theorem d53_12 : fet 53 12 = .ok (.putfield 25, 3) := by decide +kernel
theorem d53_15 : fet 53 15 = .ok (.aload_n 0, 1) := by decide +kernel
theorem d53_16 : fet 53 16 = .ok (.iconst 0, 1) := by decide +kernel
theorem d53_17 : fet 53 17 = .ok (.aload_n 0, 1) := by decide +kernel
theorem d53_18 : fet 53 18 = .ok (.getfield 28, 3) := by decide +kernel
theorem d53_21 : fet 53 21 = .ok (.iconst 2, 1) := by decide +kernel
theorem d53_22 : fet 53 22 = .ok (.isub, 1) := by decide +kernel
theorem d53_23 : fet 53 23 = .ok (.invokestatic 54, 3) := by decide +kernel
theorem d53_26 : fet 53 26 = .ok (.putfield 28, 3) := by decide +kernel
theorem d53_29 : fet 53 29 = .ok (.aload_n 0, 1) := by decide +kernel
theorem d53_30 : fet 53 30 = .ok (.dup, 1) := by decide +kernel
theorem d53_31 : fet 53 31 = .ok (.getfield 22, 3) := by decide +kernel
theorem d53_34 : fet 53 34 = .ok (.aload_n 0, 1) := by decide +kernel
theorem d53_35 : fet 53 35 = .ok (.getfield 15, 3) := by decide +kernel
theorem d53_38 : fet 53 38 = .ok (.aload_n 0, 1) := by decide +kernel
theorem d53_39 : fet 53 39 = .ok (.getfield 25, 3) := by decide +kernel
theorem d53_42 : fet 53 42 = .ok (.aload_n 0, 1) := by decide +kernel
theorem d53_43 : fet 53 43 = .ok (.getfield 28, 3) := by decide +kernel
theorem d53_46 : fet 53 46 = .ok (.iadd, 1) := by decide +kernel
theorem d53_47 : fet 53 47 = .ok (.invokevirtual 59, 3) := by decide +kernel
theorem d53_50 : fet 53 50 = .ok (.iadd, 1) := by decide +kernel
theorem d53_51 : fet 53 51 = .ok (.putfield 22, 3) := by decide +kernel
theorem d53_54 : fet 53 54 = .ok (.aload_n 0, 1) := by decide +kernel
theorem d53_55 : fet 53 55 = .ok (.aload_n 0, 1) := by decide +kernel
theorem d53_56 : fet 53 56 = .ok (.getfield 34, 3) := by decide +kernel
theorem d53_59 : fet 53 59 = .ok (.ifCond .ne 31, 3) := by decide +kernel
theorem d53_62 : fet 53 62 = .ok (.aload_n 0, 1) := by decide +kernel
theorem d53_63 : fet 53 63 = .ok (.getfield 25, 3) := by decide +kernel
theorem d53_66 : fet 53 66 = .ok (.aload_n 0, 1) := by decide +kernel
theorem d53_67 : fet 53 67 = .ok (.getfield 15, 3) := by decide +kernel
theorem d53_70 : fet 53 70 = .ok (.getfield 63, 3) := by decide +kernel
theorem d53_73 : fet 53 73 = .ok (.if_icmp .gt 17, 3) := by decide +kernel
theorem d53_76 : fet 53 76 = .ok (.aload_n 0, 1) := by decide +kernel
theorem d53_77 : fet 53 77 = .ok (.getfield 28, 3) := by decide +kernel
theorem d53_80 : fet 53 80 = .ok (.aload_n 0, 1) := by decide +kernel
theorem d53_81 : fet 53 81 = .ok (.getfield 15, 3) := by decide +kernel
theorem d53_84 : fet 53 84 = .ok (.getfield 63, 3) := by decide +kernel
theorem d53_87 : fet 53 87 = .ok (.if_icmp .le 7, 3) := by decide +kernel
theorem d53_90 : fet 53 90 = .ok (.iconst 1, 1) := by decide +kernel
theorem d53_91 : fet 53 91 = .ok (.goto 4, 3) := by decide +kernel
theorem d53_94 : fet 53 94 = .ok (.iconst 0, 1) := by decide +kernel
theorem d53_95 : fet 53 95 = .ok (.putfield 34, 3) := by decide +kernel
theorem d53_98 : fet 53 98 = .ok (.return_, 1) := by decide +kernel
theorem o54 : own 54 = RX8 := by decide +kernel
theorem d54_0 : fet 54 0 = .ok (.aload_n 0, 1) := by decide +kernel
theorem d54_1 : fet 54 1 = .ok (.iconst 0, 1) := by decide +kernel
theorem d54_2 : fet 54 2 = .ok (.aload_n 0, 1) := by decide +kernel
theorem d54_3 : fet 54 3 = .ok (.getfield 25, 3) := by decide +kernel
theorem d54_6 : fet 54 6 = .ok (.iconst 3, 1) := by decide +kernel
theorem d54_7 : fet 54 7 = .ok (.iload_n 1, 1) := by decide +kernel
theorem d54_8 : fet 54 8 = .ok (.imul, 1) := by decide +kernel
theorem d54_9 : fet 54 9 = .ok (.isub, 1) := by decide +kernel
theorem d54_10 : fet 54 10 = .ok (.invokestatic 54, 3) := by decide +kernel
theorem d54_13 : fet 54 13 = .ok (.putfield 25, 3) := by decide +kernel
theorem d54_16 : fet 54 16 = .ok (.aload_n 0, 1) := by decide +kernel
theorem d54_17 : fet 54 17 = .ok (.iconst 0, 1) := by decide +kernel
theorem d54_18 : fet 54 18 = .ok (.aload_n 0, 1) := by decide +kernel
theorem d54_19 : fet 54 19 = .ok (.getfield 28, 3) := by decide +kernel
theorem d54_22 : fet 54 22 = .ok (.iconst 3, 1) := by decide +kernel
theorem d54_23 : fet 54 23 = .ok (.iload_n 1, 1) := by decide +kernel
theorem d54_24 : fet 54 24 = .ok (.imul, 1) := by decide +kernel
theorem d54_25 : fet 54 25 = .ok (.isub, 1) := by decide +kernel
theorem d54_26 : fet 54 26 = .ok (.invokestatic 54, 3) := by decide +kernel
theorem d54_29 : fet 54 29 = .ok (.putfield 28, 3) := by decide +kernel
theorem d54_32 : fet 54 32 = .ok (.return_, 1) := by decide +kernel
theorem o55 : own 55 = RX8 := by decide +kernel
theorem d55_0 : fet 55 0 = .ok (.iload_n 2, 1) := by decide +kernel
theorem d55_1 : fet 55 1 = .ok (.ifCond .lt 12, 3) := by decide +kernel
theorem d55_4 : fet 55 4 = .ok (.iload_n 2, 1) := by decide +kernel
theorem d55_5 : fet 55 5 = .ok (.aload_n 1, 1) := by decide +kernel
theorem d55_6 : fet 55 6 = .ok (.arraylength, 1) := by decide +kernel
theorem d55_7 : fet 55 7 = .ok (.bipush 7, 2) := by decide +kernel
theorem d55_9 : fet 55 9 = .ok (.isub, 1) := by decide +kernel
theorem d55_10 : fet 55 10 = .ok (.if_icmp .le 4, 3) := by decide +kernel
theorem d55_13 : fet 55 13 = .ok (.return_, 1) := by decide +kernel
theorem d55_14 : fet 55 14 = .ok (.aload_n 1, 1) := by decide +kernel
theorem d55_15 : fet 55 15 = .ok (.iload_n 2, 1) := by decide +kernel
theorem d55_16 : fet 55 16 = .ok (.aload_n 0, 1) := by decide +kernel
theorem d55_17 : fet 55 17 = .ok (.getfield 15, 3) := by decide +kernel
theorem d55_20 : fet 55 20 = .ok (.getfield 66, 3) := by decide +kernel
theorem d55_23 : fet 55 23 = .ok (.iastore, 1) := by decide +kernel
theorem d55_24 : fet 55 24 = .ok (.aload_n 1, 1) := by decide +kernel
theorem d55_25 : fet 55 25 = .ok (.iload_n 2, 1) := by decide +kernel
theorem d55_26 : fet 55 26 = .ok (.iconst 1, 1) := by decide +kernel
theorem d55_27 : fet 55 27 = .ok (.iadd, 1) := by decide +kernel
theorem d55_28 : fet 55 28 = .ok (.aload_n 0, 1) := by decide +kernel
theorem d55_29 : fet 55 29 = .ok (.getfield 19, 3) := by decide +kernel
theorem d55_32 : fet 55 32 = .ok (.iastore, 1) := by decide +kernel
theorem d55_33 : fet 55 33 = .ok (.aload_n 1, 1) := by decide +kernel
theorem d55_34 : fet 55 34 = .ok (.iload_n 2, 1) := by decide +kernel
theorem d55_35 : fet 55 35 = .ok (.iconst 2, 1) := by decide +kernel
theorem d55_36 : fet 55 36 = .ok (.iadd, 1) := by decide +kernel
theorem d55_37 : fet 55 37 = .ok (.aload_n 0, 1) := by decide +kernel
theorem d55_38 : fet 55 38 = .ok (.getfield 22, 3) := by decide +kernel
theorem d55_41 : fet 55 41 = .ok (.iastore, 1) := by decide +kernel
theorem d55_42 : fet 55 42 = .ok (.aload_n 1, 1) := by decide +kernel
theorem d55_43 : fet 55 43 = .ok (.iload_n 2, 1) := by decide +kernel
theorem d55_44 : fet 55 44 = .ok (.iconst 3, 1) := by decide +kernel
theorem d55_45 : fet 55 45 = .ok (.iadd, 1) := by decide +kernel
theorem d55_46 : fet 55 46 = .ok (.aload_n 0, 1) := by decide +kernel
theorem d55_47 : fet 55 47 = .ok (.getfield 25, 3) := by decide +kernel
theorem d55_50 : fet 55 50 = .ok (.iastore, 1) := by decide +kernel
theorem d55_51 : fet 55 51 = .ok (.aload_n 1, 1) := by decide +kernel
theorem d55_52 : fet 55 52 = .ok (.iload_n 2, 1) := by decide +kernel
theorem d55_53 : fet 55 53 = .ok (.iconst 4, 1) := by decide +kernel
theorem d55_54 : fet 55 54 = .ok (.iadd, 1) := by decide +kernel
theorem d55_55 : fet 55 55 = .ok (.aload_n 0, 1) := by decide +kernel
theorem d55_56 : fet 55 56 = .ok (.getfield 28, 3) := by decide +kernel
theorem d55_59 : fet 55 59 = .ok (.iastore, 1) := by decide +kernel
theorem d55_60 : fet 55 60 = .ok (.aload_n 1, 1) := by decide +kernel
theorem d55_61 : fet 55 61 = .ok (.iload_n 2, 1) := by decide +kernel
theorem d55_62 : fet 55 62 = .ok (.iconst 5, 1) := by decide +kernel
theorem d55_63 : fet 55 63 = .ok (.iadd, 1) := by decide +kernel
theorem d55_64 : fet 55 64 = .ok (.aload_n 0, 1) := by decide +kernel
theorem d55_65 : fet 55 65 = .ok (.getfield 31, 3) := by decide +kernel
theorem d55_68 : fet 55 68 = .ok (.iastore, 1) := by decide +kernel
theorem d55_69 : fet 55 69 = .ok (.aload_n 1, 1) := by decide +kernel
theorem d55_70 : fet 55 70 = .ok (.iload_n 2, 1) := by decide +kernel
theorem d55_71 : fet 55 71 = .ok (.bipush 6, 2) := by decide +kernel
theorem d55_73 : fet 55 73 = .ok (.iadd, 1) := by decide +kernel
theorem d55_74 : fet 55 74 = .ok (.aload_n 0, 1) := by decide +kernel
theorem d55_75 : fet 55 75 = .ok (.getfield 34, 3) := by decide +kernel
theorem d55_78 : fet 55 78 = .ok (.invokestatic 67, 3) := by decide +kernel
theorem d55_81 : fet 55 81 = .ok (.iastore, 1) := by decide +kernel
theorem d55_82 : fet 55 82 = .ok (.return_, 1) := by decide +kernel
theorem o56 : own 56 = RX8 := by decide +kernel
theorem d56_0 : fet 56 0 = .ok (.iload_n 2, 1) := by decide +kernel
theorem d56_1 : fet 56 1 = .ok (.ifCond .lt 12, 3) := by decide +kernel
theorem d56_4 : fet 56 4 = .ok (.iload_n 2, 1) := by decide +kernel
theorem d56_5 : fet 56 5 = .ok (.aload_n 1, 1) := by decide +kernel
theorem d56_6 : fet 56 6 = .ok (.arraylength, 1) := by decide +kernel
theorem d56_7 : fet 56 7 = .ok (.bipush 7, 2) := by decide +kernel
theorem d56_9 : fet 56 9 = .ok (.isub, 1) := by decide +kernel
theorem d56_10 : fet 56 10 = .ok (.if_icmp .le 4, 3) := by decide +kernel
theorem d56_13 : fet 56 13 = .ok (.return_, 1) := by decide +kernel
theorem d56_14 : fet 56 14 = .ok (.aload_n 0, 1) := by decide +kernel
theorem d56_15 : fet 56 15 = .ok (.aload_n 3, 1) := by decide +kernel
theorem d56_16 : fet 56 16 = .ok (.putfield 15, 3) := by decide +kernel
theorem d56_19 : fet 56 19 = .ok (.aload_n 0, 1) := by decide +kernel
theorem d56_20 : fet 56 20 = .ok (.aload_n 1, 1) := by decide +kernel
theorem d56_21 : fet 56 21 = .ok (.iload_n 2, 1) := by decide +kernel
theorem d56_22 : fet 56 22 = .ok (.iconst 1, 1) := by decide +kernel
theorem d56_23 : fet 56 23 = .ok (.iadd, 1) := by decide +kernel
theorem d56_24 : fet 56 24 = .ok (.iaload, 1) := by decide +kernel
theorem d56_25 : fet 56 25 = .ok (.putfield 19, 3) := by decide +kernel
theorem d56_28 : fet 56 28 = .ok (.aload_n 0, 1) := by decide +kernel
theorem d56_29 : fet 56 29 = .ok (.aload_n 1, 1) := by decide +kernel
theorem d56_30 : fet 56 30 = .ok (.iload_n 2, 1) := by decide +kernel
theorem d56_31 : fet 56 31 = .ok (.iconst 2, 1) := by decide +kernel
theorem d56_32 : fet 56 32 = .ok (.iadd, 1) := by decide +kernel
theorem d56_33 : fet 56 33 = .ok (.iaload, 1) := by decide +kernel
theorem d56_34 : fet 56 34 = .ok (.putfield 22, 3) := by decide +kernel
theorem d56_37 : fet 56 37 = .ok (.aload_n 0, 1) := by decide +kernel
theorem d56_38 : fet 56 38 = .ok (.aload_n 1, 1) := by decide +kernel
theorem d56_39 : fet 56 39 = .ok (.iload_n 2, 1) := by decide +kernel
theorem d56_40 : fet 56 40 = .ok (.iconst 3, 1) := by decide +kernel
theorem d56_41 : fet 56 41 = .ok (.iadd, 1) := by decide +kernel
theorem d56_42 : fet 56 42 = .ok (.iaload, 1) := by decide +kernel
theorem d56_43 : fet 56 43 = .ok (.putfield 25, 3) := by decide +kernel
theorem d56_46 : fet 56 46 = .ok (.aload_n 0, 1) := by decide +kernel
theorem d56_47 : fet 56 47 = .ok (.aload_n 1, 1) := by decide +kernel
theorem d56_48 : fet 56 48 = .ok (.iload_n 2, 1) := by decide +kernel
theorem d56_49 : fet 56 49 = .ok (.iconst 4, 1) := by decide +kernel
theorem d56_50 : fet 56 50 = .ok (.iadd, 1) := by decide +kernel
theorem d56_51 : fet 56 51 = .ok (.iaload, 1) := by decide +kernel
theorem d56_52 : fet 56 52 = .ok (.putfield 28, 3) := by decide +kernel
theorem d56_55 : fet 56 55 = .ok (.aload_n 0, 1) := by decide +kernel
theorem d56_56 : fet 56 56 = .ok (.aload_n 1, 1) := by decide +kernel
theorem d56_57 : fet 56 57 = .ok (.iload_n 2, 1) := by decide +kernel
theorem d56_58 : fet 56 58 = .ok (.iconst 5, 1) := by decide +kernel
theorem d56_59 : fet 56 59 = .ok (.iadd, 1) := by decide +kernel
theorem d56_60 : fet 56 60 = .ok (.iaload, 1) := by decide +kernel
theorem d56_61 : fet 56 61 = .ok (.putfield 31, 3) := by decide +kernel
theorem d56_64 : fet 56 64 = .ok (.aload_n 0, 1) := by decide +kernel
theorem d56_65 : fet 56 65 = .ok (.aload_n 1, 1) := by decide +kernel
theorem d56_66 : fet 56 66 = .ok (.iload_n 2, 1) := by decide +kernel
theorem d56_67 : fet 56 67 = .ok (.bipush 6, 2) := by decide +kernel
theorem d56_69 : fet 56 69 = .ok (.iadd, 1) := by decide +kernel
theorem d56_70 : fet 56 70 = .ok (.iaload, 1) := by decide +kernel
theorem d56_71 : fet 56 71 = .ok (.ifCond .eq 7, 3) := by decide +kernel
theorem d56_74 : fet 56 74 = .ok (.iconst 1, 1) := by decide +kernel
theorem d56_75 : fet 56 75 = .ok (.goto 4, 3) := by decide +kernel
theorem d56_78 : fet 56 78 = .ok (.iconst 0, 1) := by decide +kernel
theorem d56_79 : fet 56 79 = .ok (.putfield 34, 3) := by decide +kernel
theorem d56_82 : fet 56 82 = .ok (.return_, 1) := by decide +kernel
theorem o57 : own 57 = RX9 := by decide +kernel
theorem d57_0 : fet 57 0 = .ok (.aload_n 0, 1) := by decide +kernel
theorem d57_1 : fet 57 1 = .ok (.invokespecial 1, 3) := by decide +kernel
theorem d57_4 : fet 57 4 = .ok (.aload_n 0, 1) := by decide +kernel
theorem d57_5 : fet 57 5 = .ok (.bipush 16, 2) := by decide +kernel
theorem d57_7 : fet 57 7 = .ok (.newarray .int, 2) := by decide +kernel
theorem d57_9 : fet 57 9 = .ok (.putfield 7, 3) := by decide +kernel
theorem d57_12 : fet 57 12 = .ok (.return_, 1) := by decide +kernel
theorem o58 : own 58 = RX9 := by decide +kernel
theorem d58_0 : fet 58 0 = .ok (.aload_n 0, 1) := by decide +kernel
theorem d58_1 : fet 58 1 = .ok (.getfield 13, 3) := by decide +kernel
theorem d58_4 : fet 58 4 = .ok (.aload_n 0, 1) := by decide +kernel
theorem d58_5 : fet 58 5 = .ok (.getfield 7, 3) := by decide +kernel
theorem d58_8 : fet 58 8 = .ok (.arraylength, 1) := by decide +kernel
theorem d58_9 : fet 58 9 = .ok (.if_icmp .ge 23, 3) := by decide +kernel
theorem d58_12 : fet 58 12 = .ok (.aload_n 0, 1) := by decide +kernel
theorem d58_13 : fet 58 13 = .ok (.getfield 7, 3) := by decide +kernel
theorem d58_16 : fet 58 16 = .ok (.aload_n 0, 1) := by decide +kernel
theorem d58_17 : fet 58 17 = .ok (.getfield 13, 3) := by decide +kernel
theorem d58_20 : fet 58 20 = .ok (.iload_n 1, 1) := by decide +kernel
theorem d58_21 : fet 58 21 = .ok (.iastore, 1) := by decide +kernel
theorem d58_22 : fet 58 22 = .ok (.aload_n 0, 1) := by decide +kernel
theorem d58_23 : fet 58 23 = .ok (.dup, 1) := by decide +kernel
theorem d58_24 : fet 58 24 = .ok (.getfield 13, 3) := by decide +kernel
theorem d58_27 : fet 58 27 = .ok (.iconst 1, 1) := by decide +kernel
theorem d58_28 : fet 58 28 = .ok (.iadd, 1) := by decide +kernel
theorem d58_29 : fet 58 29 = .ok (.putfield 13, 3) := by decide +kernel
theorem d58_32 : fet 58 32 = .ok (.return_, 1) := by decide +kernel
theorem o59 : own 59 = RX10 := by decide +kernel
theorem d59_0 : fet 59 0 = .ok (.aload_n 0, 1) := by decide +kernel
theorem d59_1 : fet 59 1 = .ok (.invokespecial 5, 3) := by decide +kernel
theorem d59_4 : fet 59 4 = .ok (.aload_n 0, 1) := by decide +kernel
theorem d59_5 : fet 59 5 = .ok (.bipush 8, 2) := by decide +kernel
theorem d59_7 : fet 59 7 = .ok (.newarray .int, 2) := by decide +kernel
theorem d59_9 : fet 59 9 = .ok (.putfield 11, 3) := by decide +kernel
theorem d59_12 : fet 59 12 = .ok (.aload_n 0, 1) := by decide +kernel
theorem d59_13 : fet 59 13 = .ok (.bipush 8, 2) := by decide +kernel
theorem d59_15 : fet 59 15 = .ok (.newarray .int, 2) := by decide +kernel
theorem d59_17 : fet 59 17 = .ok (.putfield 17, 3) := by decide +kernel
theorem d59_20 : fet 59 20 = .ok (.aload_n 0, 1) := by decide +kernel
theorem d59_21 : fet 59 21 = .ok (.bipush 8, 2) := by decide +kernel
theorem d59_23 : fet 59 23 = .ok (.newarray .int, 2) := by decide +kernel
theorem d59_25 : fet 59 25 = .ok (.putfield 20, 3) := by decide +kernel
theorem d59_28 : fet 59 28 = .ok (.aload_n 0, 1) := by decide +kernel
theorem d59_29 : fet 59 29 = .ok (.bipush 6, 2) := by decide +kernel
theorem d59_31 : fet 59 31 = .ok (.anewarray 1, 3) := by decide +kernel
theorem d59_34 : fet 59 34 = .ok (.putfield 23, 3) := by decide +kernel
theorem d59_37 : fet 59 37 = .ok (.aload_n 0, 1) := by decide +kernel
theorem d59_38 : fet 59 38 = .ok (.iconst 4, 1) := by decide +kernel
theorem d59_39 : fet 59 39 = .ok (.newarray .int, 2) := by decide +kernel
theorem d59_41 : fet 59 41 = .ok (.putfield 27, 3) := by decide +kernel
theorem d59_44 : fet 59 44 = .ok (.aload_n 0, 1) := by decide +kernel
theorem d59_45 : fet 59 45 = .ok (.iconst 4, 1) := by decide +kernel
theorem d59_46 : fet 59 46 = .ok (.newarray .int, 2) := by decide +kernel
theorem d59_48 : fet 59 48 = .ok (.putfield 30, 3) := by decide +kernel
theorem d59_51 : fet 59 51 = .ok (.aload_n 0, 1) := by decide +kernel
theorem d59_52 : fet 59 52 = .ok (.iconst 4, 1) := by decide +kernel
theorem d59_53 : fet 59 53 = .ok (.newarray .int, 2) := by decide +kernel
theorem d59_55 : fet 59 55 = .ok (.putfield 33, 3) := by decide +kernel
theorem d59_58 : fet 59 58 = .ok (.aload_n 0, 1) := by decide +kernel
theorem d59_59 : fet 59 59 = .ok (.aload_n 1, 1) := by decide +kernel
theorem d59_60 : fet 59 60 = .ok (.putfield 36, 3) := by decide +kernel
theorem d59_63 : fet 59 63 = .ok (.iconst 0, 1) := by decide +kernel
theorem d59_64 : fet 59 64 = .ok (.istore_n 2, 1) := by decide +kernel
theorem d59_65 : fet 59 65 = .ok (.iload_n 2, 1) := by decide +kernel
theorem d59_66 : fet 59 66 = .ok (.bipush 6, 2) := by decide +kernel
theorem d59_68 : fet 59 68 = .ok (.if_icmp .ge 26, 3) := by decide +kernel
theorem d59_71 : fet 59 71 = .ok (.aload_n 0, 1) := by decide +kernel
theorem d59_72 : fet 59 72 = .ok (.getfield 23, 3) := by decide +kernel
theorem d59_75 : fet 59 75 = .ok (.iload_n 2, 1) := by decide +kernel
theorem d59_76 : fet 59 76 = .ok (.new 1, 3) := by decide +kernel
theorem d59_79 : fet 59 79 = .ok (.dup, 1) := by decide +kernel
theorem d59_80 : fet 59 80 = .ok (.iload_n 2, 1) := by decide +kernel
theorem d59_81 : fet 59 81 = .ok (.aload_n 1, 1) := by decide +kernel
theorem d59_82 : fet 59 82 = .ok (.iconst 1, 1) := by decide +kernel
theorem d59_83 : fet 59 83 = .ok (.aaload, 1) := by decide +kernel
theorem d59_84 : fet 59 84 = .ok (.invokespecial 40, 3) := by decide +kernel
theorem d59_87 : fet 59 87 = .ok (.aastore, 1) := by decide +kernel
theorem d59_88 : fet 59 88 = .ok (.iinc 2 1, 3) := by decide +kernel
theorem d59_91 : fet 59 91 = .ok (.goto (-26), 3) := by decide +kernel
theorem d59_94 : fet 59 94 = .ok (.return_, 1) := by decide +kernel
theorem o60 : own 60 = RX10 := by decide +kernel
theorem d60_0 : fet 60 0 = .ok (.aload_n 0, 1) := by decide +kernel
theorem d60_1 : fet 60 1 = .ok (.iconst 0, 1) := by decide +kernel
theorem d60_2 : fet 60 2 = .ok (.putfield 43, 3) := by decide +kernel
theorem d60_5 : fet 60 5 = .ok (.aload_n 0, 1) := by decide +kernel
theorem d60_6 : fet 60 6 = .ok (.iconst 0, 1) := by decide +kernel
theorem d60_7 : fet 60 7 = .ok (.putfield 47, 3) := by decide +kernel
theorem d60_10 : fet 60 10 = .ok (.aload_n 0, 1) := by decide +kernel
theorem d60_11 : fet 60 11 = .ok (.iconst 0, 1) := by decide +kernel
theorem d60_12 : fet 60 12 = .ok (.putfield 50, 3) := by decide +kernel
theorem d60_15 : fet 60 15 = .ok (.aload_n 0, 1) := by decide +kernel
theorem d60_16 : fet 60 16 = .ok (.iconst 0, 1) := by decide +kernel
theorem d60_17 : fet 60 17 = .ok (.putfield 53, 3) := by decide +kernel
theorem d60_20 : fet 60 20 = .ok (.return_, 1) := by decide +kernel
theorem o61 : own 61 = RX10 := by decide +kernel
theorem d61_0 : fet 61 0 = .ok (.aload_n 0, 1) := by decide +kernel
theorem d61_1 : fet 61 1 = .ok (.getfield 47, 3) := by decide +kernel
theorem d61_4 : fet 61 4 = .ok (.bipush 8, 2) := by decide +kernel
theorem d61_6 : fet 61 6 = .ok (.if_icmp .ge 43, 3) := by decide +kernel
theorem d61_9 : fet 61 9 = .ok (.aload_n 0, 1) := by decide +kernel
theorem d61_10 : fet 61 10 = .ok (.getfield 11, 3) := by decide +kernel
theorem d61_13 : fet 61 13 = .ok (.aload_n 0, 1) := by decide +kernel
theorem d61_14 : fet 61 14 = .ok (.getfield 47, 3) := by decide +kernel
theorem d61_17 : fet 61 17 = .ok (.iload_n 1, 1) := by decide +kernel
theorem d61_18 : fet 61 18 = .ok (.iastore, 1) := by decide +kernel
theorem d61_19 : fet 61 19 = .ok (.aload_n 0, 1) := by decide +kernel
theorem d61_20 : fet 61 20 = .ok (.getfield 17, 3) := by decide +kernel
theorem d61_23 : fet 61 23 = .ok (.aload_n 0, 1) := by decide +kernel
theorem d61_24 : fet 61 24 = .ok (.getfield 47, 3) := by decide +kernel
theorem d61_27 : fet 61 27 = .ok (.iload_n 2, 1) := by decide +kernel
theorem d61_28 : fet 61 28 = .ok (.iastore, 1) := by decide +kernel
theorem d61_29 : fet 61 29 = .ok (.aload_n 0, 1) := by decide +kernel
theorem d61_30 : fet 61 30 = .ok (.getfield 20, 3) := by decide +kernel
theorem d61_33 : fet 61 33 = .ok (.aload_n 0, 1) := by decide +kernel
theorem d61_34 : fet 61 34 = .ok (.getfield 47, 3) := by decide +kernel
theorem d61_37 : fet 61 37 = .ok (.iload_n 3, 1) := by decide +kernel
theorem d61_38 : fet 61 38 = .ok (.iastore, 1) := by decide +kernel
theorem d61_39 : fet 61 39 = .ok (.aload_n 0, 1) := by decide +kernel
theorem d61_40 : fet 61 40 = .ok (.dup, 1) := by decide +kernel
theorem d61_41 : fet 61 41 = .ok (.getfield 47, 3) := by decide +kernel
theorem d61_44 : fet 61 44 = .ok (.iconst 1, 1) := by decide +kernel
theorem d61_45 : fet 61 45 = .ok (.iadd, 1) := by decide +kernel
theorem d61_46 : fet 61 46 = .ok (.putfield 47, 3) := by decide +kernel
theorem d61_49 : fet 61 49 = .ok (.return_, 1) := by decide +kernel
theorem o62 : own 62 = RX10 := by decide +kernel
theorem d62_0 : fet 62 0 = .ok (.aload_n 0, 1) := by decide +kernel
theorem d62_1 : fet 62 1 = .ok (.getfield 50, 3) := by decide +kernel
theorem d62_4 : fet 62 4 = .ok (.bipush 6, 2) := by decide +kernel
theorem d62_6 : fet 62 6 = .ok (.if_icmp .ge 31, 3) := by decide +kernel
theorem d62_9 : fet 62 9 = .ok (.aload_n 0, 1) := by decide +kernel
theorem d62_10 : fet 62 10 = .ok (.getfield 23, 3) := by decide +kernel
theorem d62_13 : fet 62 13 = .ok (.aload_n 0, 1) := by decide +kernel
theorem d62_14 : fet 62 14 = .ok (.getfield 50, 3) := by decide +kernel
theorem d62_17 : fet 62 17 = .ok (.aaload, 1) := by decide +kernel
theorem d62_18 : fet 62 18 = .ok (.aload_n 0, 1) := by decide +kernel
theorem d62_19 : fet 62 19 = .ok (.iload_n 1, 1) := by decide +kernel
theorem d62_20 : fet 62 20 = .ok (.invokevirtual 56, 3) := by decide +kernel
theorem d62_23 : fet 62 23 = .ok (.iload_n 2, 1) := by decide +kernel
theorem d62_24 : fet 62 24 = .ok (.invokevirtual 60, 3) := by decide +kernel
theorem d62_27 : fet 62 27 = .ok (.aload_n 0, 1) := by decide +kernel
theorem d62_28 : fet 62 28 = .ok (.dup, 1) := by decide +kernel
theorem d62_29 : fet 62 29 = .ok (.getfield 50, 3) := by decide +kernel
theorem d62_32 : fet 62 32 = .ok (.iconst 1, 1) := by decide +kernel
theorem d62_33 : fet 62 33 = .ok (.iadd, 1) := by decide +kernel
theorem d62_34 : fet 62 34 = .ok (.putfield 50, 3) := by decide +kernel
theorem d62_37 : fet 62 37 = .ok (.return_, 1) := by decide +kernel
theorem o63 : own 63 = RX10 := by decide +kernel
theorem d63_0 : fet 63 0 = .ok (.aload_n 0, 1) := by decide +kernel
theorem d63_1 : fet 63 1 = .ok (.getfield 53, 3) := by decide +kernel
theorem d63_4 : fet 63 4 = .ok (.iconst 4, 1) := by decide +kernel
theorem d63_5 : fet 63 5 = .ok (.if_icmp .ge 44, 3) := by decide +kernel
theorem d63_8 : fet 63 8 = .ok (.aload_n 0, 1) := by decide +kernel
theorem d63_9 : fet 63 9 = .ok (.getfield 27, 3) := by decide +kernel
theorem d63_12 : fet 63 12 = .ok (.aload_n 0, 1) := by decide +kernel
theorem d63_13 : fet 63 13 = .ok (.getfield 53, 3) := by decide +kernel
theorem d63_16 : fet 63 16 = .ok (.iload_n 1, 1) := by decide +kernel
theorem d63_17 : fet 63 17 = .ok (.iastore, 1) := by decide +kernel
theorem d63_18 : fet 63 18 = .ok (.aload_n 0, 1) := by decide +kernel
theorem d63_19 : fet 63 19 = .ok (.getfield 30, 3) := by decide +kernel
theorem d63_22 : fet 63 22 = .ok (.aload_n 0, 1) := by decide +kernel
theorem d63_23 : fet 63 23 = .ok (.getfield 53, 3) := by decide +kernel
theorem d63_26 : fet 63 26 = .ok (.iload_n 2, 1) := by decide +kernel
theorem d63_27 : fet 63 27 = .ok (.iastore, 1) := by decide +kernel
theorem d63_28 : fet 63 28 = .ok (.aload_n 0, 1) := by decide +kernel
theorem d63_29 : fet 63 29 = .ok (.getfield 33, 3) := by decide +kernel
theorem d63_32 : fet 63 32 = .ok (.aload_n 0, 1) := by decide +kernel
theorem d63_33 : fet 63 33 = .ok (.getfield 53, 3) := by decide +kernel
theorem d63_36 : fet 63 36 = .ok (.ldc 64, 2) := by decide +kernel
theorem d63_38 : fet 63 38 = .ok (.iastore, 1) := by decide +kernel
theorem d63_39 : fet 63 39 = .ok (.aload_n 0, 1) := by decide +kernel
theorem d63_40 : fet 63 40 = .ok (.dup, 1) := by decide +kernel
theorem d63_41 : fet 63 41 = .ok (.getfield 53, 3) := by decide +kernel
theorem d63_44 : fet 63 44 = .ok (.iconst 1, 1) := by decide +kernel
theorem d63_45 : fet 63 45 = .ok (.iadd, 1) := by decide +kernel
theorem d63_46 : fet 63 46 = .ok (.putfield 53, 3) := by decide +kernel
theorem d63_49 : fet 63 49 = .ok (.return_, 1) := by decide +kernel
theorem o64 : own 64 = RX10 := by decide +kernel
theorem d64_0 : fet 64 0 = .ok (.aload_n 0, 1) := by decide +kernel
theorem d64_1 : fet 64 1 = .ok (.getfield 36, 3) := by decide +kernel
theorem d64_4 : fet 64 4 = .ok (.iload_n 1, 1) := by decide +kernel
theorem d64_5 : fet 64 5 = .ok (.ifCond .lt 16, 3) := by decide +kernel
theorem d64_8 : fet 64 8 = .ok (.iload_n 1, 1) := by decide +kernel
theorem d64_9 : fet 64 9 = .ok (.aload_n 0, 1) := by decide +kernel
theorem d64_10 : fet 64 10 = .ok (.getfield 36, 3) := by decide +kernel
theorem d64_13 : fet 64 13 = .ok (.arraylength, 1) := by decide +kernel
theorem d64_14 : fet 64 14 = .ok (.if_icmp .ge 7, 3) := by decide +kernel
theorem d64_17 : fet 64 17 = .ok (.iload_n 1, 1) := by decide +kernel
theorem d64_18 : fet 64 18 = .ok (.goto 4, 3) := by decide +kernel
theorem d64_21 : fet 64 21 = .ok (.iconst 0, 1) := by decide +kernel
theorem d64_22 : fet 64 22 = .ok (.aaload, 1) := by decide +kernel
theorem d64_23 : fet 64 23 = .ok (.areturn, 1) := by decide +kernel
theorem o65 : own 65 = RX10 := by decide +kernel
theorem d65_0 : fet 65 0 = .ok (.iload_n 1, 1) := by decide +kernel
theorem d65_1 : fet 65 1 = .ok (.ifCond .lt 20, 3) := by decide +kernel
theorem d65_4 : fet 65 4 = .ok (.iload_n 1, 1) := by decide +kernel
theorem d65_5 : fet 65 5 = .ok (.aload_n 0, 1) := by decide +kernel
theorem d65_6 : fet 65 6 = .ok (.getfield 50, 3) := by decide +kernel
theorem d65_9 : fet 65 9 = .ok (.if_icmp .ge 12, 3) := by decide +kernel
theorem d65_12 : fet 65 12 = .ok (.aload_n 0, 1) := by decide +kernel
theorem d65_13 : fet 65 13 = .ok (.getfield 23, 3) := by decide +kernel
theorem d65_16 : fet 65 16 = .ok (.iload_n 1, 1) := by decide +kernel
theorem d65_17 : fet 65 17 = .ok (.aaload, 1) := by decide +kernel
theorem d65_18 : fet 65 18 = .ok (.goto 4, 3) := by decide +kernel
theorem d65_21 : fet 65 21 = .ok (.aconst_null, 1) := by decide +kernel
theorem d65_22 : fet 65 22 = .ok (.areturn, 1) := by decide +kernel
theorem o66 : own 66 = RX10 := by decide +kernel
theorem d66_0 : fet 66 0 = .ok (.iload_n 1, 1) := by decide +kernel
theorem d66_1 : fet 66 1 = .ok (.ifCond .lt 15, 3) := by decide +kernel
theorem d66_4 : fet 66 4 = .ok (.iload_n 1, 1) := by decide +kernel
theorem d66_5 : fet 66 5 = .ok (.aload_n 0, 1) := by decide +kernel
theorem d66_6 : fet 66 6 = .ok (.getfield 53, 3) := by decide +kernel
theorem d66_9 : fet 66 9 = .ok (.if_icmp .ge 7, 3) := by decide +kernel
theorem d66_12 : fet 66 12 = .ok (.iconst 1, 1) := by decide +kernel
theorem d66_13 : fet 66 13 = .ok (.goto 4, 3) := by decide +kernel
theorem d66_16 : fet 66 16 = .ok (.iconst 0, 1) := by decide +kernel
theorem d66_17 : fet 66 17 = .ok (.ireturn, 1) := by decide +kernel
theorem o67 : own 67 = RX10 := by decide +kernel
theorem d67_0 : fet 67 0 = .ok (.iconst 0, 1) := by decide +kernel
theorem d67_1 : fet 67 1 = .ok (.istore_n 2, 1) := by decide +kernel
theorem d67_2 : fet 67 2 = .ok (.iload_n 2, 1) := by decide +kernel
theorem d67_3 : fet 67 3 = .ok (.aload_n 0, 1) := by decide +kernel
theorem d67_4 : fet 67 4 = .ok (.getfield 50, 3) := by decide +kernel
theorem d67_7 : fet 67 7 = .ok (.if_icmp .ge 36, 3) := by decide +kernel
theorem d67_10 : fet 67 10 = .ok (.aload_n 0, 1) := by decide +kernel
theorem d67_11 : fet 67 11 = .ok (.getfield 23, 3) := by decide +kernel
theorem d67_14 : fet 67 14 = .ok (.iload_n 2, 1) := by decide +kernel
theorem d67_15 : fet 67 15 = .ok (.aaload, 1) := by decide +kernel
theorem d67_16 : fet 67 16 = .ok (.getfield 65, 3) := by decide +kernel
theorem d67_19 : fet 67 19 = .ok (.iload_n 1, 1) := by decide +kernel
theorem d67_20 : fet 67 20 = .ok (.if_icmp .ne 17, 3) := by decide +kernel
theorem d67_23 : fet 67 23 = .ok (.iload_n 1, 1) := by decide +kernel
theorem d67_24 : fet 67 24 = .ok (.invokestatic 68, 3) := by decide +kernel
theorem d67_27 : fet 67 27 = .ok (.ifCond .eq 10, 3) := by decide +kernel
theorem d67_30 : fet 67 30 = .ok (.aload_n 0, 1) := by decide +kernel
theorem d67_31 : fet 67 31 = .ok (.getfield 23, 3) := by decide +kernel
theorem d67_34 : fet 67 34 = .ok (.iload_n 2, 1) := by decide +kernel
theorem d67_35 : fet 67 35 = .ok (.aaload, 1) := by decide +kernel
theorem d67_36 : fet 67 36 = .ok (.areturn, 1) := by decide +kernel
theorem d67_37 : fet 67 37 = .ok (.iinc 2 1, 3) := by decide +kernel
theorem d67_40 : fet 67 40 = .ok (.goto (-38), 3) := by decide +kernel
theorem d67_43 : fet 67 43 = .ok (.aconst_null, 1) := by decide +kernel
theorem d67_44 : fet 67 44 = .ok (.areturn, 1) := by decide +kernel
theorem o68 : own 68 = RX10 := by decide +kernel
theorem d68_0 : fet 68 0 = .ok (.aload_n 0, 1) := by decide +kernel
theorem d68_1 : fet 68 1 = .ok (.iload_n 2, 1) := by decide +kernel
theorem d68_2 : fet 68 2 = .ok (.invokevirtual 72, 3) := by decide +kernel
theorem d68_5 : fet 68 5 = .ok (.astore_n 3, 1) := by decide +kernel
theorem d68_6 : fet 68 6 = .ok (.aload_n 3, 1) := by decide +kernel
theorem d68_7 : fet 68 7 = .ok (.ifnull 8, 3) := by decide +kernel
theorem d68_10 : fet 68 10 = .ok (.aload_n 3, 1) := by decide +kernel
theorem d68_11 : fet 68 11 = .ok (.aload_n 1, 1) := by decide +kernel
theorem d68_12 : fet 68 12 = .ok (.if_acmp .ne 7, 3) := by decide +kernel
theorem d68_15 : fet 68 15 = .ok (.iconst 1, 1) := by decide +kernel
theorem d68_16 : fet 68 16 = .ok (.goto 4, 3) := by decide +kernel
theorem d68_19 : fet 68 19 = .ok (.iconst 0, 1) := by decide +kernel
theorem d68_20 : fet 68 20 = .ok (.ireturn, 1) := by decide +kernel
theorem o69 : own 69 = RX10 := by decide +kernel
theorem d69_0 : fet 69 0 = .ok (.aload_n 0, 1) := by decide +kernel
theorem d69_1 : fet 69 1 = .ok (.getfield 33, 3) := by decide +kernel
theorem d69_4 : fet 69 4 = .ok (.iload_n 1, 1) := by decide +kernel
theorem d69_5 : fet 69 5 = .ok (.iaload, 1) := by decide +kernel
theorem d69_6 : fet 69 6 = .ok (.ldc 64, 2) := by decide +kernel
theorem d69_8 : fet 69 8 = .ok (.if_icmp .ne 38, 3) := by decide +kernel
theorem d69_11 : fet 69 11 = .ok (.aload_n 0, 1) := by decide +kernel
theorem d69_12 : fet 69 12 = .ok (.getfield 30, 3) := by decide +kernel
theorem d69_15 : fet 69 15 = .ok (.iload_n 1, 1) := by decide +kernel
theorem d69_16 : fet 69 16 = .ok (.iaload, 1) := by decide +kernel
theorem d69_17 : fet 69 17 = .ok (.aload_n 0, 1) := by decide +kernel
theorem d69_18 : fet 69 18 = .ok (.getfield 43, 3) := by decide +kernel
theorem d69_21 : fet 69 21 = .ok (.iload_n 3, 1) := by decide +kernel
theorem d69_22 : fet 69 22 = .ok (.iadd, 1) := by decide +kernel
theorem d69_23 : fet 69 23 = .ok (.if_icmp .gt 23, 3) := by decide +kernel
theorem d69_26 : fet 69 26 = .ok (.aload_n 0, 1) := by decide +kernel
theorem d69_27 : fet 69 27 = .ok (.getfield 27, 3) := by decide +kernel
theorem d69_30 : fet 69 30 = .ok (.iload_n 1, 1) := by decide +kernel
theorem d69_31 : fet 69 31 = .ok (.iaload, 1) := by decide +kernel
theorem d69_32 : fet 69 32 = .ok (.aload_n 2, 1) := by decide +kernel
theorem d69_33 : fet 69 33 = .ok (.getfield 76, 3) := by decide +kernel
theorem d69_36 : fet 69 36 = .ok (.getfield 80, 3) := by decide +kernel
theorem d69_39 : fet 69 39 = .ok (.if_icmp .ne 7, 3) := by decide +kernel
theorem d69_42 : fet 69 42 = .ok (.iconst 1, 1) := by decide +kernel
theorem d69_43 : fet 69 43 = .ok (.goto 4, 3) := by decide +kernel
theorem d69_46 : fet 69 46 = .ok (.iconst 0, 1) := by decide +kernel
theorem d69_47 : fet 69 47 = .ok (.ireturn, 1) := by decide +kernel
theorem o70 : own 70 = RX10 := by decide +kernel
theorem d70_0 : fet 70 0 = .ok (.aload_n 0, 1) := by decide +kernel
theorem d70_1 : fet 70 1 = .ok (.getfield 85, 3) := by decide +kernel
theorem d70_4 : fet 70 4 = .ok (.ifCond .le 27, 3) := by decide +kernel
theorem d70_7 : fet 70 7 = .ok (.aload_n 0, 1) := by decide +kernel
theorem d70_8 : fet 70 8 = .ok (.getfield 43, 3) := by decide +kernel
theorem d70_11 : fet 70 11 = .ok (.iload_n 1, 1) := by decide +kernel
theorem d70_12 : fet 70 12 = .ok (.iadd, 1) := by decide +kernel
theorem d70_13 : fet 70 13 = .ok (.aload_n 0, 1) := by decide +kernel
theorem d70_14 : fet 70 14 = .ok (.getfield 85, 3) := by decide +kernel
theorem d70_17 : fet 70 17 = .ok (.idiv, 1) := by decide +kernel
theorem d70_18 : fet 70 18 = .ok (.aload_n 0, 1) := by decide +kernel
theorem d70_19 : fet 70 19 = .ok (.getfield 43, 3) := by decide +kernel
theorem d70_22 : fet 70 22 = .ok (.aload_n 0, 1) := by decide +kernel
theorem d70_23 : fet 70 23 = .ok (.getfield 85, 3) := by decide +kernel
theorem d70_26 : fet 70 26 = .ok (.idiv, 1) := by decide +kernel
theorem d70_27 : fet 70 27 = .ok (.isub, 1) := by decide +kernel
theorem d70_28 : fet 70 28 = .ok (.goto 4, 3) := by decide +kernel
theorem d70_31 : fet 70 31 = .ok (.iconst 0, 1) := by decide +kernel
theorem d70_32 : fet 70 32 = .ok (.ireturn, 1) := by decide +kernel
theorem o71 : own 71 = RX10 := by decide +kernel
theorem d71_0 : fet 71 0 = .ok (.aload_n 0, 1) := by decide +kernel
theorem d71_1 : fet 71 1 = .ok (.iload_n 2, 1) := by decide +kernel
theorem d71_2 : fet 71 2 = .ok (.invokevirtual 88, 3) := by decide +kernel
theorem d71_5 : fet 71 5 = .ok (.istore_n 3, 1) := by decide +kernel
theorem d71_6 : fet 71 6 = .ok (.iconst 0, 1) := by decide +kernel
theorem d71_7 : fet 71 7 = .ok (.istore 4, 2) := by decide +kernel
theorem d71_9 : fet 71 9 = .ok (.iconst 0, 1) := by decide +kernel
theorem d71_10 : fet 71 10 = .ok (.istore 5, 2) := by decide +kernel
theorem d71_12 : fet 71 12 = .ok (.iload 5, 2) := by decide +kernel
theorem d71_14 : fet 71 14 = .ok (.aload_n 0, 1) := by decide +kernel
theorem d71_15 : fet 71 15 = .ok (.getfield 47, 3) := by decide +kernel
theorem d71_18 : fet 71 18 = .ok (.if_icmp .ge 83, 3) := by decide +kernel
theorem d71_21 : fet 71 21 = .ok (.aload_n 0, 1) := by decide +kernel
theorem d71_22 : fet 71 22 = .ok (.getfield 20, 3) := by decide +kernel
theorem d71_25 : fet 71 25 = .ok (.iload 5, 2) := by decide +kernel
theorem d71_27 : fet 71 27 = .ok (.iaload, 1) := by decide +kernel
theorem d71_28 : fet 71 28 = .ok (.iload_n 2, 1) := by decide +kernel
theorem d71_29 : fet 71 29 = .ok (.if_icmp .le 7, 3) := by decide +kernel
theorem d71_32 : fet 71 32 = .ok (.iconst 0, 1) := by decide +kernel
theorem d71_33 : fet 71 33 = .ok (.goto 16, 3) := by decide +kernel
theorem d71_36 : fet 71 36 = .ok (.iconst 0, 1) := by decide +kernel
theorem d71_37 : fet 71 37 = .ok (.aload_n 0, 1) := by decide +kernel
theorem d71_38 : fet 71 38 = .ok (.getfield 17, 3) := by decide +kernel
theorem d71_41 : fet 71 41 = .ok (.iload 5, 2) := by decide +kernel
theorem d71_43 : fet 71 43 = .ok (.iaload, 1) := by decide +kernel
theorem d71_44 : fet 71 44 = .ok (.iload_n 3, 1) := by decide +kernel
theorem d71_45 : fet 71 45 = .ok (.isub, 1) := by decide +kernel
theorem d71_46 : fet 71 46 = .ok (.invokestatic 92, 3) := by decide +kernel
theorem d71_49 : fet 71 49 = .ok (.istore 6, 2) := by decide +kernel
theorem d71_51 : fet 71 51 = .ok (.aload_n 0, 1) := by decide +kernel
theorem d71_52 : fet 71 52 = .ok (.getfield 11, 3) := by decide +kernel
theorem d71_55 : fet 71 55 = .ok (.iload 5, 2) := by decide +kernel
theorem d71_57 : fet 71 57 = .ok (.iaload, 1) := by decide +kernel
theorem d71_58 : fet 71 58 = .ok (.iload_n 1, 1) := by decide +kernel
theorem d71_59 : fet 71 59 = .ok (.if_icmp .ne 13, 3) := by decide +kernel
theorem d71_62 : fet 71 62 = .ok (.iload 4, 2) := by decide +kernel
theorem d71_64 : fet 71 64 = .ok (.iload 6, 2) := by decide +kernel
theorem d71_66 : fet 71 66 = .ok (.iadd, 1) := by decide +kernel
theorem d71_67 : fet 71 67 = .ok (.istore 4, 2) := by decide +kernel
theorem d71_69 : fet 71 69 = .ok (.goto 26, 3) := by decide +kernel
theorem d71_72 : fet 71 72 = .ok (.aload_n 0, 1) := by decide +kernel
theorem d71_73 : fet 71 73 = .ok (.getfield 11, 3) := by decide +kernel
theorem d71_76 : fet 71 76 = .ok (.iload 5, 2) := by decide +kernel
theorem d71_78 : fet 71 78 = .ok (.iaload, 1) := by decide +kernel
theorem d71_79 : fet 71 79 = .ok (.iload_n 1, 1) := by decide +kernel
theorem d71_80 : fet 71 80 = .ok (.invokestatic 98, 3) := by decide +kernel
theorem d71_83 : fet 71 83 = .ok (.ifCond .eq 12, 3) := by decide +kernel
theorem d71_86 : fet 71 86 = .ok (.iload 4, 2) := by decide +kernel
theorem d71_88 : fet 71 88 = .ok (.iload 6, 2) := by decide +kernel
theorem d71_90 : fet 71 90 = .ok (.iconst 2, 1) := by decide +kernel
theorem d71_91 : fet 71 91 = .ok (.idiv, 1) := by decide +kernel
theorem d71_92 : fet 71 92 = .ok (.iadd, 1) := by decide +kernel
theorem d71_93 : fet 71 93 = .ok (.istore 4, 2) := by decide +kernel
theorem d71_95 : fet 71 95 = .ok (.iinc 5 1, 3) := by decide +kernel
theorem d71_98 : fet 71 98 = .ok (.goto (-86), 3) := by decide +kernel
theorem d71_101 : fet 71 101 = .ok (.iload 4, 2) := by decide +kernel
theorem d71_103 : fet 71 103 = .ok (.ireturn, 1) := by decide +kernel
end
section
/-! words of the tables, by place (printed by wip/whole/p10.py) -/
theorem tbs {ws : List Cond} (ps : List Nat) (hp : ws.map some = ps.map (fun i => lw_tbl[i]?)) (hg : ws.all goodWord = true) : ∀ w ∈ ws, w ∈ TBL := by
  intro w hw
  have h1 : some w ∈ ps.map (fun i => lw_tbl[i]?) := by rw [← hp]; exact List.mem_map.mpr ⟨w, hw, rfl⟩
  obtain ⟨i, -, hi0⟩ := List.mem_map.mp h1
  exact tb i hi0 (List.all_eq_true.mp hg w hw)
theorem pl {h : Hp} {p : Nat} (hN : hn h = 65) (hp : Nat.blt p 65 = true) : p < hn h := by rw [hN]; exact Nat.lt_of_lt_of_le (Nat.le_of_ble_eq_true hp) (Nat.le_refl _)
theorem uw0 : ∀ w ∈ u_ws RX0 TX0 4, w ∈ TBL := tbs [224, 225, 226, 227] (by decide +kernel) (by decide +kernel)
theorem ck0 : ClsOK (RX0, TX0, 4) := ⟨⟨tyX0, tyX0_ok⟩, nmX0⟩
theorem uw1 : ∀ w ∈ u_ws RX1 TX1 4, w ∈ TBL := tbs [202, 203, 204, 205] (by decide +kernel) (by decide +kernel)
theorem ck1 : ClsOK (RX1, TX1, 4) := ⟨⟨tyX1, tyX1_ok⟩, nmX1⟩
theorem uw2 : ∀ w ∈ u_ws RX2 TX2 4, w ∈ TBL := tbs [235, 236, 237, 238] (by decide +kernel) (by decide +kernel)
theorem ck2 : ClsOK (RX2, TX2, 4) := ⟨⟨tyX2, tyX2_ok⟩, nmX2⟩
theorem uw3 : ∀ w ∈ u_ws RX3 TX3 4, w ∈ TBL := tbs [176, 178, 180, 182] (by decide +kernel) (by decide +kernel)
theorem ck3 : ClsOK (RX3, TX3, 4) := ⟨⟨tyX3, tyX3_ok⟩, nmX3⟩
theorem uw4 : ∀ w ∈ u_ws RX4 TX4 6, w ∈ TBL := tbs [128, 130, 132, 134, 136, 138] (by decide +kernel) (by decide +kernel)
theorem ck4 : ClsOK (RX4, TX4, 6) := ⟨⟨tyX4, tyX4_ok⟩, nmX4⟩
theorem uw5 : ∀ w ∈ u_ws RX5 TX5 3, w ∈ TBL := tbs [105, 107, 109] (by decide +kernel) (by decide +kernel)
theorem ck5 : ClsOK (RX5, TX5, 3) := ⟨⟨tyX5, tyX5_ok⟩, nmX5⟩
theorem uw6 : ∀ w ∈ u_ws RX6 TX6 4, w ∈ TBL := tbs [191, 192, 193, 194] (by decide +kernel) (by decide +kernel)
theorem ck6 : ClsOK (RX6, TX6, 4) := ⟨⟨tyX6, tyX6_ok⟩, nmX6⟩
theorem uw7 : ∀ w ∈ u_ws RX7 TX7 4, w ∈ TBL := tbs [213, 214, 215, 216] (by decide +kernel) (by decide +kernel)
theorem ck7 : ClsOK (RX7, TX7, 4) := ⟨⟨tyX7, tyX7_ok⟩, nmX7⟩
theorem uw8 : ∀ w ∈ u_ws RX8 TX8 8, w ∈ TBL := tbs [268, 270, 272, 274, 276, 278, 280, 282] (by decide +kernel) (by decide +kernel)
theorem ck8 : ClsOK (RX8, TX8, 8) := ⟨⟨tyX8, tyX8_ok⟩, nmX8⟩
theorem uw9 : ∀ w ∈ u_ws RX9 TX9 2, w ∈ TBL := tbs [151, 153] (by decide +kernel) (by decide +kernel)
theorem ck9 : ClsOK (RX9, TX9, 2) := ⟨⟨tyX9, tyX9_ok⟩, nmX9⟩
theorem uw10 : ∀ w ∈ u_ws RX10 TX10 14, w ∈ TBL := tbs [324, 326, 328, 330, 332, 334, 336, 338, 340, 342, 344, 346, 348, 350] (by decide +kernel) (by decide +kernel)
theorem ck10 : ClsOK (RX10, TX10, 14) := ⟨⟨tyX10, tyX10_ok⟩, nmX10⟩
theorem uw11 : ∀ w ∈ u_ws RX11 TX11 17, w ∈ TBL := tbs [370, 372, 374, 376, 378, 380, 382, 384, 386, 388, 390, 392, 394, 396, 398, 400, 402] (by decide +kernel) (by decide +kernel)
theorem ck11 : ClsOK (RX11, TX11, 17) := ⟨⟨tyX11, tyX11_ok⟩, nmX11⟩
theorem uw12 : ∀ w ∈ u_ws RX12 TX12 24, w ∈ TBL := tbs [1024, 1026, 1028, 1030, 1032, 1034, 1036, 1038, 1040, 1042, 1044, 1046, 1048, 1050, 1052, 1054, 1056, 1058, 1060, 1062, 1064, 1066, 1068, 1070] (by decide +kernel) (by decide +kernel)
theorem ck12 : ClsOK (RX12, TX12, 24) := ⟨⟨tyX12, tyX12_ok⟩, nmX12⟩
theorem sh0 : SH 0 = (0, 11) := rfl
theorem sh1 : SH 1 = (0, 5) := rfl
theorem sh2 : SH 2 = (1, 320) := rfl
theorem sh3 : SH 3 = (1, 8) := rfl
theorem sh4 : SH 4 = (1, 8) := rfl
theorem sh5 : SH 5 = (0, 4) := rfl
theorem sh6 : SH 6 = (1, 160) := rfl
theorem sh7 : SH 7 = (0, 9) := rfl
theorem sh8 : SH 8 = (1, 16) := rfl
theorem sh9 : SH 9 = (3, 6) := rfl
theorem sh10 : SH 10 = (0, 3) := rfl
theorem sh11 : SH 11 = (0, 6) := rfl
theorem sh12 : SH 12 = (0, 1) := rfl
theorem sh13 : SH 13 = (0, 7) := rfl
theorem sh14 : SH 14 = (0, 0) := rfl
theorem sh15 : SH 15 = (0, 2) := rfl
theorem sh16 : SH 16 = (0, 8) := rfl
theorem sh17 : SH 17 = (0, 10) := rfl
theorem sh18 : SH 18 = (1, 8) := rfl
theorem sh19 : SH 19 = (1, 8) := rfl
theorem sh20 : SH 20 = (1, 8) := rfl
theorem sh21 : SH 21 = (4, 6) := rfl
theorem sh22 : SH 22 = (1, 4) := rfl
theorem sh23 : SH 23 = (1, 4) := rfl
theorem sh24 : SH 24 = (1, 4) := rfl
theorem sh25 : SH 25 = (0, 8) := rfl
theorem sh26 : SH 26 = (0, 8) := rfl
theorem sh27 : SH 27 = (0, 8) := rfl
theorem sh28 : SH 28 = (0, 8) := rfl
theorem sh29 : SH 29 = (0, 8) := rfl
theorem sh30 : SH 30 = (0, 8) := rfl
theorem sh31 : SH 31 = (0, 10) := rfl
theorem sh32 : SH 32 = (1, 8) := rfl
theorem sh33 : SH 33 = (1, 8) := rfl
theorem sh34 : SH 34 = (1, 8) := rfl
theorem sh35 : SH 35 = (4, 6) := rfl
theorem sh36 : SH 36 = (1, 4) := rfl
theorem sh37 : SH 37 = (1, 4) := rfl
theorem sh38 : SH 38 = (1, 4) := rfl
theorem sh39 : SH 39 = (0, 8) := rfl
theorem sh40 : SH 40 = (0, 8) := rfl
theorem sh41 : SH 41 = (0, 8) := rfl
theorem sh42 : SH 42 = (0, 8) := rfl
theorem sh43 : SH 43 = (0, 8) := rfl
theorem sh44 : SH 44 = (0, 8) := rfl
theorem sh45 : SH 45 = (1, 2016) := rfl
theorem sh46 : SH 46 = (1, 168) := rfl
theorem sh47 : SH 47 = (2, 2) := rfl
theorem sh48 : SH 48 = (1, 84) := rfl
theorem sh49 : SH 49 = (1, 60) := rfl
theorem sh50 : SH 50 = (0, 12) := rfl
theorem sh51 : SH 51 = (1, 85) := rfl
theorem sh52 : SH 52 = (1, 170) := rfl
theorem sh53 : SH 53 = (2, 2) := rfl
theorem sh54 : SH 54 = (1, 1584) := rfl
theorem sh55 : SH 55 = (1, 8) := rfl
theorem sh56 : SH 56 = (1, 8) := rfl
theorem sh57 : SH 57 = (1, 320) := rfl
theorem sh58 : SH 58 = (1, 160) := rfl
theorem sh59 : SH 59 = (1, 85) := rfl
theorem sh60 : SH 60 = (1, 6) := rfl
theorem sh61 : SH 61 = (1, 66) := rfl
theorem sh62 : SH 62 = (2, 6) := rfl
theorem sh63 : SH 63 = (1, 4) := rfl
theorem sh64 : SH 64 = (1, 16) := rfl
end
section
theorem m0 : MI 0 := ⟨(tb 222 (by decide +kernel) rfl), (tb 221 (by decide +kernel) rfl), (tb 80 (by decide +kernel) rfl), ⟨by decide +kernel, by decide +kernel, by decide +kernel⟩⟩
theorem m1 : MI 1 := ⟨(tb 928 (by decide +kernel) rfl), (tb 927 (by decide +kernel) rfl), (tb 80 (by decide +kernel) rfl), ⟨by decide +kernel, by decide +kernel, by decide +kernel⟩⟩
theorem m2 : MI 2 := ⟨(tb 971 (by decide +kernel) rfl), (tb 970 (by decide +kernel) rfl), (tb 80 (by decide +kernel) rfl), ⟨by decide +kernel, by decide +kernel, by decide +kernel⟩⟩
theorem m3 : MI 3 := ⟨(tb 200 (by decide +kernel) rfl), (tb 199 (by decide +kernel) rfl), (tb 78 (by decide +kernel) rfl), ⟨by decide +kernel, by decide +kernel, by decide +kernel⟩⟩
theorem m4 : MI 4 := ⟨(tb 936 (by decide +kernel) rfl), (tb 935 (by decide +kernel) rfl), (tb 78 (by decide +kernel) rfl), ⟨by decide +kernel, by decide +kernel, by decide +kernel⟩⟩
theorem m5 : MI 5 := ⟨(tb 949 (by decide +kernel) rfl), (tb 948 (by decide +kernel) rfl), (tb 78 (by decide +kernel) rfl), ⟨by decide +kernel, by decide +kernel, by decide +kernel⟩⟩
theorem m6 : MI 6 := ⟨(tb 233 (by decide +kernel) rfl), (tb 232 (by decide +kernel) rfl), (tb 81 (by decide +kernel) rfl), ⟨by decide +kernel, by decide +kernel, by decide +kernel⟩⟩
theorem m7 : MI 7 := ⟨(tb 963 (by decide +kernel) rfl), (tb 962 (by decide +kernel) rfl), (tb 81 (by decide +kernel) rfl), ⟨by decide +kernel, by decide +kernel, by decide +kernel⟩⟩
theorem m8 : MI 8 := ⟨(tb 164 (by decide +kernel) rfl), (tb 163 (by decide +kernel) rfl), (tb 76 (by decide +kernel) rfl), ⟨by decide +kernel, by decide +kernel, by decide +kernel⟩⟩
theorem m9 : MI 9 := ⟨(tb 647 (by decide +kernel) rfl), (tb 639 (by decide +kernel) rfl), (tb 76 (by decide +kernel) rfl), ⟨by decide +kernel, by decide +kernel, by decide +kernel⟩⟩
theorem m10 : MI 10 := ⟨(tb 636 (by decide +kernel) rfl), (tb 626 (by decide +kernel) rfl), (tb 76 (by decide +kernel) rfl), ⟨by decide +kernel, by decide +kernel, by decide +kernel⟩⟩
theorem m11 : MI 11 := ⟨(tb 968 (by decide +kernel) rfl), (tb 923 (by decide +kernel) rfl), (tb 76 (by decide +kernel) rfl), ⟨by decide +kernel, by decide +kernel, by decide +kernel⟩⟩
theorem m12 : MI 12 := ⟨(tb 959 (by decide +kernel) rfl), (tb 958 (by decide +kernel) rfl), (tb 76 (by decide +kernel) rfl), ⟨by decide +kernel, by decide +kernel, by decide +kernel⟩⟩
theorem m13 : MI 13 := ⟨(tb 117 (by decide +kernel) rfl), (tb 116 (by decide +kernel) rfl), (tb 74 (by decide +kernel) rfl), ⟨by decide +kernel, by decide +kernel, by decide +kernel⟩⟩
theorem m14 : MI 14 := ⟨(tb 474 (by decide +kernel) rfl), (tb 472 (by decide +kernel) rfl), (tb 74 (by decide +kernel) rfl), ⟨by decide +kernel, by decide +kernel, by decide +kernel⟩⟩
theorem m15 : MI 15 := ⟨(tb 483 (by decide +kernel) rfl), (tb 481 (by decide +kernel) rfl), (tb 74 (by decide +kernel) rfl), ⟨by decide +kernel, by decide +kernel, by decide +kernel⟩⟩
theorem m16 : MI 16 := ⟨(tb 491 (by decide +kernel) rfl), (tb 489 (by decide +kernel) rfl), (tb 74 (by decide +kernel) rfl), ⟨by decide +kernel, by decide +kernel, by decide +kernel⟩⟩
theorem m17 : MI 17 := ⟨(tb 514 (by decide +kernel) rfl), (tb 512 (by decide +kernel) rfl), (tb 74 (by decide +kernel) rfl), ⟨by decide +kernel, by decide +kernel, by decide +kernel⟩⟩
theorem m18 : MI 18 := ⟨(tb 526 (by decide +kernel) rfl), (tb 524 (by decide +kernel) rfl), (tb 74 (by decide +kernel) rfl), ⟨by decide +kernel, by decide +kernel, by decide +kernel⟩⟩
theorem m19 : MI 19 := ⟨(tb 553 (by decide +kernel) rfl), (tb 551 (by decide +kernel) rfl), (tb 74 (by decide +kernel) rfl), ⟨by decide +kernel, by decide +kernel, by decide +kernel⟩⟩
theorem m20 : MI 20 := ⟨(tb 499 (by decide +kernel) rfl), (tb 497 (by decide +kernel) rfl), (tb 74 (by decide +kernel) rfl), ⟨by decide +kernel, by decide +kernel, by decide +kernel⟩⟩
theorem m21 : MI 21 := ⟨(tb 495 (by decide +kernel) rfl), (tb 493 (by decide +kernel) rfl), (tb 74 (by decide +kernel) rfl), ⟨by decide +kernel, by decide +kernel, by decide +kernel⟩⟩
theorem m22 : MI 22 := ⟨(tb 530 (by decide +kernel) rfl), (tb 528 (by decide +kernel) rfl), (tb 74 (by decide +kernel) rfl), ⟨by decide +kernel, by decide +kernel, by decide +kernel⟩⟩
theorem m23 : MI 23 := ⟨(tb 507 (by decide +kernel) rfl), (tb 505 (by decide +kernel) rfl), (tb 74 (by decide +kernel) rfl), ⟨by decide +kernel, by decide +kernel, by decide +kernel⟩⟩
theorem m24 : MI 24 := ⟨(tb 503 (by decide +kernel) rfl), (tb 501 (by decide +kernel) rfl), (tb 74 (by decide +kernel) rfl), ⟨by decide +kernel, by decide +kernel, by decide +kernel⟩⟩
theorem m25 : MSt 25 := ⟨(tb 510 (by decide +kernel) rfl), (tb 509 (by decide +kernel) rfl), (tb 74 (by decide +kernel) rfl), ⟨by decide +kernel, by decide +kernel, by decide +kernel⟩⟩
theorem m26 : MSt 26 := ⟨(tb 521 (by decide +kernel) rfl), (tb 520 (by decide +kernel) rfl), (tb 74 (by decide +kernel) rfl), ⟨by decide +kernel, by decide +kernel, by decide +kernel⟩⟩
theorem m27 : MI 27 := ⟨(tb 100 (by decide +kernel) rfl), (tb 99 (by decide +kernel) rfl), (tb 73 (by decide +kernel) rfl), ⟨by decide +kernel, by decide +kernel, by decide +kernel⟩⟩
theorem m28 : MI 28 := ⟨(tb 413 (by decide +kernel) rfl), (tb 411 (by decide +kernel) rfl), (tb 73 (by decide +kernel) rfl), ⟨by decide +kernel, by decide +kernel, by decide +kernel⟩⟩
theorem m29 : MI 29 := ⟨(tb 435 (by decide +kernel) rfl), (tb 433 (by decide +kernel) rfl), (tb 73 (by decide +kernel) rfl), ⟨by decide +kernel, by decide +kernel, by decide +kernel⟩⟩
theorem m30 : MI 30 := ⟨(tb 451 (by decide +kernel) rfl), (tb 449 (by decide +kernel) rfl), (tb 73 (by decide +kernel) rfl), ⟨by decide +kernel, by decide +kernel, by decide +kernel⟩⟩
theorem m31 : MI 31 := ⟨(tb 439 (by decide +kernel) rfl), (tb 437 (by decide +kernel) rfl), (tb 73 (by decide +kernel) rfl), ⟨by decide +kernel, by decide +kernel, by decide +kernel⟩⟩
theorem m32 : MI 32 := ⟨(tb 423 (by decide +kernel) rfl), (tb 421 (by decide +kernel) rfl), (tb 73 (by decide +kernel) rfl), ⟨by decide +kernel, by decide +kernel, by decide +kernel⟩⟩
theorem m33 : MI 33 := ⟨(tb 887 (by decide +kernel) rfl), (tb 885 (by decide +kernel) rfl), (tb 73 (by decide +kernel) rfl), ⟨by decide +kernel, by decide +kernel, by decide +kernel⟩⟩
theorem m34 : MI 34 := ⟨(tb 443 (by decide +kernel) rfl), (tb 441 (by decide +kernel) rfl), (tb 73 (by decide +kernel) rfl), ⟨by decide +kernel, by decide +kernel, by decide +kernel⟩⟩
theorem m35 : MI 35 := ⟨(tb 455 (by decide +kernel) rfl), (tb 453 (by decide +kernel) rfl), (tb 73 (by decide +kernel) rfl), ⟨by decide +kernel, by decide +kernel, by decide +kernel⟩⟩
theorem m36 : MI 36 := ⟨(tb 466 (by decide +kernel) rfl), (tb 464 (by decide +kernel) rfl), (tb 73 (by decide +kernel) rfl), ⟨by decide +kernel, by decide +kernel, by decide +kernel⟩⟩
theorem m37 : MI 37 := ⟨(tb 985 (by decide +kernel) rfl), (tb 983 (by decide +kernel) rfl), (tb 73 (by decide +kernel) rfl), ⟨by decide +kernel, by decide +kernel, by decide +kernel⟩⟩
theorem m38 : MI 38 := ⟨(tb 189 (by decide +kernel) rfl), (tb 188 (by decide +kernel) rfl), (tb 77 (by decide +kernel) rfl), ⟨by decide +kernel, by decide +kernel, by decide +kernel⟩⟩
theorem m39 : MI 39 := ⟨(tb 632 (by decide +kernel) rfl), (tb 631 (by decide +kernel) rfl), (tb 77 (by decide +kernel) rfl), ⟨by decide +kernel, by decide +kernel, by decide +kernel⟩⟩
theorem m40 : MI 40 := ⟨(tb 940 (by decide +kernel) rfl), (tb 939 (by decide +kernel) rfl), (tb 77 (by decide +kernel) rfl), ⟨by decide +kernel, by decide +kernel, by decide +kernel⟩⟩
theorem m41 : MI 41 := ⟨(tb 956 (by decide +kernel) rfl), (tb 944 (by decide +kernel) rfl), (tb 77 (by decide +kernel) rfl), ⟨by decide +kernel, by decide +kernel, by decide +kernel⟩⟩
theorem m42 : MI 42 := ⟨(tb 211 (by decide +kernel) rfl), (tb 210 (by decide +kernel) rfl), (tb 79 (by decide +kernel) rfl), ⟨by decide +kernel, by decide +kernel, by decide +kernel⟩⟩
theorem m43 : MI 43 := ⟨(tb 953 (by decide +kernel) rfl), (tb 952 (by decide +kernel) rfl), (tb 79 (by decide +kernel) rfl), ⟨by decide +kernel, by decide +kernel, by decide +kernel⟩⟩
theorem m44 : MI 44 := ⟨(tb 244 (by decide +kernel) rfl), (tb 243 (by decide +kernel) rfl), (tb 82 (by decide +kernel) rfl), ⟨by decide +kernel, by decide +kernel, by decide +kernel⟩⟩
theorem m45 : MI 45 := ⟨(tb 549 (by decide +kernel) rfl), (tb 547 (by decide +kernel) rfl), (tb 82 (by decide +kernel) rfl), ⟨by decide +kernel, by decide +kernel, by decide +kernel⟩⟩
theorem m46 : MI 46 := ⟨(tb 773 (by decide +kernel) rfl), (tb 771 (by decide +kernel) rfl), (tb 82 (by decide +kernel) rfl), ⟨by decide +kernel, by decide +kernel, by decide +kernel⟩⟩
theorem m47 : MI 47 := ⟨(tb 651 (by decide +kernel) rfl), (tb 649 (by decide +kernel) rfl), (tb 82 (by decide +kernel) rfl), ⟨by decide +kernel, by decide +kernel, by decide +kernel⟩⟩
theorem m48 : MI 48 := ⟨(tb 711 (by decide +kernel) rfl), (tb 709 (by decide +kernel) rfl), (tb 82 (by decide +kernel) rfl), ⟨by decide +kernel, by decide +kernel, by decide +kernel⟩⟩
theorem m49 : MI 49 := ⟨(tb 707 (by decide +kernel) rfl), (tb 705 (by decide +kernel) rfl), (tb 82 (by decide +kernel) rfl), ⟨by decide +kernel, by decide +kernel, by decide +kernel⟩⟩
theorem m50 : MI 50 := ⟨(tb 741 (by decide +kernel) rfl), (tb 739 (by decide +kernel) rfl), (tb 82 (by decide +kernel) rfl), ⟨by decide +kernel, by decide +kernel, by decide +kernel⟩⟩
theorem m51 : MI 51 := ⟨(tb 668 (by decide +kernel) rfl), (tb 666 (by decide +kernel) rfl), (tb 82 (by decide +kernel) rfl), ⟨by decide +kernel, by decide +kernel, by decide +kernel⟩⟩
theorem m52 : MI 52 := ⟨(tb 624 (by decide +kernel) rfl), (tb 622 (by decide +kernel) rfl), (tb 82 (by decide +kernel) rfl), ⟨by decide +kernel, by decide +kernel, by decide +kernel⟩⟩
theorem m53 : MI 53 := ⟨(tb 620 (by decide +kernel) rfl), (tb 618 (by decide +kernel) rfl), (tb 82 (by decide +kernel) rfl), ⟨by decide +kernel, by decide +kernel, by decide +kernel⟩⟩
theorem m54 : MI 54 := ⟨(tb 655 (by decide +kernel) rfl), (tb 653 (by decide +kernel) rfl), (tb 82 (by decide +kernel) rfl), ⟨by decide +kernel, by decide +kernel, by decide +kernel⟩⟩
theorem m55 : MI 55 := ⟨(tb 581 (by decide +kernel) rfl), (tb 579 (by decide +kernel) rfl), (tb 82 (by decide +kernel) rfl), ⟨by decide +kernel, by decide +kernel, by decide +kernel⟩⟩
theorem m56 : MI 56 := ⟨(tb 732 (by decide +kernel) rfl), (tb 730 (by decide +kernel) rfl), (tb 82 (by decide +kernel) rfl), ⟨by decide +kernel, by decide +kernel, by decide +kernel⟩⟩
theorem m57 : MI 57 := ⟨(tb 145 (by decide +kernel) rfl), (tb 144 (by decide +kernel) rfl), (tb 75 (by decide +kernel) rfl), ⟨by decide +kernel, by decide +kernel, by decide +kernel⟩⟩
theorem m58 : MI 58 := ⟨(tb 932 (by decide +kernel) rfl), (tb 930 (by decide +kernel) rfl), (tb 75 (by decide +kernel) rfl), ⟨by decide +kernel, by decide +kernel, by decide +kernel⟩⟩
theorem m59 : MI 59 := ⟨(tb 289 (by decide +kernel) rfl), (tb 288 (by decide +kernel) rfl), (tb 83 (by decide +kernel) rfl), ⟨by decide +kernel, by decide +kernel, by decide +kernel⟩⟩
theorem m60 : MI 60 := ⟨(tb 487 (by decide +kernel) rfl), (tb 485 (by decide +kernel) rfl), (tb 83 (by decide +kernel) rfl), ⟨by decide +kernel, by decide +kernel, by decide +kernel⟩⟩
theorem m61 : MI 61 := ⟨(tb 518 (by decide +kernel) rfl), (tb 516 (by decide +kernel) rfl), (tb 83 (by decide +kernel) rfl), ⟨by decide +kernel, by decide +kernel, by decide +kernel⟩⟩
theorem m62 : MI 62 := ⟨(tb 541 (by decide +kernel) rfl), (tb 539 (by decide +kernel) rfl), (tb 83 (by decide +kernel) rfl), ⟨by decide +kernel, by decide +kernel, by decide +kernel⟩⟩
theorem m63 : MI 63 := ⟨(tb 557 (by decide +kernel) rfl), (tb 555 (by decide +kernel) rfl), (tb 83 (by decide +kernel) rfl), ⟨by decide +kernel, by decide +kernel, by decide +kernel⟩⟩
theorem m64 : MI 64 := ⟨(tb 545 (by decide +kernel) rfl), (tb 543 (by decide +kernel) rfl), (tb 83 (by decide +kernel) rfl), ⟨by decide +kernel, by decide +kernel, by decide +kernel⟩⟩
theorem m65 : MI 65 := ⟨(tb 663 (by decide +kernel) rfl), (tb 661 (by decide +kernel) rfl), (tb 83 (by decide +kernel) rfl), ⟨by decide +kernel, by decide +kernel, by decide +kernel⟩⟩
theorem m66 : MI 66 := ⟨(tb 703 (by decide +kernel) rfl), (tb 701 (by decide +kernel) rfl), (tb 83 (by decide +kernel) rfl), ⟨by decide +kernel, by decide +kernel, by decide +kernel⟩⟩
theorem m67 : MI 67 := ⟨(tb 534 (by decide +kernel) rfl), (tb 532 (by decide +kernel) rfl), (tb 83 (by decide +kernel) rfl), ⟨by decide +kernel, by decide +kernel, by decide +kernel⟩⟩
theorem m68 : MI 68 := ⟨(tb 676 (by decide +kernel) rfl), (tb 674 (by decide +kernel) rfl), (tb 83 (by decide +kernel) rfl), ⟨by decide +kernel, by decide +kernel, by decide +kernel⟩⟩
theorem m69 : MI 69 := ⟨(tb 715 (by decide +kernel) rfl), (tb 713 (by decide +kernel) rfl), (tb 83 (by decide +kernel) rfl), ⟨by decide +kernel, by decide +kernel, by decide +kernel⟩⟩
theorem m70 : MI 70 := ⟨(tb 603 (by decide +kernel) rfl), (tb 601 (by decide +kernel) rfl), (tb 83 (by decide +kernel) rfl), ⟨by decide +kernel, by decide +kernel, by decide +kernel⟩⟩
theorem m71 : MI 71 := ⟨(tb 599 (by decide +kernel) rfl), (tb 597 (by decide +kernel) rfl), (tb 83 (by decide +kernel) rfl), ⟨by decide +kernel, by decide +kernel, by decide +kernel⟩⟩
theorem m72 : MSt 72 := ⟨(tb 609 (by decide +kernel) rfl), (tb 608 (by decide +kernel) rfl), (tb 83 (by decide +kernel) rfl), ⟨by decide +kernel, by decide +kernel, by decide +kernel⟩⟩
theorem m73 : MI 73 := ⟨(tb 616 (by decide +kernel) rfl), (tb 614 (by decide +kernel) rfl), (tb 83 (by decide +kernel) rfl), ⟨by decide +kernel, by decide +kernel, by decide +kernel⟩⟩
theorem m74 : MI 74 := ⟨(tb 595 (by decide +kernel) rfl), (tb 593 (by decide +kernel) rfl), (tb 83 (by decide +kernel) rfl), ⟨by decide +kernel, by decide +kernel, by decide +kernel⟩⟩
theorem m75 : MI 75 := ⟨(tb 591 (by decide +kernel) rfl), (tb 589 (by decide +kernel) rfl), (tb 83 (by decide +kernel) rfl), ⟨by decide +kernel, by decide +kernel, by decide +kernel⟩⟩
theorem m76 : MI 76 := ⟨(tb 691 (by decide +kernel) rfl), (tb 689 (by decide +kernel) rfl), (tb 83 (by decide +kernel) rfl), ⟨by decide +kernel, by decide +kernel, by decide +kernel⟩⟩
theorem m77 : MI 77 := ⟨(tb 695 (by decide +kernel) rfl), (tb 693 (by decide +kernel) rfl), (tb 83 (by decide +kernel) rfl), ⟨by decide +kernel, by decide +kernel, by decide +kernel⟩⟩
theorem m78 : MI 78 := ⟨(tb 895 (by decide +kernel) rfl), (tb 893 (by decide +kernel) rfl), (tb 83 (by decide +kernel) rfl), ⟨by decide +kernel, by decide +kernel, by decide +kernel⟩⟩
theorem m79 : MI 79 := ⟨(tb 719 (by decide +kernel) rfl), (tb 717 (by decide +kernel) rfl), (tb 83 (by decide +kernel) rfl), ⟨by decide +kernel, by decide +kernel, by decide +kernel⟩⟩
theorem m80 : MI 80 := ⟨(tb 866 (by decide +kernel) rfl), (tb 864 (by decide +kernel) rfl), (tb 83 (by decide +kernel) rfl), ⟨by decide +kernel, by decide +kernel, by decide +kernel⟩⟩
theorem m81 : MI 81 := ⟨(tb 870 (by decide +kernel) rfl), (tb 868 (by decide +kernel) rfl), (tb 83 (by decide +kernel) rfl), ⟨by decide +kernel, by decide +kernel, by decide +kernel⟩⟩
theorem m82 : MI 82 := ⟨(tb 874 (by decide +kernel) rfl), (tb 872 (by decide +kernel) rfl), (tb 83 (by decide +kernel) rfl), ⟨by decide +kernel, by decide +kernel, by decide +kernel⟩⟩
theorem m83 : MI 83 := ⟨(tb 576 (by decide +kernel) rfl), (tb 574 (by decide +kernel) rfl), (tb 83 (by decide +kernel) rfl), ⟨by decide +kernel, by decide +kernel, by decide +kernel⟩⟩
theorem m84 : MI 84 := ⟨(tb 728 (by decide +kernel) rfl), (tb 726 (by decide +kernel) rfl), (tb 83 (by decide +kernel) rfl), ⟨by decide +kernel, by decide +kernel, by decide +kernel⟩⟩
theorem m85 : MI 85 := ⟨(tb 92 (by decide +kernel) rfl), (tb 91 (by decide +kernel) rfl), (tb 72 (by decide +kernel) rfl), ⟨by decide +kernel, by decide +kernel, by decide +kernel⟩⟩
theorem m86 : MSt 86 := ⟨(tb 158 (by decide +kernel) rfl), (tb 157 (by decide +kernel) rfl), (tb 72 (by decide +kernel) rfl), ⟨by decide +kernel, by decide +kernel, by decide +kernel⟩⟩
theorem m87 : MI 87 := ⟨(tb 409 (by decide +kernel) rfl), (tb 407 (by decide +kernel) rfl), (tb 72 (by decide +kernel) rfl), ⟨by decide +kernel, by decide +kernel, by decide +kernel⟩⟩
theorem m88 : MI 88 := ⟨(tb 431 (by decide +kernel) rfl), (tb 429 (by decide +kernel) rfl), (tb 72 (by decide +kernel) rfl), ⟨by decide +kernel, by decide +kernel, by decide +kernel⟩⟩
theorem m89 : MI 89 := ⟨(tb 447 (by decide +kernel) rfl), (tb 445 (by decide +kernel) rfl), (tb 72 (by decide +kernel) rfl), ⟨by decide +kernel, by decide +kernel, by decide +kernel⟩⟩
theorem m90 : MI 90 := ⟨(tb 462 (by decide +kernel) rfl), (tb 460 (by decide +kernel) rfl), (tb 72 (by decide +kernel) rfl), ⟨by decide +kernel, by decide +kernel, by decide +kernel⟩⟩
theorem m91 : MI 91 := ⟨(tb 418 (by decide +kernel) rfl), (tb 417 (by decide +kernel) rfl), (tb 72 (by decide +kernel) rfl), ⟨by decide +kernel, by decide +kernel, by decide +kernel⟩⟩
theorem m92 : MI 92 := ⟨(tb 427 (by decide +kernel) rfl), (tb 426 (by decide +kernel) rfl), (tb 72 (by decide +kernel) rfl), ⟨by decide +kernel, by decide +kernel, by decide +kernel⟩⟩
theorem m93 : MI 93 := ⟨(tb 470 (by decide +kernel) rfl), (tb 468 (by decide +kernel) rfl), (tb 72 (by decide +kernel) rfl), ⟨by decide +kernel, by decide +kernel, by decide +kernel⟩⟩
theorem m94 : MI 94 := ⟨(tb 479 (by decide +kernel) rfl), (tb 477 (by decide +kernel) rfl), (tb 72 (by decide +kernel) rfl), ⟨by decide +kernel, by decide +kernel, by decide +kernel⟩⟩
theorem m95 : MI 95 := ⟨(tb 563 (by decide +kernel) rfl), (tb 561 (by decide +kernel) rfl), (tb 72 (by decide +kernel) rfl), ⟨by decide +kernel, by decide +kernel, by decide +kernel⟩⟩
theorem m96 : MI 96 := ⟨(tb 567 (by decide +kernel) rfl), (tb 565 (by decide +kernel) rfl), (tb 72 (by decide +kernel) rfl), ⟨by decide +kernel, by decide +kernel, by decide +kernel⟩⟩
theorem m97 : MI 97 := ⟨(tb 659 (by decide +kernel) rfl), (tb 657 (by decide +kernel) rfl), (tb 72 (by decide +kernel) rfl), ⟨by decide +kernel, by decide +kernel, by decide +kernel⟩⟩
theorem m98 : MI 98 := ⟨(tb 672 (by decide +kernel) rfl), (tb 670 (by decide +kernel) rfl), (tb 72 (by decide +kernel) rfl), ⟨by decide +kernel, by decide +kernel, by decide +kernel⟩⟩
theorem m99 : MI 99 := ⟨(tb 681 (by decide +kernel) rfl), (tb 679 (by decide +kernel) rfl), (tb 72 (by decide +kernel) rfl), ⟨by decide +kernel, by decide +kernel, by decide +kernel⟩⟩
theorem m100 : MI 100 := ⟨(tb 687 (by decide +kernel) rfl), (tb 685 (by decide +kernel) rfl), (tb 72 (by decide +kernel) rfl), ⟨by decide +kernel, by decide +kernel, by decide +kernel⟩⟩
theorem m101 : MI 101 := ⟨(tb 699 (by decide +kernel) rfl), (tb 697 (by decide +kernel) rfl), (tb 72 (by decide +kernel) rfl), ⟨by decide +kernel, by decide +kernel, by decide +kernel⟩⟩
theorem m102 : MI 102 := ⟨(tb 724 (by decide +kernel) rfl), (tb 722 (by decide +kernel) rfl), (tb 72 (by decide +kernel) rfl), ⟨by decide +kernel, by decide +kernel, by decide +kernel⟩⟩
theorem m103 : MI 103 := ⟨(tb 572 (by decide +kernel) rfl), (tb 571 (by decide +kernel) rfl), (tb 72 (by decide +kernel) rfl), ⟨by decide +kernel, by decide +kernel, by decide +kernel⟩⟩
theorem m104 : MI 104 := ⟨(tb 736 (by decide +kernel) rfl), (tb 734 (by decide +kernel) rfl), (tb 72 (by decide +kernel) rfl), ⟨by decide +kernel, by decide +kernel, by decide +kernel⟩⟩
theorem m105 : MI 105 := ⟨(tb 747 (by decide +kernel) rfl), (tb 745 (by decide +kernel) rfl), (tb 72 (by decide +kernel) rfl), ⟨by decide +kernel, by decide +kernel, by decide +kernel⟩⟩
theorem m106 : MI 106 := ⟨(tb 751 (by decide +kernel) rfl), (tb 749 (by decide +kernel) rfl), (tb 72 (by decide +kernel) rfl), ⟨by decide +kernel, by decide +kernel, by decide +kernel⟩⟩
theorem m107 : MI 107 := ⟨(tb 755 (by decide +kernel) rfl), (tb 753 (by decide +kernel) rfl), (tb 72 (by decide +kernel) rfl), ⟨by decide +kernel, by decide +kernel, by decide +kernel⟩⟩
theorem m108 : MSt 108 := ⟨(tb 584 (by decide +kernel) rfl), (tb 583 (by decide +kernel) rfl), (tb 72 (by decide +kernel) rfl), ⟨by decide +kernel, by decide +kernel, by decide +kernel⟩⟩
theorem m109 : MSt 109 := ⟨(tb 537 (by decide +kernel) rfl), (tb 536 (by decide +kernel) rfl), (tb 72 (by decide +kernel) rfl), ⟨by decide +kernel, by decide +kernel, by decide +kernel⟩⟩
theorem m110 : MI 110 := ⟨(tb 779 (by decide +kernel) rfl), (tb 777 (by decide +kernel) rfl), (tb 72 (by decide +kernel) rfl), ⟨by decide +kernel, by decide +kernel, by decide +kernel⟩⟩
theorem m111 : MI 111 := ⟨(tb 759 (by decide +kernel) rfl), (tb 757 (by decide +kernel) rfl), (tb 72 (by decide +kernel) rfl), ⟨by decide +kernel, by decide +kernel, by decide +kernel⟩⟩
theorem m112 : MSt 112 := ⟨(tb 762 (by decide +kernel) rfl), (tb 761 (by decide +kernel) rfl), (tb 72 (by decide +kernel) rfl), ⟨by decide +kernel, by decide +kernel, by decide +kernel⟩⟩
theorem m113 : MI 113 := ⟨(tb 769 (by decide +kernel) rfl), (tb 768 (by decide +kernel) rfl), (tb 72 (by decide +kernel) rfl), ⟨by decide +kernel, by decide +kernel, by decide +kernel⟩⟩
theorem m114 : MI 114 := ⟨(tb 784 (by decide +kernel) rfl), (tb 782 (by decide +kernel) rfl), (tb 72 (by decide +kernel) rfl), ⟨by decide +kernel, by decide +kernel, by decide +kernel⟩⟩
theorem m115 : MI 115 := ⟨(tb 792 (by decide +kernel) rfl), (tb 790 (by decide +kernel) rfl), (tb 72 (by decide +kernel) rfl), ⟨by decide +kernel, by decide +kernel, by decide +kernel⟩⟩
theorem m116 : MI 116 := ⟨(tb 796 (by decide +kernel) rfl), (tb 794 (by decide +kernel) rfl), (tb 72 (by decide +kernel) rfl), ⟨by decide +kernel, by decide +kernel, by decide +kernel⟩⟩
theorem m117 : MI 117 := ⟨(tb 788 (by decide +kernel) rfl), (tb 787 (by decide +kernel) rfl), (tb 72 (by decide +kernel) rfl), ⟨by decide +kernel, by decide +kernel, by decide +kernel⟩⟩
theorem m118 : MI 118 := ⟨(tb 800 (by decide +kernel) rfl), (tb 798 (by decide +kernel) rfl), (tb 72 (by decide +kernel) rfl), ⟨by decide +kernel, by decide +kernel, by decide +kernel⟩⟩
theorem m119 : MI 119 := ⟨(tb 804 (by decide +kernel) rfl), (tb 803 (by decide +kernel) rfl), (tb 72 (by decide +kernel) rfl), ⟨by decide +kernel, by decide +kernel, by decide +kernel⟩⟩
theorem m120 : MI 120 := ⟨(tb 808 (by decide +kernel) rfl), (tb 807 (by decide +kernel) rfl), (tb 72 (by decide +kernel) rfl), ⟨by decide +kernel, by decide +kernel, by decide +kernel⟩⟩
theorem m121 : MI 121 := ⟨(tb 822 (by decide +kernel) rfl), (tb 821 (by decide +kernel) rfl), (tb 72 (by decide +kernel) rfl), ⟨by decide +kernel, by decide +kernel, by decide +kernel⟩⟩
theorem m122 : MI 122 := ⟨(tb 812 (by decide +kernel) rfl), (tb 811 (by decide +kernel) rfl), (tb 72 (by decide +kernel) rfl), ⟨by decide +kernel, by decide +kernel, by decide +kernel⟩⟩
theorem m123 : MI 123 := ⟨(tb 827 (by decide +kernel) rfl), (tb 825 (by decide +kernel) rfl), (tb 72 (by decide +kernel) rfl), ⟨by decide +kernel, by decide +kernel, by decide +kernel⟩⟩
theorem m124 : MI 124 := ⟨(tb 831 (by decide +kernel) rfl), (tb 830 (by decide +kernel) rfl), (tb 72 (by decide +kernel) rfl), ⟨by decide +kernel, by decide +kernel, by decide +kernel⟩⟩
theorem m125 : MI 125 := ⟨(tb 836 (by decide +kernel) rfl), (tb 834 (by decide +kernel) rfl), (tb 72 (by decide +kernel) rfl), ⟨by decide +kernel, by decide +kernel, by decide +kernel⟩⟩
theorem m126 : MI 126 := ⟨(tb 840 (by decide +kernel) rfl), (tb 839 (by decide +kernel) rfl), (tb 72 (by decide +kernel) rfl), ⟨by decide +kernel, by decide +kernel, by decide +kernel⟩⟩
theorem m127 : MI 127 := ⟨(tb 846 (by decide +kernel) rfl), (tb 844 (by decide +kernel) rfl), (tb 72 (by decide +kernel) rfl), ⟨by decide +kernel, by decide +kernel, by decide +kernel⟩⟩
theorem m128 : MI 128 := ⟨(tb 850 (by decide +kernel) rfl), (tb 849 (by decide +kernel) rfl), (tb 72 (by decide +kernel) rfl), ⟨by decide +kernel, by decide +kernel, by decide +kernel⟩⟩
theorem m129 : MI 129 := ⟨(tb 854 (by decide +kernel) rfl), (tb 853 (by decide +kernel) rfl), (tb 72 (by decide +kernel) rfl), ⟨by decide +kernel, by decide +kernel, by decide +kernel⟩⟩
theorem m130 : MI 130 := ⟨(tb 858 (by decide +kernel) rfl), (tb 856 (by decide +kernel) rfl), (tb 72 (by decide +kernel) rfl), ⟨by decide +kernel, by decide +kernel, by decide +kernel⟩⟩
theorem m131 : MI 131 := ⟨(tb 879 (by decide +kernel) rfl), (tb 877 (by decide +kernel) rfl), (tb 72 (by decide +kernel) rfl), ⟨by decide +kernel, by decide +kernel, by decide +kernel⟩⟩
theorem m132 : MI 132 := ⟨(tb 883 (by decide +kernel) rfl), (tb 882 (by decide +kernel) rfl), (tb 72 (by decide +kernel) rfl), ⟨by decide +kernel, by decide +kernel, by decide +kernel⟩⟩
theorem m133 : MI 133 := ⟨(tb 862 (by decide +kernel) rfl), (tb 861 (by decide +kernel) rfl), (tb 72 (by decide +kernel) rfl), ⟨by decide +kernel, by decide +kernel, by decide +kernel⟩⟩
theorem m134 : MI 134 := ⟨(tb 891 (by decide +kernel) rfl), (tb 889 (by decide +kernel) rfl), (tb 72 (by decide +kernel) rfl), ⟨by decide +kernel, by decide +kernel, by decide +kernel⟩⟩
theorem m135 : MI 135 := ⟨(tb 899 (by decide +kernel) rfl), (tb 897 (by decide +kernel) rfl), (tb 72 (by decide +kernel) rfl), ⟨by decide +kernel, by decide +kernel, by decide +kernel⟩⟩
theorem m136 : MI 136 := ⟨(tb 906 (by decide +kernel) rfl), (tb 904 (by decide +kernel) rfl), (tb 72 (by decide +kernel) rfl), ⟨by decide +kernel, by decide +kernel, by decide +kernel⟩⟩
theorem m137 : MSt 137 := ⟨(tb 902 (by decide +kernel) rfl), (tb 901 (by decide +kernel) rfl), (tb 72 (by decide +kernel) rfl), ⟨by decide +kernel, by decide +kernel, by decide +kernel⟩⟩
theorem m138 : MI 138 := ⟨(tb 910 (by decide +kernel) rfl), (tb 908 (by decide +kernel) rfl), (tb 72 (by decide +kernel) rfl), ⟨by decide +kernel, by decide +kernel, by decide +kernel⟩⟩
theorem m139 : MI 139 := ⟨(tb 914 (by decide +kernel) rfl), (tb 912 (by decide +kernel) rfl), (tb 72 (by decide +kernel) rfl), ⟨by decide +kernel, by decide +kernel, by decide +kernel⟩⟩
theorem m140 : MSt 140 := ⟨(tb 917 (by decide +kernel) rfl), (tb 916 (by decide +kernel) rfl), (tb 72 (by decide +kernel) rfl), ⟨by decide +kernel, by decide +kernel, by decide +kernel⟩⟩
theorem m141 : MI 141 := ⟨(tb 921 (by decide +kernel) rfl), (tb 919 (by decide +kernel) rfl), (tb 72 (by decide +kernel) rfl), ⟨by decide +kernel, by decide +kernel, by decide +kernel⟩⟩
theorem m142 : MI 142 := ⟨(tb 977 (by decide +kernel) rfl), (tb 975 (by decide +kernel) rfl), (tb 72 (by decide +kernel) rfl), ⟨by decide +kernel, by decide +kernel, by decide +kernel⟩⟩
theorem m143 : MI 143 := ⟨(tb 981 (by decide +kernel) rfl), (tb 979 (by decide +kernel) rfl), (tb 72 (by decide +kernel) rfl), ⟨by decide +kernel, by decide +kernel, by decide +kernel⟩⟩
theorem m144 : MI 144 := ⟨(tb 992 (by decide +kernel) rfl), (tb 990 (by decide +kernel) rfl), (tb 72 (by decide +kernel) rfl), ⟨by decide +kernel, by decide +kernel, by decide +kernel⟩⟩
theorem m145 : MI 145 := ⟨(tb 997 (by decide +kernel) rfl), (tb 996 (by decide +kernel) rfl), (tb 84 (by decide +kernel) rfl), ⟨by decide +kernel, by decide +kernel, by decide +kernel⟩⟩
theorem m146 : MSt 146 := ⟨(tb 1082 (by decide +kernel) rfl), (tb 1081 (by decide +kernel) rfl), (tb 84 (by decide +kernel) rfl), ⟨by decide +kernel, by decide +kernel, by decide +kernel⟩⟩
theorem m147 : MSt 147 := ⟨(tb 1373 (by decide +kernel) rfl), (tb 1372 (by decide +kernel) rfl), (tb 84 (by decide +kernel) rfl), ⟨by decide +kernel, by decide +kernel, by decide +kernel⟩⟩
theorem m148 : MI 148 := ⟨(tb 1087 (by decide +kernel) rfl), (tb 1086 (by decide +kernel) rfl), (tb 84 (by decide +kernel) rfl), ⟨by decide +kernel, by decide +kernel, by decide +kernel⟩⟩
theorem m149 : MI 149 := ⟨(tb 1092 (by decide +kernel) rfl), (tb 1091 (by decide +kernel) rfl), (tb 84 (by decide +kernel) rfl), ⟨by decide +kernel, by decide +kernel, by decide +kernel⟩⟩
theorem m150 : MSt 150 := ⟨(tb 1079 (by decide +kernel) rfl), (tb 1078 (by decide +kernel) rfl), (tb 84 (by decide +kernel) rfl), ⟨by decide +kernel, by decide +kernel, by decide +kernel⟩⟩
theorem m151 : MI 151 := ⟨(tb 1076 (by decide +kernel) rfl), (tb 1074 (by decide +kernel) rfl), (tb 84 (by decide +kernel) rfl), ⟨by decide +kernel, by decide +kernel, by decide +kernel⟩⟩
theorem m152 : MI 152 := ⟨(tb 1096 (by decide +kernel) rfl), (tb 1094 (by decide +kernel) rfl), (tb 84 (by decide +kernel) rfl), ⟨by decide +kernel, by decide +kernel, by decide +kernel⟩⟩
theorem m153 : MI 153 := ⟨(tb 1104 (by decide +kernel) rfl), (tb 1103 (by decide +kernel) rfl), (tb 84 (by decide +kernel) rfl), ⟨by decide +kernel, by decide +kernel, by decide +kernel⟩⟩
theorem m154 : MI 154 := ⟨(tb 1100 (by decide +kernel) rfl), (tb 1098 (by decide +kernel) rfl), (tb 84 (by decide +kernel) rfl), ⟨by decide +kernel, by decide +kernel, by decide +kernel⟩⟩
theorem m155 : MI 155 := ⟨(tb 1108 (by decide +kernel) rfl), (tb 1106 (by decide +kernel) rfl), (tb 84 (by decide +kernel) rfl), ⟨by decide +kernel, by decide +kernel, by decide +kernel⟩⟩
theorem m156 : MI 156 := ⟨(tb 1112 (by decide +kernel) rfl), (tb 1110 (by decide +kernel) rfl), (tb 84 (by decide +kernel) rfl), ⟨by decide +kernel, by decide +kernel, by decide +kernel⟩⟩
theorem m157 : MI 157 := ⟨(tb 1125 (by decide +kernel) rfl), (tb 1124 (by decide +kernel) rfl), (tb 84 (by decide +kernel) rfl), ⟨by decide +kernel, by decide +kernel, by decide +kernel⟩⟩
theorem m158 : MI 158 := ⟨(tb 1121 (by decide +kernel) rfl), (tb 1120 (by decide +kernel) rfl), (tb 84 (by decide +kernel) rfl), ⟨by decide +kernel, by decide +kernel, by decide +kernel⟩⟩
theorem m159 : MI 159 := ⟨(tb 1133 (by decide +kernel) rfl), (tb 1132 (by decide +kernel) rfl), (tb 84 (by decide +kernel) rfl), ⟨by decide +kernel, by decide +kernel, by decide +kernel⟩⟩
theorem m160 : MI 160 := ⟨(tb 1137 (by decide +kernel) rfl), (tb 1136 (by decide +kernel) rfl), (tb 84 (by decide +kernel) rfl), ⟨by decide +kernel, by decide +kernel, by decide +kernel⟩⟩
theorem m161 : MI 161 := ⟨(tb 1149 (by decide +kernel) rfl), (tb 1148 (by decide +kernel) rfl), (tb 84 (by decide +kernel) rfl), ⟨by decide +kernel, by decide +kernel, by decide +kernel⟩⟩
theorem m162 : MI 162 := ⟨(tb 1145 (by decide +kernel) rfl), (tb 1144 (by decide +kernel) rfl), (tb 84 (by decide +kernel) rfl), ⟨by decide +kernel, by decide +kernel, by decide +kernel⟩⟩
theorem m163 : MI 163 := ⟨(tb 1141 (by decide +kernel) rfl), (tb 1140 (by decide +kernel) rfl), (tb 84 (by decide +kernel) rfl), ⟨by decide +kernel, by decide +kernel, by decide +kernel⟩⟩
theorem m164 : MI 164 := ⟨(tb 1161 (by decide +kernel) rfl), (tb 1160 (by decide +kernel) rfl), (tb 84 (by decide +kernel) rfl), ⟨by decide +kernel, by decide +kernel, by decide +kernel⟩⟩
theorem m165 : MI 165 := ⟨(tb 1157 (by decide +kernel) rfl), (tb 1156 (by decide +kernel) rfl), (tb 84 (by decide +kernel) rfl), ⟨by decide +kernel, by decide +kernel, by decide +kernel⟩⟩
theorem m166 : MI 166 := ⟨(tb 1129 (by decide +kernel) rfl), (tb 1128 (by decide +kernel) rfl), (tb 84 (by decide +kernel) rfl), ⟨by decide +kernel, by decide +kernel, by decide +kernel⟩⟩
theorem m167 : MI 167 := ⟨(tb 1153 (by decide +kernel) rfl), (tb 1152 (by decide +kernel) rfl), (tb 84 (by decide +kernel) rfl), ⟨by decide +kernel, by decide +kernel, by decide +kernel⟩⟩
theorem m168 : MI 168 := ⟨(tb 1169 (by decide +kernel) rfl), (tb 1168 (by decide +kernel) rfl), (tb 84 (by decide +kernel) rfl), ⟨by decide +kernel, by decide +kernel, by decide +kernel⟩⟩
theorem m169 : MI 169 := ⟨(tb 1165 (by decide +kernel) rfl), (tb 1164 (by decide +kernel) rfl), (tb 84 (by decide +kernel) rfl), ⟨by decide +kernel, by decide +kernel, by decide +kernel⟩⟩
theorem m170 : MI 170 := ⟨(tb 1173 (by decide +kernel) rfl), (tb 1172 (by decide +kernel) rfl), (tb 84 (by decide +kernel) rfl), ⟨by decide +kernel, by decide +kernel, by decide +kernel⟩⟩
theorem m171 : MI 171 := ⟨(tb 1117 (by decide +kernel) rfl), (tb 1115 (by decide +kernel) rfl), (tb 84 (by decide +kernel) rfl), ⟨by decide +kernel, by decide +kernel, by decide +kernel⟩⟩
theorem m172 : MI 172 := ⟨(tb 1178 (by decide +kernel) rfl), (tb 1176 (by decide +kernel) rfl), (tb 84 (by decide +kernel) rfl), ⟨by decide +kernel, by decide +kernel, by decide +kernel⟩⟩
theorem m173 : MI 173 := ⟨(tb 1186 (by decide +kernel) rfl), (tb 1185 (by decide +kernel) rfl), (tb 84 (by decide +kernel) rfl), ⟨by decide +kernel, by decide +kernel, by decide +kernel⟩⟩
theorem m174 : MI 174 := ⟨(tb 1243 (by decide +kernel) rfl), (tb 1242 (by decide +kernel) rfl), (tb 84 (by decide +kernel) rfl), ⟨by decide +kernel, by decide +kernel, by decide +kernel⟩⟩
theorem m175 : MI 175 := ⟨(tb 1199 (by decide +kernel) rfl), (tb 1198 (by decide +kernel) rfl), (tb 84 (by decide +kernel) rfl), ⟨by decide +kernel, by decide +kernel, by decide +kernel⟩⟩
theorem m176 : MI 176 := ⟨(tb 1220 (by decide +kernel) rfl), (tb 1219 (by decide +kernel) rfl), (tb 84 (by decide +kernel) rfl), ⟨by decide +kernel, by decide +kernel, by decide +kernel⟩⟩
theorem m177 : MSt 177 := ⟨(tb 1212 (by decide +kernel) rfl), (tb 1211 (by decide +kernel) rfl), (tb 84 (by decide +kernel) rfl), ⟨by decide +kernel, by decide +kernel, by decide +kernel⟩⟩
theorem m178 : MI 178 := ⟨(tb 1216 (by decide +kernel) rfl), (tb 1215 (by decide +kernel) rfl), (tb 84 (by decide +kernel) rfl), ⟨by decide +kernel, by decide +kernel, by decide +kernel⟩⟩
theorem m179 : MI 179 := ⟨(tb 1319 (by decide +kernel) rfl), (tb 1318 (by decide +kernel) rfl), (tb 84 (by decide +kernel) rfl), ⟨by decide +kernel, by decide +kernel, by decide +kernel⟩⟩
theorem m180 : MSt 180 := ⟨(tb 1209 (by decide +kernel) rfl), (tb 1208 (by decide +kernel) rfl), (tb 84 (by decide +kernel) rfl), ⟨by decide +kernel, by decide +kernel, by decide +kernel⟩⟩
theorem m181 : MSt 181 := ⟨(tb 1206 (by decide +kernel) rfl), (tb 1205 (by decide +kernel) rfl), (tb 84 (by decide +kernel) rfl), ⟨by decide +kernel, by decide +kernel, by decide +kernel⟩⟩
theorem m182 : MI 182 := ⟨(tb 1203 (by decide +kernel) rfl), (tb 1202 (by decide +kernel) rfl), (tb 84 (by decide +kernel) rfl), ⟨by decide +kernel, by decide +kernel, by decide +kernel⟩⟩
theorem m183 : MI 183 := ⟨(tb 1231 (by decide +kernel) rfl), (tb 1230 (by decide +kernel) rfl), (tb 84 (by decide +kernel) rfl), ⟨by decide +kernel, by decide +kernel, by decide +kernel⟩⟩
theorem m184 : MI 184 := ⟨(tb 1279 (by decide +kernel) rfl), (tb 1278 (by decide +kernel) rfl), (tb 84 (by decide +kernel) rfl), ⟨by decide +kernel, by decide +kernel, by decide +kernel⟩⟩
theorem m185 : MI 185 := ⟨(tb 1235 (by decide +kernel) rfl), (tb 1234 (by decide +kernel) rfl), (tb 84 (by decide +kernel) rfl), ⟨by decide +kernel, by decide +kernel, by decide +kernel⟩⟩
theorem m186 : MSt 186 := ⟨(tb 1227 (by decide +kernel) rfl), (tb 1226 (by decide +kernel) rfl), (tb 84 (by decide +kernel) rfl), ⟨by decide +kernel, by decide +kernel, by decide +kernel⟩⟩
theorem m187 : MI 187 := ⟨(tb 1224 (by decide +kernel) rfl), (tb 1223 (by decide +kernel) rfl), (tb 84 (by decide +kernel) rfl), ⟨by decide +kernel, by decide +kernel, by decide +kernel⟩⟩
theorem m188 : MI 188 := ⟨(tb 1195 (by decide +kernel) rfl), (tb 1194 (by decide +kernel) rfl), (tb 84 (by decide +kernel) rfl), ⟨by decide +kernel, by decide +kernel, by decide +kernel⟩⟩
theorem m189 : MI 189 := ⟨(tb 1191 (by decide +kernel) rfl), (tb 1190 (by decide +kernel) rfl), (tb 84 (by decide +kernel) rfl), ⟨by decide +kernel, by decide +kernel, by decide +kernel⟩⟩
theorem m190 : MI 190 := ⟨(tb 1182 (by decide +kernel) rfl), (tb 1180 (by decide +kernel) rfl), (tb 84 (by decide +kernel) rfl), ⟨by decide +kernel, by decide +kernel, by decide +kernel⟩⟩
theorem m191 : MI 191 := ⟨(tb 1239 (by decide +kernel) rfl), (tb 1237 (by decide +kernel) rfl), (tb 84 (by decide +kernel) rfl), ⟨by decide +kernel, by decide +kernel, by decide +kernel⟩⟩
theorem m192 : MI 192 := ⟨(tb 1251 (by decide +kernel) rfl), (tb 1250 (by decide +kernel) rfl), (tb 84 (by decide +kernel) rfl), ⟨by decide +kernel, by decide +kernel, by decide +kernel⟩⟩
theorem m193 : MI 193 := ⟨(tb 1247 (by decide +kernel) rfl), (tb 1245 (by decide +kernel) rfl), (tb 84 (by decide +kernel) rfl), ⟨by decide +kernel, by decide +kernel, by decide +kernel⟩⟩
theorem m194 : MI 194 := ⟨(tb 1259 (by decide +kernel) rfl), (tb 1258 (by decide +kernel) rfl), (tb 84 (by decide +kernel) rfl), ⟨by decide +kernel, by decide +kernel, by decide +kernel⟩⟩
theorem m195 : MI 195 := ⟨(tb 1255 (by decide +kernel) rfl), (tb 1253 (by decide +kernel) rfl), (tb 84 (by decide +kernel) rfl), ⟨by decide +kernel, by decide +kernel, by decide +kernel⟩⟩
theorem m196 : MI 196 := ⟨(tb 1263 (by decide +kernel) rfl), (tb 1261 (by decide +kernel) rfl), (tb 84 (by decide +kernel) rfl), ⟨by decide +kernel, by decide +kernel, by decide +kernel⟩⟩
theorem m197 : MI 197 := ⟨(tb 1275 (by decide +kernel) rfl), (tb 1274 (by decide +kernel) rfl), (tb 84 (by decide +kernel) rfl), ⟨by decide +kernel, by decide +kernel, by decide +kernel⟩⟩
theorem m198 : MI 198 := ⟨(tb 1271 (by decide +kernel) rfl), (tb 1270 (by decide +kernel) rfl), (tb 84 (by decide +kernel) rfl), ⟨by decide +kernel, by decide +kernel, by decide +kernel⟩⟩
theorem m199 : MI 199 := ⟨(tb 1283 (by decide +kernel) rfl), (tb 1282 (by decide +kernel) rfl), (tb 84 (by decide +kernel) rfl), ⟨by decide +kernel, by decide +kernel, by decide +kernel⟩⟩
theorem m200 : MI 200 := ⟨(tb 1267 (by decide +kernel) rfl), (tb 1265 (by decide +kernel) rfl), (tb 84 (by decide +kernel) rfl), ⟨by decide +kernel, by decide +kernel, by decide +kernel⟩⟩
theorem m201 : MI 201 := ⟨(tb 1287 (by decide +kernel) rfl), (tb 1285 (by decide +kernel) rfl), (tb 84 (by decide +kernel) rfl), ⟨by decide +kernel, by decide +kernel, by decide +kernel⟩⟩
theorem m202 : MI 202 := ⟨(tb 1291 (by decide +kernel) rfl), (tb 1289 (by decide +kernel) rfl), (tb 84 (by decide +kernel) rfl), ⟨by decide +kernel, by decide +kernel, by decide +kernel⟩⟩
theorem m203 : MI 203 := ⟨(tb 1295 (by decide +kernel) rfl), (tb 1293 (by decide +kernel) rfl), (tb 84 (by decide +kernel) rfl), ⟨by decide +kernel, by decide +kernel, by decide +kernel⟩⟩
theorem m204 : MI 204 := ⟨(tb 1299 (by decide +kernel) rfl), (tb 1297 (by decide +kernel) rfl), (tb 84 (by decide +kernel) rfl), ⟨by decide +kernel, by decide +kernel, by decide +kernel⟩⟩
theorem m205 : MI 205 := ⟨(tb 1303 (by decide +kernel) rfl), (tb 1301 (by decide +kernel) rfl), (tb 84 (by decide +kernel) rfl), ⟨by decide +kernel, by decide +kernel, by decide +kernel⟩⟩
theorem m206 : MI 206 := ⟨(tb 1311 (by decide +kernel) rfl), (tb 1310 (by decide +kernel) rfl), (tb 84 (by decide +kernel) rfl), ⟨by decide +kernel, by decide +kernel, by decide +kernel⟩⟩
theorem m207 : MI 207 := ⟨(tb 1323 (by decide +kernel) rfl), (tb 1322 (by decide +kernel) rfl), (tb 84 (by decide +kernel) rfl), ⟨by decide +kernel, by decide +kernel, by decide +kernel⟩⟩
theorem m208 : MI 208 := ⟨(tb 1315 (by decide +kernel) rfl), (tb 1314 (by decide +kernel) rfl), (tb 84 (by decide +kernel) rfl), ⟨by decide +kernel, by decide +kernel, by decide +kernel⟩⟩
theorem m209 : MI 209 := ⟨(tb 1307 (by decide +kernel) rfl), (tb 1305 (by decide +kernel) rfl), (tb 84 (by decide +kernel) rfl), ⟨by decide +kernel, by decide +kernel, by decide +kernel⟩⟩
theorem m210 : MI 210 := ⟨(tb 1327 (by decide +kernel) rfl), (tb 1325 (by decide +kernel) rfl), (tb 84 (by decide +kernel) rfl), ⟨by decide +kernel, by decide +kernel, by decide +kernel⟩⟩
theorem m211 : MI 211 := ⟨(tb 1335 (by decide +kernel) rfl), (tb 1334 (by decide +kernel) rfl), (tb 84 (by decide +kernel) rfl), ⟨by decide +kernel, by decide +kernel, by decide +kernel⟩⟩
theorem m212 : MI 212 := ⟨(tb 1331 (by decide +kernel) rfl), (tb 1329 (by decide +kernel) rfl), (tb 84 (by decide +kernel) rfl), ⟨by decide +kernel, by decide +kernel, by decide +kernel⟩⟩
theorem m213 : MI 213 := ⟨(tb 1339 (by decide +kernel) rfl), (tb 1337 (by decide +kernel) rfl), (tb 84 (by decide +kernel) rfl), ⟨by decide +kernel, by decide +kernel, by decide +kernel⟩⟩
theorem m214 : MI 214 := ⟨(tb 1343 (by decide +kernel) rfl), (tb 1341 (by decide +kernel) rfl), (tb 84 (by decide +kernel) rfl), ⟨by decide +kernel, by decide +kernel, by decide +kernel⟩⟩
theorem m215 : MSt 215 := ⟨(tb 1350 (by decide +kernel) rfl), (tb 1349 (by decide +kernel) rfl), (tb 84 (by decide +kernel) rfl), ⟨by decide +kernel, by decide +kernel, by decide +kernel⟩⟩
theorem m216 : MI 216 := ⟨(tb 1354 (by decide +kernel) rfl), (tb 1353 (by decide +kernel) rfl), (tb 84 (by decide +kernel) rfl), ⟨by decide +kernel, by decide +kernel, by decide +kernel⟩⟩
theorem m217 : MI 217 := ⟨(tb 1347 (by decide +kernel) rfl), (tb 1345 (by decide +kernel) rfl), (tb 84 (by decide +kernel) rfl), ⟨by decide +kernel, by decide +kernel, by decide +kernel⟩⟩
theorem m218 : MI 218 := ⟨(tb 1358 (by decide +kernel) rfl), (tb 1356 (by decide +kernel) rfl), (tb 84 (by decide +kernel) rfl), ⟨by decide +kernel, by decide +kernel, by decide +kernel⟩⟩
theorem m219 : MI 219 := ⟨(tb 1362 (by decide +kernel) rfl), (tb 1360 (by decide +kernel) rfl), (tb 84 (by decide +kernel) rfl), ⟨by decide +kernel, by decide +kernel, by decide +kernel⟩⟩
theorem m220 : MI 220 := ⟨(tb 1377 (by decide +kernel) rfl), (tb 1376 (by decide +kernel) rfl), (tb 84 (by decide +kernel) rfl), ⟨by decide +kernel, by decide +kernel, by decide +kernel⟩⟩
theorem m221 : MI 221 := ⟨(tb 1370 (by decide +kernel) rfl), (tb 1369 (by decide +kernel) rfl), (tb 84 (by decide +kernel) rfl), ⟨by decide +kernel, by decide +kernel, by decide +kernel⟩⟩
theorem m222 : MI 222 := ⟨(tb 1366 (by decide +kernel) rfl), (tb 1364 (by decide +kernel) rfl), (tb 84 (by decide +kernel) rfl), ⟨by decide +kernel, by decide +kernel, by decide +kernel⟩⟩
theorem m223 : MI 223 := ⟨(tb 1389 (by decide +kernel) rfl), (tb 1388 (by decide +kernel) rfl), (tb 84 (by decide +kernel) rfl), ⟨by decide +kernel, by decide +kernel, by decide +kernel⟩⟩
theorem m224 : MI 224 := ⟨(tb 1385 (by decide +kernel) rfl), (tb 1384 (by decide +kernel) rfl), (tb 84 (by decide +kernel) rfl), ⟨by decide +kernel, by decide +kernel, by decide +kernel⟩⟩
theorem m225 : MI 225 := ⟨(tb 1381 (by decide +kernel) rfl), (tb 1379 (by decide +kernel) rfl), (tb 84 (by decide +kernel) rfl), ⟨by decide +kernel, by decide +kernel, by decide +kernel⟩⟩
theorem m226 : MI 226 := ⟨(tb 1397 (by decide +kernel) rfl), (tb 1396 (by decide +kernel) rfl), (tb 84 (by decide +kernel) rfl), ⟨by decide +kernel, by decide +kernel, by decide +kernel⟩⟩
theorem m227 : MI 227 := ⟨(tb 1393 (by decide +kernel) rfl), (tb 1391 (by decide +kernel) rfl), (tb 84 (by decide +kernel) rfl), ⟨by decide +kernel, by decide +kernel, by decide +kernel⟩⟩
theorem m228 : MI 228 := ⟨(tb 1405 (by decide +kernel) rfl), (tb 1404 (by decide +kernel) rfl), (tb 84 (by decide +kernel) rfl), ⟨by decide +kernel, by decide +kernel, by decide +kernel⟩⟩
theorem m229 : MI 229 := ⟨(tb 1401 (by decide +kernel) rfl), (tb 1399 (by decide +kernel) rfl), (tb 84 (by decide +kernel) rfl), ⟨by decide +kernel, by decide +kernel, by decide +kernel⟩⟩
theorem m230 : MI 230 := ⟨(tb 1409 (by decide +kernel) rfl), (tb 1407 (by decide +kernel) rfl), (tb 84 (by decide +kernel) rfl), ⟨by decide +kernel, by decide +kernel, by decide +kernel⟩⟩
theorem m231 : MI 231 := ⟨(tb 1413 (by decide +kernel) rfl), (tb 1411 (by decide +kernel) rfl), (tb 84 (by decide +kernel) rfl), ⟨by decide +kernel, by decide +kernel, by decide +kernel⟩⟩
theorem m232 : MI 232 := ⟨(tb 1417 (by decide +kernel) rfl), (tb 1415 (by decide +kernel) rfl), (tb 84 (by decide +kernel) rfl), ⟨by decide +kernel, by decide +kernel, by decide +kernel⟩⟩
theorem m233 : MI 233 := ⟨(tb 1421 (by decide +kernel) rfl), (tb 1419 (by decide +kernel) rfl), (tb 84 (by decide +kernel) rfl), ⟨by decide +kernel, by decide +kernel, by decide +kernel⟩⟩
theorem m234 : MI 234 := ⟨(tb 1437 (by decide +kernel) rfl), (tb 1436 (by decide +kernel) rfl), (tb 84 (by decide +kernel) rfl), ⟨by decide +kernel, by decide +kernel, by decide +kernel⟩⟩
theorem m235 : MI 235 := ⟨(tb 1445 (by decide +kernel) rfl), (tb 1444 (by decide +kernel) rfl), (tb 84 (by decide +kernel) rfl), ⟨by decide +kernel, by decide +kernel, by decide +kernel⟩⟩
theorem m236 : MI 236 := ⟨(tb 1461 (by decide +kernel) rfl), (tb 1460 (by decide +kernel) rfl), (tb 84 (by decide +kernel) rfl), ⟨by decide +kernel, by decide +kernel, by decide +kernel⟩⟩
theorem m237 : MI 237 := ⟨(tb 1457 (by decide +kernel) rfl), (tb 1456 (by decide +kernel) rfl), (tb 84 (by decide +kernel) rfl), ⟨by decide +kernel, by decide +kernel, by decide +kernel⟩⟩
theorem m238 : MI 238 := ⟨(tb 1453 (by decide +kernel) rfl), (tb 1452 (by decide +kernel) rfl), (tb 84 (by decide +kernel) rfl), ⟨by decide +kernel, by decide +kernel, by decide +kernel⟩⟩
theorem m239 : MI 239 := ⟨(tb 1449 (by decide +kernel) rfl), (tb 1448 (by decide +kernel) rfl), (tb 84 (by decide +kernel) rfl), ⟨by decide +kernel, by decide +kernel, by decide +kernel⟩⟩
theorem m240 : MI 240 := ⟨(tb 1441 (by decide +kernel) rfl), (tb 1440 (by decide +kernel) rfl), (tb 84 (by decide +kernel) rfl), ⟨by decide +kernel, by decide +kernel, by decide +kernel⟩⟩
theorem m241 : MI 241 := ⟨(tb 1433 (by decide +kernel) rfl), (tb 1432 (by decide +kernel) rfl), (tb 84 (by decide +kernel) rfl), ⟨by decide +kernel, by decide +kernel, by decide +kernel⟩⟩
theorem m242 : MI 242 := ⟨(tb 1429 (by decide +kernel) rfl), (tb 1428 (by decide +kernel) rfl), (tb 84 (by decide +kernel) rfl), ⟨by decide +kernel, by decide +kernel, by decide +kernel⟩⟩
theorem m243 : MI 243 := ⟨(tb 1465 (by decide +kernel) rfl), (tb 1464 (by decide +kernel) rfl), (tb 84 (by decide +kernel) rfl), ⟨by decide +kernel, by decide +kernel, by decide +kernel⟩⟩
theorem m244 : MI 244 := ⟨(tb 1425 (by decide +kernel) rfl), (tb 1423 (by decide +kernel) rfl), (tb 84 (by decide +kernel) rfl), ⟨by decide +kernel, by decide +kernel, by decide +kernel⟩⟩
theorem m245 : MI 245 := ⟨(tb 1469 (by decide +kernel) rfl), (tb 1467 (by decide +kernel) rfl), (tb 84 (by decide +kernel) rfl), ⟨by decide +kernel, by decide +kernel, by decide +kernel⟩⟩
theorem m246 : MI 246 := ⟨(tb 1473 (by decide +kernel) rfl), (tb 1471 (by decide +kernel) rfl), (tb 84 (by decide +kernel) rfl), ⟨by decide +kernel, by decide +kernel, by decide +kernel⟩⟩
theorem m247 : MI 247 := ⟨(tb 1477 (by decide +kernel) rfl), (tb 1475 (by decide +kernel) rfl), (tb 84 (by decide +kernel) rfl), ⟨by decide +kernel, by decide +kernel, by decide +kernel⟩⟩
theorem m248 : MSt 248 := ⟨(tb 815 (by decide +kernel) rfl), (tb 814 (by decide +kernel) rfl), (tb 87 (by decide +kernel) rfl), ⟨by decide +kernel, by decide +kernel, by decide +kernel⟩⟩
end
section
theorem sf3_13_0 : SiteF RX3 13 0 1 true := ⟨rfl, (RX0, TX0, 4), rfl, by decide, uw0, (tb 170 (by decide +kernel) rfl)⟩
theorem sp3_13_0 : SiteP RX3 13 0 1 true .int true := ⟨rfl, (RX0, TX0, 4), rfl, by decide, uw0, (tb 170 (by decide +kernel) rfl), ck0, by decide +kernel, .inr ⟨rfl, rfl, rfl⟩⟩
theorem sf3_13_1 : SiteF RX3 13 1 1 true := ⟨rfl, (RX1, TX1, 4), rfl, by decide, uw1, (tb 170 (by decide +kernel) rfl)⟩
theorem sp3_13_1 : SiteP RX3 13 1 1 true .int true := ⟨rfl, (RX1, TX1, 4), rfl, by decide, uw1, (tb 170 (by decide +kernel) rfl), ck1, by decide +kernel, .inr ⟨rfl, rfl, rfl⟩⟩
theorem sf3_13_2 : SiteF RX3 13 2 1 true := ⟨rfl, (RX2, TX2, 4), rfl, by decide, uw2, (tb 170 (by decide +kernel) rfl)⟩
theorem sp3_13_2 : SiteP RX3 13 2 1 true .int true := ⟨rfl, (RX2, TX2, 4), rfl, by decide, uw2, (tb 170 (by decide +kernel) rfl), ck2, by decide +kernel, .inr ⟨rfl, rfl, rfl⟩⟩
theorem sf3_13_3 : SiteF RX3 13 3 1 true := ⟨rfl, (RX3, TX3, 4), rfl, by decide, uw3, (tb 170 (by decide +kernel) rfl)⟩
theorem sp3_13_3 : SiteP RX3 13 3 1 true .int true := ⟨rfl, (RX3, TX3, 4), rfl, by decide, uw3, (tb 170 (by decide +kernel) rfl), ck3, by decide +kernel, .inr ⟨rfl, rfl, rfl⟩⟩
theorem sf3_13_6 : SiteF RX3 13 6 1 true := ⟨rfl, (RX6, TX6, 4), rfl, by decide, uw6, (tb 170 (by decide +kernel) rfl)⟩
theorem sp3_13_6 : SiteP RX3 13 6 1 true .int true := ⟨rfl, (RX6, TX6, 4), rfl, by decide, uw6, (tb 170 (by decide +kernel) rfl), ck6, by decide +kernel, .inr ⟨rfl, rfl, rfl⟩⟩
theorem sf3_13_7 : SiteF RX3 13 7 1 true := ⟨rfl, (RX7, TX7, 4), rfl, by decide, uw7, (tb 170 (by decide +kernel) rfl)⟩
theorem sp3_13_7 : SiteP RX3 13 7 1 true .int true := ⟨rfl, (RX7, TX7, 4), rfl, by decide, uw7, (tb 170 (by decide +kernel) rfl), ck7, by decide +kernel, .inr ⟨rfl, rfl, rfl⟩⟩
theorem sp3_16_0 : SiteP RX3 16 0 2 true .int true := ⟨rfl, (RX0, TX0, 4), rfl, by decide, uw0, (tb 171 (by decide +kernel) rfl), ck0, by decide +kernel, .inr ⟨rfl, rfl, rfl⟩⟩
theorem sp3_16_1 : SiteP RX3 16 1 2 true .int true := ⟨rfl, (RX1, TX1, 4), rfl, by decide, uw1, (tb 171 (by decide +kernel) rfl), ck1, by decide +kernel, .inr ⟨rfl, rfl, rfl⟩⟩
theorem sp3_16_2 : SiteP RX3 16 2 2 true .int true := ⟨rfl, (RX2, TX2, 4), rfl, by decide, uw2, (tb 171 (by decide +kernel) rfl), ck2, by decide +kernel, .inr ⟨rfl, rfl, rfl⟩⟩
theorem sp3_16_3 : SiteP RX3 16 3 2 true .int true := ⟨rfl, (RX3, TX3, 4), rfl, by decide, uw3, (tb 171 (by decide +kernel) rfl), ck3, by decide +kernel, .inr ⟨rfl, rfl, rfl⟩⟩
theorem sp3_16_6 : SiteP RX3 16 6 2 true .int true := ⟨rfl, (RX6, TX6, 4), rfl, by decide, uw6, (tb 171 (by decide +kernel) rfl), ck6, by decide +kernel, .inr ⟨rfl, rfl, rfl⟩⟩
theorem sp3_16_7 : SiteP RX3 16 7 2 true .int true := ⟨rfl, (RX7, TX7, 4), rfl, by decide, uw7, (tb 171 (by decide +kernel) rfl), ck7, by decide +kernel, .inr ⟨rfl, rfl, rfl⟩⟩
theorem sp3_19_0 : SiteP RX3 19 0 3 true .int true := ⟨rfl, (RX0, TX0, 4), rfl, by decide, uw0, (tb 174 (by decide +kernel) rfl), ck0, by decide +kernel, .inr ⟨rfl, rfl, rfl⟩⟩
theorem sp3_19_1 : SiteP RX3 19 1 3 true .int true := ⟨rfl, (RX1, TX1, 4), rfl, by decide, uw1, (tb 174 (by decide +kernel) rfl), ck1, by decide +kernel, .inr ⟨rfl, rfl, rfl⟩⟩
theorem sp3_19_2 : SiteP RX3 19 2 3 true .int true := ⟨rfl, (RX2, TX2, 4), rfl, by decide, uw2, (tb 174 (by decide +kernel) rfl), ck2, by decide +kernel, .inr ⟨rfl, rfl, rfl⟩⟩
theorem sp3_19_3 : SiteP RX3 19 3 3 true .int true := ⟨rfl, (RX3, TX3, 4), rfl, by decide, uw3, (tb 174 (by decide +kernel) rfl), ck3, by decide +kernel, .inr ⟨rfl, rfl, rfl⟩⟩
theorem sp3_19_6 : SiteP RX3 19 6 3 true .int true := ⟨rfl, (RX6, TX6, 4), rfl, by decide, uw6, (tb 174 (by decide +kernel) rfl), ck6, by decide +kernel, .inr ⟨rfl, rfl, rfl⟩⟩
theorem sp3_19_7 : SiteP RX3 19 7 3 true .int true := ⟨rfl, (RX7, TX7, 4), rfl, by decide, uw7, (tb 174 (by decide +kernel) rfl), ck7, by decide +kernel, .inr ⟨rfl, rfl, rfl⟩⟩
theorem sf3_28_8 : SiteF RX3 28 8 3 true := ⟨rfl, (RX8, TX8, 8), rfl, by decide, uw8, (tb 255 (by decide +kernel) rfl)⟩
theorem sf3_33_8 : SiteF RX3 33 8 0 true := ⟨rfl, (RX8, TX8, 8), rfl, by decide, uw8, (tb 247 (by decide +kernel) rfl)⟩
theorem sp3_7_0 : SiteP RX3 7 0 0 true .int true := ⟨rfl, (RX0, TX0, 4), rfl, by decide, uw0, (tb 166 (by decide +kernel) rfl), ck0, by decide +kernel, .inr ⟨rfl, rfl, rfl⟩⟩
theorem sp3_7_1 : SiteP RX3 7 1 0 true .int true := ⟨rfl, (RX1, TX1, 4), rfl, by decide, uw1, (tb 166 (by decide +kernel) rfl), ck1, by decide +kernel, .inr ⟨rfl, rfl, rfl⟩⟩
theorem sp3_7_2 : SiteP RX3 7 2 0 true .int true := ⟨rfl, (RX2, TX2, 4), rfl, by decide, uw2, (tb 166 (by decide +kernel) rfl), ck2, by decide +kernel, .inr ⟨rfl, rfl, rfl⟩⟩
theorem sp3_7_3 : SiteP RX3 7 3 0 true .int true := ⟨rfl, (RX3, TX3, 4), rfl, by decide, uw3, (tb 166 (by decide +kernel) rfl), ck3, by decide +kernel, .inr ⟨rfl, rfl, rfl⟩⟩
theorem sp3_7_6 : SiteP RX3 7 6 0 true .int true := ⟨rfl, (RX6, TX6, 4), rfl, by decide, uw6, (tb 166 (by decide +kernel) rfl), ck6, by decide +kernel, .inr ⟨rfl, rfl, rfl⟩⟩
theorem sp3_7_7 : SiteP RX3 7 7 0 true .int true := ⟨rfl, (RX7, TX7, 4), rfl, by decide, uw7, (tb 166 (by decide +kernel) rfl), ck7, by decide +kernel, .inr ⟨rfl, rfl, rfl⟩⟩
theorem sp4_101_4 : SiteP RX4 101 4 5 true .int false := ⟨rfl, (RX4, TX4, 6), rfl, by decide, uw4, (tb 127 (by decide +kernel) rfl), ck4, by decide +kernel, .inl ⟨rfl, rfl⟩⟩
theorem sp4_104_4 : SiteP RX4 104 4 4 true .int false := ⟨rfl, (RX4, TX4, 6), rfl, by decide, uw4, (tb 125 (by decide +kernel) rfl), ck4, by decide +kernel, .inl ⟨rfl, rfl⟩⟩
theorem sf4_11_4 : SiteF RX4 11 4 0 false := ⟨rfl, (RX4, TX4, 6), rfl, by decide, uw4, (tb 119 (by decide +kernel) rfl)⟩
theorem sp4_11_4 : SiteP RX4 11 4 0 false (.array .int) true := ⟨rfl, (RX4, TX4, 6), rfl, by decide, uw4, (tb 119 (by decide +kernel) rfl), ck4, by decide +kernel, .inr ⟨rfl, rfl, rfl⟩⟩
theorem sf4_15_4 : SiteF RX4 15 4 1 true := ⟨rfl, (RX4, TX4, 6), rfl, by decide, uw4, (tb 120 (by decide +kernel) rfl)⟩
theorem sp4_15_4 : SiteP RX4 15 4 1 true .int false := ⟨rfl, (RX4, TX4, 6), rfl, by decide, uw4, (tb 120 (by decide +kernel) rfl), ck4, by decide +kernel, .inl ⟨rfl, rfl⟩⟩
theorem sf4_19_4 : SiteF RX4 19 4 2 true := ⟨rfl, (RX4, TX4, 6), rfl, by decide, uw4, (tb 122 (by decide +kernel) rfl)⟩
theorem sp4_19_4 : SiteP RX4 19 4 2 true .int false := ⟨rfl, (RX4, TX4, 6), rfl, by decide, uw4, (tb 122 (by decide +kernel) rfl), ck4, by decide +kernel, .inl ⟨rfl, rfl⟩⟩
theorem sf4_22_4 : SiteF RX4 22 4 3 true := ⟨rfl, (RX4, TX4, 6), rfl, by decide, uw4, (tb 123 (by decide +kernel) rfl)⟩
theorem sp4_22_4 : SiteP RX4 22 4 3 true .boolean false := ⟨rfl, (RX4, TX4, 6), rfl, by decide, uw4, (tb 123 (by decide +kernel) rfl), ck4, by decide +kernel, .inl ⟨rfl, rfl⟩⟩
theorem sp4_65_10 : SiteP RX4 65 10 1 true .int false := ⟨rfl, (RX10, TX10, 14), rfl, by decide, uw10, (tb 295 (by decide +kernel) rfl), ck10, by decide +kernel, .inl ⟨rfl, rfl⟩⟩
theorem sp4_68_10 : SiteP RX4 68 10 2 true .int false := ⟨rfl, (RX10, TX10, 14), rfl, by decide, uw10, (tb 297 (by decide +kernel) rfl), ck10, by decide +kernel, .inl ⟨rfl, rfl⟩⟩
theorem sf4_71_10 : SiteF RX4 71 10 4 true := ⟨rfl, (RX10, TX10, 14), rfl, by decide, uw10, (tb 302 (by decide +kernel) rfl)⟩
theorem sf4_78_10 : SiteF RX4 78 10 8 true := ⟨rfl, (RX10, TX10, 14), rfl, by decide, uw10, (tb 311 (by decide +kernel) rfl)⟩
theorem sf4_91_10 : SiteF RX4 91 10 10 true := ⟨rfl, (RX10, TX10, 14), rfl, by decide, uw10, (tb 316 (by decide +kernel) rfl)⟩
theorem sf5_13_5 : SiteF RX5 13 5 1 false := ⟨rfl, (RX5, TX5, 3), rfl, by decide, uw5, (tb 103 (by decide +kernel) rfl)⟩
theorem sp5_13_5 : SiteP RX5 13 5 1 false (.array .int) true := ⟨rfl, (RX5, TX5, 3), rfl, by decide, uw5, (tb 103 (by decide +kernel) rfl), ck5, by decide +kernel, .inr ⟨rfl, rfl, rfl⟩⟩
theorem sf5_16_5 : SiteF RX5 16 5 2 false := ⟨rfl, (RX5, TX5, 3), rfl, by decide, uw5, (tb 104 (by decide +kernel) rfl)⟩
theorem sp5_16_5 : SiteP RX5 16 5 2 false (.array .int) true := ⟨rfl, (RX5, TX5, 3), rfl, by decide, uw5, (tb 104 (by decide +kernel) rfl), ck5, by decide +kernel, .inr ⟨rfl, rfl, rfl⟩⟩
theorem sf5_9_5 : SiteF RX5 9 5 0 false := ⟨rfl, (RX5, TX5, 3), rfl, by decide, uw5, (tb 102 (by decide +kernel) rfl)⟩
theorem sp5_9_5 : SiteP RX5 9 5 0 false (.array .int) true := ⟨rfl, (RX5, TX5, 3), rfl, by decide, uw5, (tb 102 (by decide +kernel) rfl), ck5, by decide +kernel, .inr ⟨rfl, rfl, rfl⟩⟩
theorem sf6_23_8 : SiteF RX6 23 8 4 true := ⟨rfl, (RX8, TX8, 8), rfl, by decide, uw8, (tb 258 (by decide +kernel) rfl)⟩
theorem sf8_15_8 : SiteF RX8 15 8 1 false := ⟨rfl, (RX8, TX8, 8), rfl, by decide, uw8, (tb 248 (by decide +kernel) rfl)⟩
theorem sp8_15_8 : SiteP RX8 15 8 1 false (.object "CoalGrate$Kind") false := ⟨rfl, (RX8, TX8, 8), rfl, by decide, uw8, (tb 248 (by decide +kernel) rfl), ck8, by decide +kernel, .inl ⟨rfl, rfl⟩⟩
theorem sf8_19_8 : SiteF RX8 19 8 2 true := ⟨rfl, (RX8, TX8, 8), rfl, by decide, uw8, (tb 251 (by decide +kernel) rfl)⟩
theorem sp8_19_8 : SiteP RX8 19 8 2 true .int false := ⟨rfl, (RX8, TX8, 8), rfl, by decide, uw8, (tb 251 (by decide +kernel) rfl), ck8, by decide +kernel, .inl ⟨rfl, rfl⟩⟩
theorem sf8_22_8 : SiteF RX8 22 8 3 true := ⟨rfl, (RX8, TX8, 8), rfl, by decide, uw8, (tb 254 (by decide +kernel) rfl)⟩
theorem sp8_22_8 : SiteP RX8 22 8 3 true .int false := ⟨rfl, (RX8, TX8, 8), rfl, by decide, uw8, (tb 254 (by decide +kernel) rfl), ck8, by decide +kernel, .inl ⟨rfl, rfl⟩⟩
theorem sf8_25_8 : SiteF RX8 25 8 4 true := ⟨rfl, (RX8, TX8, 8), rfl, by decide, uw8, (tb 257 (by decide +kernel) rfl)⟩
theorem sp8_25_8 : SiteP RX8 25 8 4 true .int false := ⟨rfl, (RX8, TX8, 8), rfl, by decide, uw8, (tb 257 (by decide +kernel) rfl), ck8, by decide +kernel, .inl ⟨rfl, rfl⟩⟩
theorem sf8_28_8 : SiteF RX8 28 8 5 true := ⟨rfl, (RX8, TX8, 8), rfl, by decide, uw8, (tb 261 (by decide +kernel) rfl)⟩
theorem sp8_28_8 : SiteP RX8 28 8 5 true .int false := ⟨rfl, (RX8, TX8, 8), rfl, by decide, uw8, (tb 261 (by decide +kernel) rfl), ck8, by decide +kernel, .inl ⟨rfl, rfl⟩⟩
theorem sf8_31_8 : SiteF RX8 31 8 6 true := ⟨rfl, (RX8, TX8, 8), rfl, by decide, uw8, (tb 263 (by decide +kernel) rfl)⟩
theorem sp8_31_8 : SiteP RX8 31 8 6 true .int false := ⟨rfl, (RX8, TX8, 8), rfl, by decide, uw8, (tb 263 (by decide +kernel) rfl), ck8, by decide +kernel, .inl ⟨rfl, rfl⟩⟩
theorem sf8_34_8 : SiteF RX8 34 8 7 true := ⟨rfl, (RX8, TX8, 8), rfl, by decide, uw8, (tb 265 (by decide +kernel) rfl)⟩
theorem sp8_34_8 : SiteP RX8 34 8 7 true .boolean false := ⟨rfl, (RX8, TX8, 8), rfl, by decide, uw8, (tb 265 (by decide +kernel) rfl), ck8, by decide +kernel, .inl ⟨rfl, rfl⟩⟩
theorem sf8_38_0 : SiteF RX8 38 0 2 true := ⟨rfl, (RX0, TX0, 4), rfl, by decide, uw0, (tb 172 (by decide +kernel) rfl)⟩
theorem sf8_38_1 : SiteF RX8 38 1 2 true := ⟨rfl, (RX1, TX1, 4), rfl, by decide, uw1, (tb 172 (by decide +kernel) rfl)⟩
theorem sf8_38_2 : SiteF RX8 38 2 2 true := ⟨rfl, (RX2, TX2, 4), rfl, by decide, uw2, (tb 172 (by decide +kernel) rfl)⟩
theorem sf8_38_3 : SiteF RX8 38 3 2 true := ⟨rfl, (RX3, TX3, 4), rfl, by decide, uw3, (tb 172 (by decide +kernel) rfl)⟩
theorem sf8_38_6 : SiteF RX8 38 6 2 true := ⟨rfl, (RX6, TX6, 4), rfl, by decide, uw6, (tb 172 (by decide +kernel) rfl)⟩
theorem sf8_38_7 : SiteF RX8 38 7 2 true := ⟨rfl, (RX7, TX7, 4), rfl, by decide, uw7, (tb 172 (by decide +kernel) rfl)⟩
theorem sf8_63_0 : SiteF RX8 63 0 3 true := ⟨rfl, (RX0, TX0, 4), rfl, by decide, uw0, (tb 175 (by decide +kernel) rfl)⟩
theorem sf8_63_1 : SiteF RX8 63 1 3 true := ⟨rfl, (RX1, TX1, 4), rfl, by decide, uw1, (tb 175 (by decide +kernel) rfl)⟩
theorem sf8_63_2 : SiteF RX8 63 2 3 true := ⟨rfl, (RX2, TX2, 4), rfl, by decide, uw2, (tb 175 (by decide +kernel) rfl)⟩
theorem sf8_63_3 : SiteF RX8 63 3 3 true := ⟨rfl, (RX3, TX3, 4), rfl, by decide, uw3, (tb 175 (by decide +kernel) rfl)⟩
theorem sf8_63_6 : SiteF RX8 63 6 3 true := ⟨rfl, (RX6, TX6, 4), rfl, by decide, uw6, (tb 175 (by decide +kernel) rfl)⟩
theorem sf8_63_7 : SiteF RX8 63 7 3 true := ⟨rfl, (RX7, TX7, 4), rfl, by decide, uw7, (tb 175 (by decide +kernel) rfl)⟩
theorem sf8_66_0 : SiteF RX8 66 0 0 true := ⟨rfl, (RX0, TX0, 4), rfl, by decide, uw0, (tb 168 (by decide +kernel) rfl)⟩
theorem sf8_66_1 : SiteF RX8 66 1 0 true := ⟨rfl, (RX1, TX1, 4), rfl, by decide, uw1, (tb 168 (by decide +kernel) rfl)⟩
theorem sf8_66_2 : SiteF RX8 66 2 0 true := ⟨rfl, (RX2, TX2, 4), rfl, by decide, uw2, (tb 168 (by decide +kernel) rfl)⟩
theorem sf8_66_3 : SiteF RX8 66 3 0 true := ⟨rfl, (RX3, TX3, 4), rfl, by decide, uw3, (tb 168 (by decide +kernel) rfl)⟩
theorem sf8_66_6 : SiteF RX8 66 6 0 true := ⟨rfl, (RX6, TX6, 4), rfl, by decide, uw6, (tb 168 (by decide +kernel) rfl)⟩
theorem sf8_66_7 : SiteF RX8 66 7 0 true := ⟨rfl, (RX7, TX7, 4), rfl, by decide, uw7, (tb 168 (by decide +kernel) rfl)⟩
theorem sp8_9_8 : SiteP RX8 9 8 0 true .int true := ⟨rfl, (RX8, TX8, 8), rfl, by decide, uw8, (tb 246 (by decide +kernel) rfl), ck8, by decide +kernel, .inr ⟨rfl, rfl, rfl⟩⟩
theorem sf9_13_9 : SiteF RX9 13 9 1 true := ⟨rfl, (RX9, TX9, 2), rfl, by decide, uw9, (tb 149 (by decide +kernel) rfl)⟩
theorem sp9_13_9 : SiteP RX9 13 9 1 true .int false := ⟨rfl, (RX9, TX9, 2), rfl, by decide, uw9, (tb 149 (by decide +kernel) rfl), ck9, by decide +kernel, .inl ⟨rfl, rfl⟩⟩
theorem sf9_7_9 : SiteF RX9 7 9 0 false := ⟨rfl, (RX9, TX9, 2), rfl, by decide, uw9, (tb 147 (by decide +kernel) rfl)⟩
theorem sp9_7_9 : SiteP RX9 7 9 0 false (.array .int) true := ⟨rfl, (RX9, TX9, 2), rfl, by decide, uw9, (tb 147 (by decide +kernel) rfl), ck9, by decide +kernel, .inr ⟨rfl, rfl, rfl⟩⟩
theorem sf10_105_10 : SiteF RX10 105 10 2 true := ⟨rfl, (RX10, TX10, 14), rfl, by decide, uw10, (tb 298 (by decide +kernel) rfl)⟩
theorem sp10_105_10 : SiteP RX10 105 10 2 true .int false := ⟨rfl, (RX10, TX10, 14), rfl, by decide, uw10, (tb 298 (by decide +kernel) rfl), ck10, by decide +kernel, .inl ⟨rfl, rfl⟩⟩
theorem sf10_11_10 : SiteF RX10 11 10 5 false := ⟨rfl, (RX10, TX10, 14), rfl, by decide, uw10, (tb 304 (by decide +kernel) rfl)⟩
theorem sp10_11_10 : SiteP RX10 11 10 5 false (.array .int) true := ⟨rfl, (RX10, TX10, 14), rfl, by decide, uw10, (tb 304 (by decide +kernel) rfl), ck10, by decide +kernel, .inr ⟨rfl, rfl, rfl⟩⟩
theorem sf10_138_8 : SiteF RX10 138 8 7 true := ⟨rfl, (RX8, TX8, 8), rfl, by decide, uw8, (tb 267 (by decide +kernel) rfl)⟩
theorem sf10_142_8 : SiteF RX10 142 8 4 true := ⟨rfl, (RX8, TX8, 8), rfl, by decide, uw8, (tb 259 (by decide +kernel) rfl)⟩
theorem sf10_17_10 : SiteF RX10 17 10 6 false := ⟨rfl, (RX10, TX10, 14), rfl, by decide, uw10, (tb 306 (by decide +kernel) rfl)⟩
theorem sp10_17_10 : SiteP RX10 17 10 6 false (.array .int) true := ⟨rfl, (RX10, TX10, 14), rfl, by decide, uw10, (tb 306 (by decide +kernel) rfl), ck10, by decide +kernel, .inr ⟨rfl, rfl, rfl⟩⟩
theorem sf10_20_10 : SiteF RX10 20 10 7 false := ⟨rfl, (RX10, TX10, 14), rfl, by decide, uw10, (tb 308 (by decide +kernel) rfl)⟩
theorem sp10_20_10 : SiteP RX10 20 10 7 false (.array .int) true := ⟨rfl, (RX10, TX10, 14), rfl, by decide, uw10, (tb 308 (by decide +kernel) rfl), ck10, by decide +kernel, .inr ⟨rfl, rfl, rfl⟩⟩
theorem sf10_23_10 : SiteF RX10 23 10 9 false := ⟨rfl, (RX10, TX10, 14), rfl, by decide, uw10, (tb 313 (by decide +kernel) rfl)⟩
theorem sp10_23_10 : SiteP RX10 23 10 9 false (.array (.object "CoalGrate$Thing")) true := ⟨rfl, (RX10, TX10, 14), rfl, by decide, uw10, (tb 313 (by decide +kernel) rfl), ck10, by decide +kernel, .inr ⟨rfl, rfl, rfl⟩⟩
theorem sf10_27_10 : SiteF RX10 27 10 11 false := ⟨rfl, (RX10, TX10, 14), rfl, by decide, uw10, (tb 318 (by decide +kernel) rfl)⟩
theorem sp10_27_10 : SiteP RX10 27 10 11 false (.array .int) true := ⟨rfl, (RX10, TX10, 14), rfl, by decide, uw10, (tb 318 (by decide +kernel) rfl), ck10, by decide +kernel, .inr ⟨rfl, rfl, rfl⟩⟩
theorem sf10_30_10 : SiteF RX10 30 10 12 false := ⟨rfl, (RX10, TX10, 14), rfl, by decide, uw10, (tb 320 (by decide +kernel) rfl)⟩
theorem sp10_30_10 : SiteP RX10 30 10 12 false (.array .int) true := ⟨rfl, (RX10, TX10, 14), rfl, by decide, uw10, (tb 320 (by decide +kernel) rfl), ck10, by decide +kernel, .inr ⟨rfl, rfl, rfl⟩⟩
theorem sf10_33_10 : SiteF RX10 33 10 13 false := ⟨rfl, (RX10, TX10, 14), rfl, by decide, uw10, (tb 322 (by decide +kernel) rfl)⟩
theorem sp10_33_10 : SiteP RX10 33 10 13 false (.array .int) true := ⟨rfl, (RX10, TX10, 14), rfl, by decide, uw10, (tb 322 (by decide +kernel) rfl), ck10, by decide +kernel, .inr ⟨rfl, rfl, rfl⟩⟩
theorem sf10_36_10 : SiteF RX10 36 10 0 false := ⟨rfl, (RX10, TX10, 14), rfl, by decide, uw10, (tb 294 (by decide +kernel) rfl)⟩
theorem sp10_36_10 : SiteP RX10 36 10 0 false (.array (.object "CoalGrate$Kind")) true := ⟨rfl, (RX10, TX10, 14), rfl, by decide, uw10, (tb 294 (by decide +kernel) rfl), ck10, by decide +kernel, .inr ⟨rfl, rfl, rfl⟩⟩
theorem sf10_43_10 : SiteF RX10 43 10 3 true := ⟨rfl, (RX10, TX10, 14), rfl, by decide, uw10, (tb 299 (by decide +kernel) rfl)⟩
theorem sp10_43_10 : SiteP RX10 43 10 3 true .int false := ⟨rfl, (RX10, TX10, 14), rfl, by decide, uw10, (tb 299 (by decide +kernel) rfl), ck10, by decide +kernel, .inl ⟨rfl, rfl⟩⟩
theorem sf10_47_10 : SiteF RX10 47 10 4 true := ⟨rfl, (RX10, TX10, 14), rfl, by decide, uw10, (tb 301 (by decide +kernel) rfl)⟩
theorem sp10_47_10 : SiteP RX10 47 10 4 true .int false := ⟨rfl, (RX10, TX10, 14), rfl, by decide, uw10, (tb 301 (by decide +kernel) rfl), ck10, by decide +kernel, .inl ⟨rfl, rfl⟩⟩
theorem sf10_50_10 : SiteF RX10 50 10 8 true := ⟨rfl, (RX10, TX10, 14), rfl, by decide, uw10, (tb 310 (by decide +kernel) rfl)⟩
theorem sp10_50_10 : SiteP RX10 50 10 8 true .int false := ⟨rfl, (RX10, TX10, 14), rfl, by decide, uw10, (tb 310 (by decide +kernel) rfl), ck10, by decide +kernel, .inl ⟨rfl, rfl⟩⟩
theorem sf10_53_10 : SiteF RX10 53 10 10 true := ⟨rfl, (RX10, TX10, 14), rfl, by decide, uw10, (tb 315 (by decide +kernel) rfl)⟩
theorem sp10_53_10 : SiteP RX10 53 10 10 true .int false := ⟨rfl, (RX10, TX10, 14), rfl, by decide, uw10, (tb 315 (by decide +kernel) rfl), ck10, by decide +kernel, .inl ⟨rfl, rfl⟩⟩
theorem sf10_65_8 : SiteF RX10 65 8 2 true := ⟨rfl, (RX8, TX8, 8), rfl, by decide, uw8, (tb 252 (by decide +kernel) rfl)⟩
theorem sf10_76_8 : SiteF RX10 76 8 1 false := ⟨rfl, (RX8, TX8, 8), rfl, by decide, uw8, (tb 249 (by decide +kernel) rfl)⟩
theorem sf10_80_0 : SiteF RX10 80 0 0 true := ⟨rfl, (RX0, TX0, 4), rfl, by decide, uw0, (tb 167 (by decide +kernel) rfl)⟩
theorem sf10_80_1 : SiteF RX10 80 1 0 true := ⟨rfl, (RX1, TX1, 4), rfl, by decide, uw1, (tb 167 (by decide +kernel) rfl)⟩
theorem sf10_80_2 : SiteF RX10 80 2 0 true := ⟨rfl, (RX2, TX2, 4), rfl, by decide, uw2, (tb 167 (by decide +kernel) rfl)⟩
theorem sf10_80_3 : SiteF RX10 80 3 0 true := ⟨rfl, (RX3, TX3, 4), rfl, by decide, uw3, (tb 167 (by decide +kernel) rfl)⟩
theorem sf10_80_6 : SiteF RX10 80 6 0 true := ⟨rfl, (RX6, TX6, 4), rfl, by decide, uw6, (tb 167 (by decide +kernel) rfl)⟩
theorem sf10_80_7 : SiteF RX10 80 7 0 true := ⟨rfl, (RX7, TX7, 4), rfl, by decide, uw7, (tb 167 (by decide +kernel) rfl)⟩
theorem sf10_85_10 : SiteF RX10 85 10 1 true := ⟨rfl, (RX10, TX10, 14), rfl, by decide, uw10, (tb 296 (by decide +kernel) rfl)⟩
theorem sp10_85_10 : SiteP RX10 85 10 1 true .int false := ⟨rfl, (RX10, TX10, 14), rfl, by decide, uw10, (tb 296 (by decide +kernel) rfl), ck10, by decide +kernel, .inl ⟨rfl, rfl⟩⟩
theorem sf11_10_11 : SiteF RX11 10 11 0 false := ⟨rfl, (RX11, TX11, 17), rfl, by decide, uw11, (tb 353 (by decide +kernel) rfl)⟩
theorem sp11_10_11 : SiteP RX11 10 11 0 false (.object "CoalGrate$Rows") true := ⟨rfl, (RX11, TX11, 17), rfl, by decide, uw11, (tb 353 (by decide +kernel) rfl), ck11, by decide +kernel, .inr ⟨rfl, rfl, rfl⟩⟩
theorem sf11_134_11 : SiteF RX11 134 11 16 true := ⟨rfl, (RX11, TX11, 17), rfl, by decide, uw11, (tb 369 (by decide +kernel) rfl)⟩
theorem sp11_134_11 : SiteP RX11 134 11 16 true .int false := ⟨rfl, (RX11, TX11, 17), rfl, by decide, uw11, (tb 369 (by decide +kernel) rfl), ck11, by decide +kernel, .inl ⟨rfl, rfl⟩⟩
theorem sf11_142_4 : SiteF RX11 142 4 1 true := ⟨rfl, (RX4, TX4, 6), rfl, by decide, uw4, (tb 121 (by decide +kernel) rfl)⟩
theorem sp11_142_4 : SiteP RX11 142 4 1 true .int false := ⟨rfl, (RX4, TX4, 6), rfl, by decide, uw4, (tb 121 (by decide +kernel) rfl), ck4, by decide +kernel, .inl ⟨rfl, rfl⟩⟩
theorem sf11_151_4 : SiteF RX11 151 4 4 true := ⟨rfl, (RX4, TX4, 6), rfl, by decide, uw4, (tb 124 (by decide +kernel) rfl)⟩
theorem sf11_154_11 : SiteF RX11 154 11 7 true := ⟨rfl, (RX11, TX11, 17), rfl, by decide, uw11, (tb 360 (by decide +kernel) rfl)⟩
theorem sp11_154_11 : SiteP RX11 154 11 7 true .boolean false := ⟨rfl, (RX11, TX11, 17), rfl, by decide, uw11, (tb 360 (by decide +kernel) rfl), ck11, by decide +kernel, .inl ⟨rfl, rfl⟩⟩
theorem sf11_158_11 : SiteF RX11 158 11 10 true := ⟨rfl, (RX11, TX11, 17), rfl, by decide, uw11, (tb 363 (by decide +kernel) rfl)⟩
theorem sp11_158_11 : SiteP RX11 158 11 10 true .int false := ⟨rfl, (RX11, TX11, 17), rfl, by decide, uw11, (tb 363 (by decide +kernel) rfl), ck11, by decide +kernel, .inl ⟨rfl, rfl⟩⟩
theorem sf11_161_10 : SiteF RX11 161 10 8 true := ⟨rfl, (RX10, TX10, 14), rfl, by decide, uw10, (tb 312 (by decide +kernel) rfl)⟩
theorem sf11_164_4 : SiteF RX11 164 4 5 true := ⟨rfl, (RX4, TX4, 6), rfl, by decide, uw4, (tb 126 (by decide +kernel) rfl)⟩
theorem sf11_168_10 : SiteF RX11 168 10 3 true := ⟨rfl, (RX10, TX10, 14), rfl, by decide, uw10, (tb 300 (by decide +kernel) rfl)⟩
theorem sf11_188_8 : SiteF RX11 188 8 6 true := ⟨rfl, (RX8, TX8, 8), rfl, by decide, uw8, (tb 264 (by decide +kernel) rfl)⟩
theorem sf11_19_11 : SiteF RX11 19 11 1 false := ⟨rfl, (RX11, TX11, 17), rfl, by decide, uw11, (tb 354 (by decide +kernel) rfl)⟩
theorem sp11_19_11 : SiteP RX11 19 11 1 false (.object "CoalGrate$Reader") true := ⟨rfl, (RX11, TX11, 17), rfl, by decide, uw11, (tb 354 (by decide +kernel) rfl), ck11, by decide +kernel, .inr ⟨rfl, rfl, rfl⟩⟩
theorem sf11_195_8 : SiteF RX11 195 8 2 true := ⟨rfl, (RX8, TX8, 8), rfl, by decide, uw8, (tb 253 (by decide +kernel) rfl)⟩
theorem sp11_195_8 : SiteP RX11 195 8 2 true .int false := ⟨rfl, (RX8, TX8, 8), rfl, by decide, uw8, (tb 253 (by decide +kernel) rfl), ck8, by decide +kernel, .inl ⟨rfl, rfl⟩⟩
theorem sf11_201_10 : SiteF RX11 201 10 4 true := ⟨rfl, (RX10, TX10, 14), rfl, by decide, uw10, (tb 303 (by decide +kernel) rfl)⟩
theorem sf11_221_10 : SiteF RX11 221 10 13 false := ⟨rfl, (RX10, TX10, 14), rfl, by decide, uw10, (tb 323 (by decide +kernel) rfl)⟩
theorem sf11_227_11 : SiteF RX11 227 11 9 true := ⟨rfl, (RX11, TX11, 17), rfl, by decide, uw11, (tb 362 (by decide +kernel) rfl)⟩
theorem sp11_227_11 : SiteP RX11 227 11 9 true .int false := ⟨rfl, (RX11, TX11, 17), rfl, by decide, uw11, (tb 362 (by decide +kernel) rfl), ck11, by decide +kernel, .inl ⟨rfl, rfl⟩⟩
theorem sf11_244_8 : SiteF RX11 244 8 3 true := ⟨rfl, (RX8, TX8, 8), rfl, by decide, uw8, (tb 256 (by decide +kernel) rfl)⟩
theorem sp11_244_8 : SiteP RX11 244 8 3 true .int false := ⟨rfl, (RX8, TX8, 8), rfl, by decide, uw8, (tb 256 (by decide +kernel) rfl), ck8, by decide +kernel, .inl ⟨rfl, rfl⟩⟩
theorem sf11_250_8 : SiteF RX11 250 8 7 true := ⟨rfl, (RX8, TX8, 8), rfl, by decide, uw8, (tb 266 (by decide +kernel) rfl)⟩
theorem sp11_250_8 : SiteP RX11 250 8 7 true .boolean false := ⟨rfl, (RX8, TX8, 8), rfl, by decide, uw8, (tb 266 (by decide +kernel) rfl), ck8, by decide +kernel, .inl ⟨rfl, rfl⟩⟩
theorem sf11_26_11 : SiteF RX11 26 11 2 false := ⟨rfl, (RX11, TX11, 17), rfl, by decide, uw11, (tb 355 (by decide +kernel) rfl)⟩
theorem sp11_26_11 : SiteP RX11 26 11 2 false (.object "CoalGrate$Trace") true := ⟨rfl, (RX11, TX11, 17), rfl, by decide, uw11, (tb 355 (by decide +kernel) rfl), ck11, by decide +kernel, .inr ⟨rfl, rfl, rfl⟩⟩
theorem sf11_260_10 : SiteF RX11 260 10 11 false := ⟨rfl, (RX10, TX10, 14), rfl, by decide, uw10, (tb 319 (by decide +kernel) rfl)⟩
theorem sf11_263_10 : SiteF RX11 263 10 12 false := ⟨rfl, (RX10, TX10, 14), rfl, by decide, uw10, (tb 321 (by decide +kernel) rfl)⟩
theorem sf11_266_10 : SiteF RX11 266 10 5 false := ⟨rfl, (RX10, TX10, 14), rfl, by decide, uw10, (tb 305 (by decide +kernel) rfl)⟩
theorem sf11_269_10 : SiteF RX11 269 10 6 false := ⟨rfl, (RX10, TX10, 14), rfl, by decide, uw10, (tb 307 (by decide +kernel) rfl)⟩
theorem sf11_272_10 : SiteF RX11 272 10 7 false := ⟨rfl, (RX10, TX10, 14), rfl, by decide, uw10, (tb 309 (by decide +kernel) rfl)⟩
theorem sf11_285_8 : SiteF RX11 285 8 4 true := ⟨rfl, (RX8, TX8, 8), rfl, by decide, uw8, (tb 260 (by decide +kernel) rfl)⟩
theorem sp11_285_8 : SiteP RX11 285 8 4 true .int false := ⟨rfl, (RX8, TX8, 8), rfl, by decide, uw8, (tb 260 (by decide +kernel) rfl), ck8, by decide +kernel, .inl ⟨rfl, rfl⟩⟩
theorem sf11_288_8 : SiteF RX11 288 8 5 true := ⟨rfl, (RX8, TX8, 8), rfl, by decide, uw8, (tb 262 (by decide +kernel) rfl)⟩
theorem sp11_288_8 : SiteP RX11 288 8 5 true .int false := ⟨rfl, (RX8, TX8, 8), rfl, by decide, uw8, (tb 262 (by decide +kernel) rfl), ck8, by decide +kernel, .inl ⟨rfl, rfl⟩⟩
theorem sf11_318_11 : SiteF RX11 318 11 15 true := ⟨rfl, (RX11, TX11, 17), rfl, by decide, uw11, (tb 368 (by decide +kernel) rfl)⟩
theorem sp11_318_11 : SiteP RX11 318 11 15 true .int false := ⟨rfl, (RX11, TX11, 17), rfl, by decide, uw11, (tb 368 (by decide +kernel) rfl), ck11, by decide +kernel, .inl ⟨rfl, rfl⟩⟩
theorem sf11_333_8 : SiteF RX11 333 8 1 false := ⟨rfl, (RX8, TX8, 8), rfl, by decide, uw8, (tb 250 (by decide +kernel) rfl)⟩
theorem sf11_337_0 : SiteF RX11 337 0 2 true := ⟨rfl, (RX0, TX0, 4), rfl, by decide, uw0, (tb 173 (by decide +kernel) rfl)⟩
theorem sf11_337_1 : SiteF RX11 337 1 2 true := ⟨rfl, (RX1, TX1, 4), rfl, by decide, uw1, (tb 173 (by decide +kernel) rfl)⟩
theorem sf11_337_2 : SiteF RX11 337 2 2 true := ⟨rfl, (RX2, TX2, 4), rfl, by decide, uw2, (tb 173 (by decide +kernel) rfl)⟩
theorem sf11_337_3 : SiteF RX11 337 3 2 true := ⟨rfl, (RX3, TX3, 4), rfl, by decide, uw3, (tb 173 (by decide +kernel) rfl)⟩
theorem sf11_337_6 : SiteF RX11 337 6 2 true := ⟨rfl, (RX6, TX6, 4), rfl, by decide, uw6, (tb 173 (by decide +kernel) rfl)⟩
theorem sf11_337_7 : SiteF RX11 337 7 2 true := ⟨rfl, (RX7, TX7, 4), rfl, by decide, uw7, (tb 173 (by decide +kernel) rfl)⟩
theorem sf11_34_11 : SiteF RX11 34 11 3 false := ⟨rfl, (RX11, TX11, 17), rfl, by decide, uw11, (tb 356 (by decide +kernel) rfl)⟩
theorem sp11_34_11 : SiteP RX11 34 11 3 false (.array (.object "CoalGrate$Kind")) true := ⟨rfl, (RX11, TX11, 17), rfl, by decide, uw11, (tb 356 (by decide +kernel) rfl), ck11, by decide +kernel, .inr ⟨rfl, rfl, rfl⟩⟩
theorem sf11_367_10 : SiteF RX11 367 10 10 true := ⟨rfl, (RX10, TX10, 14), rfl, by decide, uw10, (tb 317 (by decide +kernel) rfl)⟩
theorem sf11_373_10 : SiteF RX11 373 10 9 false := ⟨rfl, (RX10, TX10, 14), rfl, by decide, uw10, (tb 314 (by decide +kernel) rfl)⟩
theorem sf11_402_0 : SiteF RX11 402 0 0 true := ⟨rfl, (RX0, TX0, 4), rfl, by decide, uw0, (tb 169 (by decide +kernel) rfl)⟩
theorem sf11_402_1 : SiteF RX11 402 1 0 true := ⟨rfl, (RX1, TX1, 4), rfl, by decide, uw1, (tb 169 (by decide +kernel) rfl)⟩
theorem sf11_402_2 : SiteF RX11 402 2 0 true := ⟨rfl, (RX2, TX2, 4), rfl, by decide, uw2, (tb 169 (by decide +kernel) rfl)⟩
theorem sf11_402_3 : SiteF RX11 402 3 0 true := ⟨rfl, (RX3, TX3, 4), rfl, by decide, uw3, (tb 169 (by decide +kernel) rfl)⟩
theorem sf11_402_6 : SiteF RX11 402 6 0 true := ⟨rfl, (RX6, TX6, 4), rfl, by decide, uw6, (tb 169 (by decide +kernel) rfl)⟩
theorem sf11_402_7 : SiteF RX11 402 7 0 true := ⟨rfl, (RX7, TX7, 4), rfl, by decide, uw7, (tb 169 (by decide +kernel) rfl)⟩
theorem sf11_409_9 : SiteF RX11 409 9 1 true := ⟨rfl, (RX9, TX9, 2), rfl, by decide, uw9, (tb 150 (by decide +kernel) rfl)⟩
theorem sp11_409_9 : SiteP RX11 409 9 1 true .int false := ⟨rfl, (RX9, TX9, 2), rfl, by decide, uw9, (tb 150 (by decide +kernel) rfl), ck9, by decide +kernel, .inl ⟨rfl, rfl⟩⟩
theorem sf11_417_9 : SiteF RX11 417 9 0 false := ⟨rfl, (RX9, TX9, 2), rfl, by decide, uw9, (tb 148 (by decide +kernel) rfl)⟩
theorem sf11_43_11 : SiteF RX11 43 11 4 false := ⟨rfl, (RX11, TX11, 17), rfl, by decide, uw11, (tb 357 (by decide +kernel) rfl)⟩
theorem sp11_43_11 : SiteP RX11 43 11 4 false (.object "CoalGrate$Thing") true := ⟨rfl, (RX11, TX11, 17), rfl, by decide, uw11, (tb 357 (by decide +kernel) rfl), ck11, by decide +kernel, .inr ⟨rfl, rfl, rfl⟩⟩
theorem sf11_52_11 : SiteF RX11 52 11 5 false := ⟨rfl, (RX11, TX11, 17), rfl, by decide, uw11, (tb 358 (by decide +kernel) rfl)⟩
theorem sp11_52_11 : SiteP RX11 52 11 5 false (.object "CoalGrate$Yard") false := ⟨rfl, (RX11, TX11, 17), rfl, by decide, uw11, (tb 358 (by decide +kernel) rfl), ck11, by decide +kernel, .inl ⟨rfl, rfl⟩⟩
theorem sf11_56_11 : SiteF RX11 56 11 6 false := ⟨rfl, (RX11, TX11, 17), rfl, by decide, uw11, (tb 359 (by decide +kernel) rfl)⟩
theorem sp11_56_11 : SiteP RX11 56 11 6 false (.object "CoalGrate$Yard") false := ⟨rfl, (RX11, TX11, 17), rfl, by decide, uw11, (tb 359 (by decide +kernel) rfl), ck11, by decide +kernel, .inl ⟨rfl, rfl⟩⟩
theorem sf11_59_11 : SiteF RX11 59 11 8 false := ⟨rfl, (RX11, TX11, 17), rfl, by decide, uw11, (tb 361 (by decide +kernel) rfl)⟩
theorem sp11_59_11 : SiteP RX11 59 11 8 false (.array .int) true := ⟨rfl, (RX11, TX11, 17), rfl, by decide, uw11, (tb 361 (by decide +kernel) rfl), ck11, by decide +kernel, .inr ⟨rfl, rfl, rfl⟩⟩
theorem sf11_63_11 : SiteF RX11 63 11 11 false := ⟨rfl, (RX11, TX11, 17), rfl, by decide, uw11, (tb 364 (by decide +kernel) rfl)⟩
theorem sp11_63_11 : SiteP RX11 63 11 11 false (.array .int) true := ⟨rfl, (RX11, TX11, 17), rfl, by decide, uw11, (tb 364 (by decide +kernel) rfl), ck11, by decide +kernel, .inr ⟨rfl, rfl, rfl⟩⟩
theorem sf11_66_11 : SiteF RX11 66 11 12 false := ⟨rfl, (RX11, TX11, 17), rfl, by decide, uw11, (tb 365 (by decide +kernel) rfl)⟩
theorem sp11_66_11 : SiteP RX11 66 11 12 false (.array .boolean) true := ⟨rfl, (RX11, TX11, 17), rfl, by decide, uw11, (tb 365 (by decide +kernel) rfl), ck11, by decide +kernel, .inr ⟨rfl, rfl, rfl⟩⟩
theorem sf11_70_11 : SiteF RX11 70 11 13 false := ⟨rfl, (RX11, TX11, 17), rfl, by decide, uw11, (tb 366 (by decide +kernel) rfl)⟩
theorem sp11_70_11 : SiteP RX11 70 11 13 false (.array .int) true := ⟨rfl, (RX11, TX11, 17), rfl, by decide, uw11, (tb 366 (by decide +kernel) rfl), ck11, by decide +kernel, .inr ⟨rfl, rfl, rfl⟩⟩
theorem sf11_73_11 : SiteF RX11 73 11 14 false := ⟨rfl, (RX11, TX11, 17), rfl, by decide, uw11, (tb 367 (by decide +kernel) rfl)⟩
theorem sp11_73_11 : SiteP RX11 73 11 14 false (.array .int) true := ⟨rfl, (RX11, TX11, 17), rfl, by decide, uw11, (tb 367 (by decide +kernel) rfl), ck11, by decide +kernel, .inr ⟨rfl, rfl, rfl⟩⟩
theorem sf12_13_12 : SiteF RX12 13 12 1 false := ⟨rfl, (RX12, TX12, 24), rfl, by decide, uw12, (tb 1001 (by decide +kernel) rfl)⟩
theorem sp12_13_12 : SiteP RX12 13 12 1 false (.array .int) true := ⟨rfl, (RX12, TX12, 24), rfl, by decide, uw12, (tb 1001 (by decide +kernel) rfl), ck12, by decide +kernel, .inr ⟨rfl, rfl, rfl⟩⟩
theorem sf12_143_12 : SiteF RX12 143 12 16 true := ⟨rfl, (RX12, TX12, 24), rfl, by decide, uw12, (tb 1016 (by decide +kernel) rfl)⟩
theorem sp12_143_12 : SiteP RX12 143 12 16 true .int false := ⟨rfl, (RX12, TX12, 24), rfl, by decide, uw12, (tb 1016 (by decide +kernel) rfl), ck12, by decide +kernel, .inl ⟨rfl, rfl⟩⟩
theorem sf12_147_12 : SiteF RX12 147 12 4 true := ⟨rfl, (RX12, TX12, 24), rfl, by decide, uw12, (tb 1004 (by decide +kernel) rfl)⟩
theorem sp12_147_12 : SiteP RX12 147 12 4 true .int false := ⟨rfl, (RX12, TX12, 24), rfl, by decide, uw12, (tb 1004 (by decide +kernel) rfl), ck12, by decide +kernel, .inl ⟨rfl, rfl⟩⟩
theorem sf12_16_12 : SiteF RX12 16 12 2 false := ⟨rfl, (RX12, TX12, 24), rfl, by decide, uw12, (tb 1002 (by decide +kernel) rfl)⟩
theorem sp12_16_12 : SiteP RX12 16 12 2 false (.array .boolean) true := ⟨rfl, (RX12, TX12, 24), rfl, by decide, uw12, (tb 1002 (by decide +kernel) rfl), ck12, by decide +kernel, .inr ⟨rfl, rfl, rfl⟩⟩
theorem sf12_20_12 : SiteF RX12 20 12 3 false := ⟨rfl, (RX12, TX12, 24), rfl, by decide, uw12, (tb 1003 (by decide +kernel) rfl)⟩
theorem sp12_20_12 : SiteP RX12 20 12 3 false (.array .int) true := ⟨rfl, (RX12, TX12, 24), rfl, by decide, uw12, (tb 1003 (by decide +kernel) rfl), ck12, by decide +kernel, .inr ⟨rfl, rfl, rfl⟩⟩
theorem sf12_23_12 : SiteF RX12 23 12 5 false := ⟨rfl, (RX12, TX12, 24), rfl, by decide, uw12, (tb 1005 (by decide +kernel) rfl)⟩
theorem sp12_23_12 : SiteP RX12 23 12 5 false (.array .int) true := ⟨rfl, (RX12, TX12, 24), rfl, by decide, uw12, (tb 1005 (by decide +kernel) rfl), ck12, by decide +kernel, .inr ⟨rfl, rfl, rfl⟩⟩
theorem sf12_26_12 : SiteF RX12 26 12 6 false := ⟨rfl, (RX12, TX12, 24), rfl, by decide, uw12, (tb 1006 (by decide +kernel) rfl)⟩
theorem sp12_26_12 : SiteP RX12 26 12 6 false (.array .int) true := ⟨rfl, (RX12, TX12, 24), rfl, by decide, uw12, (tb 1006 (by decide +kernel) rfl), ck12, by decide +kernel, .inr ⟨rfl, rfl, rfl⟩⟩
theorem sf12_261_12 : SiteF RX12 261 12 23 true := ⟨rfl, (RX12, TX12, 24), rfl, by decide, uw12, (tb 1023 (by decide +kernel) rfl)⟩
theorem sp12_261_12 : SiteP RX12 261 12 23 true .int false := ⟨rfl, (RX12, TX12, 24), rfl, by decide, uw12, (tb 1023 (by decide +kernel) rfl), ck12, by decide +kernel, .inl ⟨rfl, rfl⟩⟩
theorem sf12_29_12 : SiteF RX12 29 12 7 false := ⟨rfl, (RX12, TX12, 24), rfl, by decide, uw12, (tb 1007 (by decide +kernel) rfl)⟩
theorem sp12_29_12 : SiteP RX12 29 12 7 false (.array .int) true := ⟨rfl, (RX12, TX12, 24), rfl, by decide, uw12, (tb 1007 (by decide +kernel) rfl), ck12, by decide +kernel, .inr ⟨rfl, rfl, rfl⟩⟩
theorem sf12_32_12 : SiteF RX12 32 12 9 false := ⟨rfl, (RX12, TX12, 24), rfl, by decide, uw12, (tb 1009 (by decide +kernel) rfl)⟩
theorem sp12_32_12 : SiteP RX12 32 12 9 false (.array .int) true := ⟨rfl, (RX12, TX12, 24), rfl, by decide, uw12, (tb 1009 (by decide +kernel) rfl), ck12, by decide +kernel, .inr ⟨rfl, rfl, rfl⟩⟩
theorem sf12_35_12 : SiteF RX12 35 12 17 false := ⟨rfl, (RX12, TX12, 24), rfl, by decide, uw12, (tb 1017 (by decide +kernel) rfl)⟩
theorem sp12_35_12 : SiteP RX12 35 12 17 false (.array .int) true := ⟨rfl, (RX12, TX12, 24), rfl, by decide, uw12, (tb 1017 (by decide +kernel) rfl), ck12, by decide +kernel, .inr ⟨rfl, rfl, rfl⟩⟩
theorem sf12_38_12 : SiteF RX12 38 12 18 false := ⟨rfl, (RX12, TX12, 24), rfl, by decide, uw12, (tb 1018 (by decide +kernel) rfl)⟩
theorem sp12_38_12 : SiteP RX12 38 12 18 false (.array .int) true := ⟨rfl, (RX12, TX12, 24), rfl, by decide, uw12, (tb 1018 (by decide +kernel) rfl), ck12, by decide +kernel, .inr ⟨rfl, rfl, rfl⟩⟩
theorem sf12_41_12 : SiteF RX12 41 12 19 false := ⟨rfl, (RX12, TX12, 24), rfl, by decide, uw12, (tb 1019 (by decide +kernel) rfl)⟩
theorem sp12_41_12 : SiteP RX12 41 12 19 false (.array .int) true := ⟨rfl, (RX12, TX12, 24), rfl, by decide, uw12, (tb 1019 (by decide +kernel) rfl), ck12, by decide +kernel, .inr ⟨rfl, rfl, rfl⟩⟩
theorem sf12_44_12 : SiteF RX12 44 12 20 false := ⟨rfl, (RX12, TX12, 24), rfl, by decide, uw12, (tb 1020 (by decide +kernel) rfl)⟩
theorem sp12_44_12 : SiteP RX12 44 12 20 false (.array .boolean) true := ⟨rfl, (RX12, TX12, 24), rfl, by decide, uw12, (tb 1020 (by decide +kernel) rfl), ck12, by decide +kernel, .inr ⟨rfl, rfl, rfl⟩⟩
theorem sf12_47_12 : SiteF RX12 47 12 21 false := ⟨rfl, (RX12, TX12, 24), rfl, by decide, uw12, (tb 1021 (by decide +kernel) rfl)⟩
theorem sp12_47_12 : SiteP RX12 47 12 21 false (.array .int) true := ⟨rfl, (RX12, TX12, 24), rfl, by decide, uw12, (tb 1021 (by decide +kernel) rfl), ck12, by decide +kernel, .inr ⟨rfl, rfl, rfl⟩⟩
theorem sf12_50_12 : SiteF RX12 50 12 22 false := ⟨rfl, (RX12, TX12, 24), rfl, by decide, uw12, (tb 1022 (by decide +kernel) rfl)⟩
theorem sp12_50_12 : SiteP RX12 50 12 22 false (.array .int) true := ⟨rfl, (RX12, TX12, 24), rfl, by decide, uw12, (tb 1022 (by decide +kernel) rfl), ck12, by decide +kernel, .inr ⟨rfl, rfl, rfl⟩⟩
theorem sf12_54_12 : SiteF RX12 54 12 8 true := ⟨rfl, (RX12, TX12, 24), rfl, by decide, uw12, (tb 1008 (by decide +kernel) rfl)⟩
theorem sp12_54_12 : SiteP RX12 54 12 8 true .int false := ⟨rfl, (RX12, TX12, 24), rfl, by decide, uw12, (tb 1008 (by decide +kernel) rfl), ck12, by decide +kernel, .inl ⟨rfl, rfl⟩⟩
theorem sf12_7_12 : SiteF RX12 7 12 0 false := ⟨rfl, (RX12, TX12, 24), rfl, by decide, uw12, (tb 1000 (by decide +kernel) rfl)⟩
theorem sp12_7_12 : SiteP RX12 7 12 0 false (.array .int) true := ⟨rfl, (RX12, TX12, 24), rfl, by decide, uw12, (tb 1000 (by decide +kernel) rfl), ck12, by decide +kernel, .inr ⟨rfl, rfl, rfl⟩⟩
theorem sf12_78_12 : SiteF RX12 78 12 10 true := ⟨rfl, (RX12, TX12, 24), rfl, by decide, uw12, (tb 1010 (by decide +kernel) rfl)⟩
theorem sp12_78_12 : SiteP RX12 78 12 10 true .int false := ⟨rfl, (RX12, TX12, 24), rfl, by decide, uw12, (tb 1010 (by decide +kernel) rfl), ck12, by decide +kernel, .inl ⟨rfl, rfl⟩⟩
theorem sf12_82_12 : SiteF RX12 82 12 11 true := ⟨rfl, (RX12, TX12, 24), rfl, by decide, uw12, (tb 1011 (by decide +kernel) rfl)⟩
theorem sp12_82_12 : SiteP RX12 82 12 11 true .int false := ⟨rfl, (RX12, TX12, 24), rfl, by decide, uw12, (tb 1011 (by decide +kernel) rfl), ck12, by decide +kernel, .inl ⟨rfl, rfl⟩⟩
theorem sf12_85_12 : SiteF RX12 85 12 12 true := ⟨rfl, (RX12, TX12, 24), rfl, by decide, uw12, (tb 1012 (by decide +kernel) rfl)⟩
theorem sp12_85_12 : SiteP RX12 85 12 12 true .int false := ⟨rfl, (RX12, TX12, 24), rfl, by decide, uw12, (tb 1012 (by decide +kernel) rfl), ck12, by decide +kernel, .inl ⟨rfl, rfl⟩⟩
theorem sf12_91_12 : SiteF RX12 91 12 13 true := ⟨rfl, (RX12, TX12, 24), rfl, by decide, uw12, (tb 1013 (by decide +kernel) rfl)⟩
theorem sp12_91_12 : SiteP RX12 91 12 13 true .int false := ⟨rfl, (RX12, TX12, 24), rfl, by decide, uw12, (tb 1013 (by decide +kernel) rfl), ck12, by decide +kernel, .inl ⟨rfl, rfl⟩⟩
theorem sf12_94_12 : SiteF RX12 94 12 14 true := ⟨rfl, (RX12, TX12, 24), rfl, by decide, uw12, (tb 1014 (by decide +kernel) rfl)⟩
theorem sp12_94_12 : SiteP RX12 94 12 14 true .int false := ⟨rfl, (RX12, TX12, 24), rfl, by decide, uw12, (tb 1014 (by decide +kernel) rfl), ck12, by decide +kernel, .inl ⟨rfl, rfl⟩⟩
theorem sf12_97_12 : SiteF RX12 97 12 15 true := ⟨rfl, (RX12, TX12, 24), rfl, by decide, uw12, (tb 1015 (by decide +kernel) rfl)⟩
theorem sp12_97_12 : SiteP RX12 97 12 15 true .int false := ⟨rfl, (RX12, TX12, 24), rfl, by decide, uw12, (tb 1015 (by decide +kernel) rfl), ck12, by decide +kernel, .inl ⟨rfl, rfl⟩⟩
theorem kc4_46 : Cond.constant RX4 46 (-1000000) ∈ TBL := (tb 522 (by decide +kernel) rfl)
theorem kc10_64 : Cond.constant RX10 64 (-1000000) ∈ TBL := (tb 558 (by decide +kernel) rfl)
theorem kc11_100 : Cond.constant RX11 100 (-1000001) ∈ TBL := (tb 414 (by decide +kernel) rfl)
theorem kc11_138 : Cond.constant RX11 138 (-1000010) ∈ TBL := (tb 419 (by decide +kernel) rfl)
theorem kc11_145 : Cond.constant RX11 145 (-1000003) ∈ TBL := (tb 475 (by decide +kernel) rfl)
theorem kc11_150 : Cond.constant RX11 150 (-1000100) ∈ TBL := (tb 559 (by decide +kernel) rfl)
theorem kc11_167 : Cond.constant RX11 167 (-1000002) ∈ TBL := (tb 568 (by decide +kernel) rfl)
theorem kc11_243 : Cond.constant RX11 243 (-1000000) ∈ TBL := (tb 737 (by decide +kernel) rfl)
theorem kc12_146 : Cond.constant RX12 146 (-1000100) ∈ TBL := (tb 1174 (by decide +kernel) rfl)
theorem kc12_187 : Cond.constant RX12 187 (-1000002) ∈ TBL := (tb 1187 (by decide +kernel) rfl)
theorem kc12_53 : Cond.constant RX12 53 (-1000000) ∈ TBL := (tb 999 (by decide +kernel) rfl)
theorem kc12_58 : Cond.constant RX12 58 (-1000010) ∈ TBL := (tb 1088 (by decide +kernel) rfl)
theorem kc12_67 : Cond.constant RX12 67 (-1000001) ∈ TBL := (tb 1083 (by decide +kernel) rfl)
theorem kc12_81 : Cond.constant RX12 81 (-1000003) ∈ TBL := (tb 1113 (by decide +kernel) rfl)
theorem kcJ_265 : Cond.constant RJ6 265 (1431655765) ∈ TBL := (tb 816 (by decide +kernel) rfl)
theorem kcJ_266 : Cond.constant RJ6 266 (858993459) ∈ TBL := (tb 817 (by decide +kernel) rfl)
theorem kcJ_267 : Cond.constant RJ6 267 (252645135) ∈ TBL := (tb 818 (by decide +kernel) rfl)
end
section
theorem st0_1 (ci : Nat) : Site RX0 (.invokespecial 1) (some ci) 8 := siteI rfl rfl m8 (tb 223 (by decide +kernel) rfl)
theorem st0_13 (ci : Nat) : Site RX0 (.invokespecial 13) (some ci) 11 := siteSU (by decide +kernel) m11 (tb 933 (by decide +kernel) rfl) (tb 925 (by decide +kernel) rfl) (tb 228 (by decide +kernel) rfl)
theorem st0_17 (ci : Nat) : Site RX0 (.invokespecial 17) (some ci) 12 := siteSU (by decide +kernel) m12 (tb 972 (by decide +kernel) rfl) (tb 1479 (by decide +kernel) rfl) (tb 228 (by decide +kernel) rfl)
theorem st0_20_0 : Site RX0 (.invokevirtual 20) (some 0) 1 := siteV (RX0, TX0, 4) rfl rfl m1 (tb 973 (by decide +kernel) rfl) (tb 1482 (by decide +kernel) rfl)
theorem st0_20_2 : Site RX0 (.invokevirtual 20) (some 2) 7 := siteO (owner := "CoalGrate$Cheese") (M0 := 1) ⟨"CoalGrate$Cheese", "sizeOf", "(LCoalGrate$Thing;LCoalGrate$Trace;)I"⟩ (RX2, TX2, 4) rfl rfl rfl m7 m1 (tb 973 (by decide +kernel) rfl) (tb 1480 (by decide +kernel) rfl) (tb 1483 (by decide +kernel) rfl)
theorem st0_7_9 : Site RX0 (.invokevirtual 7) (some 9) 58 := siteV (RX9, TX9, 2) rfl rfl m58 (tb 929 (by decide +kernel) rfl) (tb 931 (by decide +kernel) rfl)
theorem st1_1 (ci : Nat) : Site RX1 (.invokespecial 1) (some ci) 38 := siteI rfl rfl m38 (tb 201 (by decide +kernel) rfl)
theorem st1_13 (ci : Nat) : Site RX1 (.invokespecial 13) (some ci) 40 := siteSU (by decide +kernel) m40 (tb 938 (by decide +kernel) rfl) (tb 1478 (by decide +kernel) rfl) (tb 206 (by decide +kernel) rfl)
theorem st1_17 (ci : Nat) : Site RX1 (.invokespecial 17) (some ci) 41 := siteSU (by decide +kernel) m41 (tb 950 (by decide +kernel) rfl) (tb 946 (by decide +kernel) rfl) (tb 206 (by decide +kernel) rfl)
theorem st1_7_9 : Site RX1 (.invokevirtual 7) (some 9) 58 := siteV (RX9, TX9, 2) rfl rfl m58 (tb 937 (by decide +kernel) rfl) (tb 931 (by decide +kernel) rfl)
theorem st2_1 (ci : Nat) : Site RX2 (.invokespecial 1) (some ci) 0 := siteI rfl rfl m0 (tb 234 (by decide +kernel) rfl)
theorem st2_13 (ci : Nat) : Site RX2 (.invokespecial 13) (some ci) 1 := siteSU (by decide +kernel) m1 (tb 965 (by decide +kernel) rfl) (tb 1480 (by decide +kernel) rfl) (tb 239 (by decide +kernel) rfl)
theorem st2_7_9 : Site RX2 (.invokevirtual 7) (some 9) 58 := siteV (RX9, TX9, 2) rfl rfl m58 (tb 964 (by decide +kernel) rfl) (tb 931 (by decide +kernel) rfl)
theorem st3_1 : Cond.methodLink RX3 1 objectInit ∈ TBL := (tb 165 (by decide +kernel) rfl)
theorem st3_22_9 : Site RX3 (.invokevirtual 22) (some 9) 58 := siteV (RX9, TX9, 2) rfl rfl m58 (tb 960 (by decide +kernel) rfl) (tb 931 (by decide +kernel) rfl)
theorem st4_26_10 : Site RX4 (.invokevirtual 26) (some 10) 60 := siteV (RX10, TX10, 14) rfl rfl m60 (tb 484 (by decide +kernel) rfl) (tb 486 (by decide +kernel) rfl)
theorem st4_3 : Cond.methodLink RX4 3 objectInit ∈ TBL := (tb 118 (by decide +kernel) rfl)
theorem st4_31_4 : Site RX4 (.invokevirtual 31) (some 4) 16 := siteV (RX4, TX4, 6) rfl rfl m16 (tb 488 (by decide +kernel) rfl) (tb 490 (by decide +kernel) rfl)
theorem st4_35_4 : Site RX4 (.invokevirtual 35) (some 4) 20 := siteV (RX4, TX4, 6) rfl rfl m20 (tb 496 (by decide +kernel) rfl) (tb 498 (by decide +kernel) rfl)
theorem st4_39_4 : Site RX4 (.invokevirtual 39) (some 4) 17 := siteV (RX4, TX4, 6) rfl rfl m17 (tb 511 (by decide +kernel) rfl) (tb 513 (by decide +kernel) rfl)
theorem st4_42 : Site RX4 (.invokestatic 42) none 26 := siteS rfl m26 (tb 519 (by decide +kernel) rfl)
theorem st4_47_4 : Site RX4 (.invokevirtual 47) (some 4) 18 := siteV (RX4, TX4, 6) rfl rfl m18 (tb 523 (by decide +kernel) rfl) (tb 525 (by decide +kernel) rfl)
theorem st4_50_4 : Site RX4 (.invokevirtual 50) (some 4) 19 := siteV (RX4, TX4, 6) rfl rfl m19 (tb 550 (by decide +kernel) rfl) (tb 552 (by decide +kernel) rfl)
theorem st4_53_4 : Site RX4 (.invokevirtual 53) (some 4) 24 := siteV (RX4, TX4, 6) rfl rfl m24 (tb 500 (by decide +kernel) rfl) (tb 502 (by decide +kernel) rfl)
theorem st4_57_4 : Site RX4 (.invokevirtual 57) (some 4) 21 := siteV (RX4, TX4, 6) rfl rfl m21 (tb 492 (by decide +kernel) rfl) (tb 494 (by decide +kernel) rfl)
theorem st4_61_4 : Site RX4 (.invokevirtual 61) (some 4) 23 := siteV (RX4, TX4, 6) rfl rfl m23 (tb 504 (by decide +kernel) rfl) (tb 506 (by decide +kernel) rfl)
theorem st4_74_10 : Site RX4 (.invokevirtual 74) (some 10) 61 := siteV (RX10, TX10, 14) rfl rfl m61 (tb 515 (by decide +kernel) rfl) (tb 517 (by decide +kernel) rfl)
theorem st4_81_4 : Site RX4 (.invokevirtual 81) (some 4) 22 := siteV (RX4, TX4, 6) rfl rfl m22 (tb 527 (by decide +kernel) rfl) (tb 529 (by decide +kernel) rfl)
theorem st4_84_10 : Site RX4 (.invokevirtual 84) (some 10) 67 := siteV (RX10, TX10, 14) rfl rfl m67 (tb 531 (by decide +kernel) rfl) (tb 533 (by decide +kernel) rfl)
theorem st4_88_10 : Site RX4 (.invokevirtual 88) (some 10) 62 := siteV (RX10, TX10, 14) rfl rfl m62 (tb 538 (by decide +kernel) rfl) (tb 540 (by decide +kernel) rfl)
theorem st4_94_10 : Site RX4 (.invokevirtual 94) (some 10) 63 := siteV (RX10, TX10, 14) rfl rfl m63 (tb 554 (by decide +kernel) rfl) (tb 556 (by decide +kernel) rfl)
theorem st4_97 : Site RX4 (.invokestatic 97) none 25 := siteS rfl m25 (tb 508 (by decide +kernel) rfl)
theorem st5_1 : Cond.methodLink RX5 1 objectInit ∈ TBL := (tb 101 (by decide +kernel) rfl)
theorem st5_19 : Cond.methodLink RX5 19 arraycopyName ∈ TBL := (tb 456 (by decide +kernel) rfl)
theorem st5_25_5 : Site RX5 (.invokevirtual 25) (some 5) 29 := siteV (RX5, TX5, 3) rfl rfl m29 (tb 986 (by decide +kernel) rfl) (tb 434 (by decide +kernel) rfl)
theorem st5_29 : Site RX5 (.invokestatic 29) none 108 := siteSN (host := "CoalGrate") m108 (by decide +kernel)
theorem st6_1 (ci : Nat) : Site RX6 (.invokespecial 1) (some ci) 8 := siteI rfl rfl m8 (tb 190 (by decide +kernel) rfl)
theorem st6_13 (ci : Nat) : Site RX6 (.invokespecial 13) (some ci) 11 := siteSU (by decide +kernel) m11 (tb 942 (by decide +kernel) rfl) (tb 925 (by decide +kernel) rfl) (tb 195 (by decide +kernel) rfl)
theorem st6_17_6 : Site RX6 (.invokevirtual 17) (some 6) 41 := siteV (RX6, TX6, 4) rfl rfl m41 (tb 943 (by decide +kernel) rfl) (tb 945 (by decide +kernel) rfl)
theorem st6_17_1 : Site RX6 (.invokevirtual 17) (some 1) 5 := siteO (owner := "CoalGrate$Sausage") (M0 := 41) ⟨"CoalGrate$Sausage", "markOf", "(LCoalGrate$Thing;LCoalGrate$Trace;)I"⟩ (RX1, TX1, 4) rfl rfl rfl m5 m41 (tb 943 (by decide +kernel) rfl) (tb 946 (by decide +kernel) rfl) (tb 947 (by decide +kernel) rfl)
theorem st6_17_7 : Site RX6 (.invokevirtual 17) (some 7) 43 := siteO (owner := "CoalGrate$Sausage") (M0 := 41) ⟨"CoalGrate$Sausage", "markOf", "(LCoalGrate$Thing;LCoalGrate$Trace;)I"⟩ (RX7, TX7, 4) rfl rfl rfl m43 m41 (tb 943 (by decide +kernel) rfl) (tb 946 (by decide +kernel) rfl) (tb 951 (by decide +kernel) rfl)
theorem st6_22 (ci : Nat) : Site RX6 (.invokespecial 22) (some ci) 12 := siteSU (by decide +kernel) m12 (tb 957 (by decide +kernel) rfl) (tb 1479 (by decide +kernel) rfl) (tb 195 (by decide +kernel) rfl)
theorem st6_7_9 : Site RX6 (.invokevirtual 7) (some 9) 58 := siteV (RX9, TX9, 2) rfl rfl m58 (tb 941 (by decide +kernel) rfl) (tb 931 (by decide +kernel) rfl)
theorem st7_1 (ci : Nat) : Site RX7 (.invokespecial 1) (some ci) 38 := siteI rfl rfl m38 (tb 212 (by decide +kernel) rfl)
theorem st7_13 (ci : Nat) : Site RX7 (.invokespecial 13) (some ci) 41 := siteSU (by decide +kernel) m41 (tb 955 (by decide +kernel) rfl) (tb 946 (by decide +kernel) rfl) (tb 217 (by decide +kernel) rfl)
theorem st7_7_9 : Site RX7 (.invokevirtual 7) (some 9) 58 := siteV (RX9, TX9, 2) rfl rfl m58 (tb 954 (by decide +kernel) rfl) (tb 931 (by decide +kernel) rfl)
theorem st8_3 : Cond.methodLink RX8 3 objectInit ∈ TBL := (tb 245 (by decide +kernel) rfl)
theorem st8_43_8 : Site RX8 (.invokevirtual 43) (some 8) 48 := siteV (RX8, TX8, 8) rfl rfl m48 (tb 708 (by decide +kernel) rfl) (tb 710 (by decide +kernel) rfl)
theorem st8_47_3 : Site RX8 (.invokevirtual 47) (some 3) 10 := siteV (RX3, TX3, 4) rfl rfl m10 (tb 625 (by decide +kernel) rfl) (tb 627 (by decide +kernel) rfl)
theorem st8_47_0 : Site RX8 (.invokevirtual 47) (some 0) 10 := siteU (owner := "CoalGrate$Kind") ⟨"CoalGrate$Kind", "drips", "()Z"⟩ (RX0, TX0, 4) rfl rfl m10 (tb 625 (by decide +kernel) rfl) (tb 628 (by decide +kernel) rfl) (tb 629 (by decide +kernel) rfl)
theorem st8_47_1 : Site RX8 (.invokevirtual 47) (some 1) 39 := siteO (owner := "CoalGrate$Kind") (M0 := 10) ⟨"CoalGrate$Kind", "drips", "()Z"⟩ (RX1, TX1, 4) rfl rfl rfl m39 m10 (tb 625 (by decide +kernel) rfl) (tb 628 (by decide +kernel) rfl) (tb 630 (by decide +kernel) rfl)
theorem st8_47_2 : Site RX8 (.invokevirtual 47) (some 2) 10 := siteU (owner := "CoalGrate$Kind") ⟨"CoalGrate$Kind", "drips", "()Z"⟩ (RX2, TX2, 4) rfl rfl m10 (tb 625 (by decide +kernel) rfl) (tb 628 (by decide +kernel) rfl) (tb 633 (by decide +kernel) rfl)
theorem st8_47_6 : Site RX8 (.invokevirtual 47) (some 6) 39 := siteO (owner := "CoalGrate$Kind") (M0 := 10) ⟨"CoalGrate$Kind", "drips", "()Z"⟩ (RX6, TX6, 4) rfl rfl rfl m39 m10 (tb 625 (by decide +kernel) rfl) (tb 628 (by decide +kernel) rfl) (tb 634 (by decide +kernel) rfl)
theorem st8_47_7 : Site RX8 (.invokevirtual 47) (some 7) 39 := siteO (owner := "CoalGrate$Kind") (M0 := 10) ⟨"CoalGrate$Kind", "drips", "()Z"⟩ (RX7, TX7, 4) rfl rfl rfl m39 m10 (tb 625 (by decide +kernel) rfl) (tb 628 (by decide +kernel) rfl) (tb 635 (by decide +kernel) rfl)
theorem st8_50_8 : Site RX8 (.invokevirtual 50) (some 8) 52 := siteV (RX8, TX8, 8) rfl rfl m52 (tb 621 (by decide +kernel) rfl) (tb 623 (by decide +kernel) rfl)
theorem st8_54 : Cond.methodLink RX8 54 Lib.Math.max.name ∈ TBL := (tb 637 (by decide +kernel) rfl)
theorem st8_59_3 : Site RX8 (.invokevirtual 59) (some 3) 9 := siteV (RX3, TX3, 4) rfl rfl m9 (tb 638 (by decide +kernel) rfl) (tb 640 (by decide +kernel) rfl)
theorem st8_59_0 : Site RX8 (.invokevirtual 59) (some 0) 9 := siteU (owner := "CoalGrate$Kind") ⟨"CoalGrate$Kind", "share", "(I)I"⟩ (RX0, TX0, 4) rfl rfl m9 (tb 638 (by decide +kernel) rfl) (tb 641 (by decide +kernel) rfl) (tb 642 (by decide +kernel) rfl)
theorem st8_59_1 : Site RX8 (.invokevirtual 59) (some 1) 9 := siteU (owner := "CoalGrate$Kind") ⟨"CoalGrate$Kind", "share", "(I)I"⟩ (RX1, TX1, 4) rfl rfl m9 (tb 638 (by decide +kernel) rfl) (tb 641 (by decide +kernel) rfl) (tb 643 (by decide +kernel) rfl)
theorem st8_59_2 : Site RX8 (.invokevirtual 59) (some 2) 9 := siteU (owner := "CoalGrate$Kind") ⟨"CoalGrate$Kind", "share", "(I)I"⟩ (RX2, TX2, 4) rfl rfl m9 (tb 638 (by decide +kernel) rfl) (tb 641 (by decide +kernel) rfl) (tb 644 (by decide +kernel) rfl)
theorem st8_59_6 : Site RX8 (.invokevirtual 59) (some 6) 9 := siteU (owner := "CoalGrate$Kind") ⟨"CoalGrate$Kind", "share", "(I)I"⟩ (RX6, TX6, 4) rfl rfl m9 (tb 638 (by decide +kernel) rfl) (tb 641 (by decide +kernel) rfl) (tb 645 (by decide +kernel) rfl)
theorem st8_59_7 : Site RX8 (.invokevirtual 59) (some 7) 9 := siteU (owner := "CoalGrate$Kind") ⟨"CoalGrate$Kind", "share", "(I)I"⟩ (RX7, TX7, 4) rfl rfl m9 (tb 638 (by decide +kernel) rfl) (tb 641 (by decide +kernel) rfl) (tb 646 (by decide +kernel) rfl)
theorem st8_67 : Site RX8 (.invokestatic 67) none 108 := siteSN (host := "CoalGrate") m108 (by decide +kernel)
theorem st9_1 : Cond.methodLink RX9 1 objectInit ∈ TBL := (tb 146 (by decide +kernel) rfl)
theorem st10_102 : Cond.methodLink RX10 102 Lib.Math.abs.name ∈ TBL := (tb 610 (by decide +kernel) rfl)
theorem st10_108_10 : Site RX10 (.invokevirtual 108) (some 10) 71 := siteV (RX10, TX10, 14) rfl rfl m71 (tb 596 (by decide +kernel) rfl) (tb 598 (by decide +kernel) rfl)
theorem st10_111_10 : Site RX10 (.invokevirtual 111) (some 10) 73 := siteV (RX10, TX10, 14) rfl rfl m73 (tb 613 (by decide +kernel) rfl) (tb 615 (by decide +kernel) rfl)
theorem st10_114_8 : Site RX10 (.invokevirtual 114) (some 8) 53 := siteV (RX8, TX8, 8) rfl rfl m53 (tb 617 (by decide +kernel) rfl) (tb 619 (by decide +kernel) rfl)
theorem st10_118_8 : Site RX10 (.invokevirtual 118) (some 8) 47 := siteV (RX8, TX8, 8) rfl rfl m47 (tb 648 (by decide +kernel) rfl) (tb 650 (by decide +kernel) rfl)
theorem st10_122_8 : Site RX10 (.invokevirtual 122) (some 8) 54 := siteV (RX8, TX8, 8) rfl rfl m54 (tb 652 (by decide +kernel) rfl) (tb 654 (by decide +kernel) rfl)
theorem st10_126_10 : Site RX10 (.invokevirtual 126) (some 10) 74 := siteV (RX10, TX10, 14) rfl rfl m74 (tb 592 (by decide +kernel) rfl) (tb 594 (by decide +kernel) rfl)
theorem st10_130_10 : Site RX10 (.invokevirtual 130) (some 10) 77 := siteV (RX10, TX10, 14) rfl rfl m77 (tb 692 (by decide +kernel) rfl) (tb 694 (by decide +kernel) rfl)
theorem st10_134 : Site RX10 (.invokestatic 134) none 108 := siteSN (host := "CoalGrate") m108 (by decide +kernel)
theorem st10_145_8 : Site RX10 (.invokevirtual 145) (some 8) 49 := siteV (RX8, TX8, 8) rfl rfl m49 (tb 875 (by decide +kernel) rfl) (tb 706 (by decide +kernel) rfl)
theorem st10_148 : Cond.methodLink RX10 148 arraycopyName ∈ TBL := (tb 577 (by decide +kernel) rfl)
theorem st10_154_8 : Site RX10 (.invokevirtual 154) (some 8) 55 := siteV (RX8, TX8, 8) rfl rfl m55 (tb 578 (by decide +kernel) rfl) (tb 580 (by decide +kernel) rfl)
theorem st10_158_8 : Site RX10 (.invokevirtual 158) (some 8) 56 := siteV (RX8, TX8, 8) rfl rfl m56 (tb 729 (by decide +kernel) rfl) (tb 731 (by decide +kernel) rfl)
theorem st10_40 (ci : Nat) : Site RX10 (.invokespecial 40) (some ci) 44 := siteI rfl rfl m44 (tb 293 (by decide +kernel) rfl)
theorem st10_5 : Cond.methodLink RX10 5 objectInit ∈ TBL := (tb 290 (by decide +kernel) rfl)
theorem st10_56_10 : Site RX10 (.invokevirtual 56) (some 10) 64 := siteV (RX10, TX10, 14) rfl rfl m64 (tb 542 (by decide +kernel) rfl) (tb 544 (by decide +kernel) rfl)
theorem st10_60_8 : Site RX10 (.invokevirtual 60) (some 8) 45 := siteV (RX8, TX8, 8) rfl rfl m45 (tb 546 (by decide +kernel) rfl) (tb 548 (by decide +kernel) rfl)
theorem st10_68 : Site RX10 (.invokestatic 68) none 109 := siteSN (host := "CoalGrate") m109 (by decide +kernel)
theorem st10_72_10 : Site RX10 (.invokevirtual 72) (some 10) 67 := siteV (RX10, TX10, 14) rfl rfl m67 (tb 677 (by decide +kernel) rfl) (tb 533 (by decide +kernel) rfl)
theorem st10_88_10 : Site RX10 (.invokevirtual 88) (some 10) 70 := siteV (RX10, TX10, 14) rfl rfl m70 (tb 600 (by decide +kernel) rfl) (tb 602 (by decide +kernel) rfl)
theorem st10_92 : Cond.methodLink RX10 92 Lib.Math.max.name ∈ TBL := (tb 604 (by decide +kernel) rfl)
theorem st10_98 : Site RX10 (.invokestatic 98) none 72 := siteS rfl m72 (tb 607 (by decide +kernel) rfl)
theorem st11_1 : Cond.methodLink RX11 1 objectInit ∈ TBL := (tb 93 (by decide +kernel) rfl)
theorem st11_101_11 : Site RX11 (.invokevirtual 101) (some 11) 91 := siteV (RX11, TX11, 17) rfl rfl m91 (tb 415 (by decide +kernel) rfl) (tb 0 (by decide +kernel) rfl)
theorem st11_105_5 : Site RX11 (.invokevirtual 105) (some 5) 32 := siteV (RX5, TX5, 3) rfl rfl m32 (tb 420 (by decide +kernel) rfl) (tb 422 (by decide +kernel) rfl)
theorem st11_109_11 : Site RX11 (.invokevirtual 109) (some 11) 92 := siteV (RX11, TX11, 17) rfl rfl m92 (tb 424 (by decide +kernel) rfl) (tb 1 (by decide +kernel) rfl)
theorem st11_112_5 : Site RX11 (.invokevirtual 112) (some 5) 29 := siteV (RX5, TX5, 3) rfl rfl m29 (tb 432 (by decide +kernel) rfl) (tb 434 (by decide +kernel) rfl)
theorem st11_115_5 : Site RX11 (.invokevirtual 115) (some 5) 31 := siteV (RX5, TX5, 3) rfl rfl m31 (tb 436 (by decide +kernel) rfl) (tb 438 (by decide +kernel) rfl)
theorem st11_119_5 : Site RX11 (.invokevirtual 119) (some 5) 34 := siteV (RX5, TX5, 3) rfl rfl m34 (tb 440 (by decide +kernel) rfl) (tb 442 (by decide +kernel) rfl)
theorem st11_123_5 : Site RX11 (.invokevirtual 123) (some 5) 30 := siteV (RX5, TX5, 3) rfl rfl m30 (tb 448 (by decide +kernel) rfl) (tb 450 (by decide +kernel) rfl)
theorem st11_127_5 : Site RX11 (.invokevirtual 127) (some 5) 35 := siteV (RX5, TX5, 3) rfl rfl m35 (tb 452 (by decide +kernel) rfl) (tb 454 (by decide +kernel) rfl)
theorem st11_131_5 : Site RX11 (.invokevirtual 131) (some 5) 36 := siteV (RX5, TX5, 3) rfl rfl m36 (tb 463 (by decide +kernel) rfl) (tb 465 (by decide +kernel) rfl)
theorem st11_139_4 : Site RX11 (.invokevirtual 139) (some 4) 14 := siteV (RX4, TX4, 6) rfl rfl m14 (tb 471 (by decide +kernel) rfl) (tb 473 (by decide +kernel) rfl)
theorem st11_146_4 : Site RX11 (.invokevirtual 146) (some 4) 15 := siteV (RX4, TX4, 6) rfl rfl m15 (tb 480 (by decide +kernel) rfl) (tb 482 (by decide +kernel) rfl)
theorem st11_171_11 : Site RX11 (.invokevirtual 171) (some 11) 103 := siteV (RX11, TX11, 17) rfl rfl m103 (tb 569 (by decide +kernel) rfl) (tb 2 (by decide +kernel) rfl)
theorem st11_174_10 : Site RX11 (.invokevirtual 174) (some 10) 75 := siteV (RX10, TX10, 14) rfl rfl m75 (tb 588 (by decide +kernel) rfl) (tb 590 (by decide +kernel) rfl)
theorem st11_177_10 : Site RX11 (.invokevirtual 177) (some 10) 65 := siteV (RX10, TX10, 14) rfl rfl m65 (tb 660 (by decide +kernel) rfl) (tb 662 (by decide +kernel) rfl)
theorem st11_18 (ci : Nat) : Site RX11 (.invokespecial 18) (some ci) 13 := siteIN (host := "CoalGrate") rfl rfl m13 (by decide +kernel)
theorem st11_181_8 : Site RX11 (.invokevirtual 181) (some 8) 47 := siteV (RX8, TX8, 8) rfl rfl m47 (tb 664 (by decide +kernel) rfl) (tb 650 (by decide +kernel) rfl)
theorem st11_185_8 : Site RX11 (.invokevirtual 185) (some 8) 51 := siteV (RX8, TX8, 8) rfl rfl m51 (tb 665 (by decide +kernel) rfl) (tb 667 (by decide +kernel) rfl)
theorem st11_191_10 : Site RX11 (.invokevirtual 191) (some 10) 68 := siteV (RX10, TX10, 14) rfl rfl m68 (tb 673 (by decide +kernel) rfl) (tb 675 (by decide +kernel) rfl)
theorem st11_198 : Site RX11 (.invokestatic 198) none 109 := siteS rfl m109 (tb 682 (by decide +kernel) rfl)
theorem st11_204_10 : Site RX11 (.invokevirtual 204) (some 10) 61 := siteV (RX10, TX10, 14) rfl rfl m61 (tb 683 (by decide +kernel) rfl) (tb 517 (by decide +kernel) rfl)
theorem st11_207_10 : Site RX11 (.invokevirtual 207) (some 10) 76 := siteV (RX10, TX10, 14) rfl rfl m76 (tb 688 (by decide +kernel) rfl) (tb 690 (by decide +kernel) rfl)
theorem st11_211_10 : Site RX11 (.invokevirtual 211) (some 10) 66 := siteV (RX10, TX10, 14) rfl rfl m66 (tb 700 (by decide +kernel) rfl) (tb 702 (by decide +kernel) rfl)
theorem st11_214_8 : Site RX11 (.invokevirtual 214) (some 8) 49 := siteV (RX8, TX8, 8) rfl rfl m49 (tb 704 (by decide +kernel) rfl) (tb 706 (by decide +kernel) rfl)
theorem st11_217_10 : Site RX11 (.invokevirtual 217) (some 10) 69 := siteV (RX10, TX10, 14) rfl rfl m69 (tb 712 (by decide +kernel) rfl) (tb 714 (by decide +kernel) rfl)
theorem st11_224_10 : Site RX11 (.invokevirtual 224) (some 10) 79 := siteV (RX10, TX10, 14) rfl rfl m79 (tb 716 (by decide +kernel) rfl) (tb 718 (by decide +kernel) rfl)
theorem st11_230_10 : Site RX11 (.invokevirtual 230) (some 10) 84 := siteV (RX10, TX10, 14) rfl rfl m84 (tb 725 (by decide +kernel) rfl) (tb 727 (by decide +kernel) rfl)
theorem st11_234_10 : Site RX11 (.invokevirtual 234) (some 10) 83 := siteV (RX10, TX10, 14) rfl rfl m83 (tb 573 (by decide +kernel) rfl) (tb 575 (by decide +kernel) rfl)
theorem st11_237 : Cond.methodLink RX11 237 Lib.Math.min.name ∈ TBL := (tb 585 (by decide +kernel) rfl)
theorem st11_247_8 : Site RX11 (.invokevirtual 247) (some 8) 50 := siteV (RX8, TX8, 8) rfl rfl m50 (tb 738 (by decide +kernel) rfl) (tb 740 (by decide +kernel) rfl)
theorem st11_25 (ci : Nat) : Site RX11 (.invokespecial 25) (some ci) 57 := siteIN (host := "CoalGrate") rfl rfl m57 (by decide +kernel)
theorem st11_253 : Site RX11 (.invokestatic 253) none 108 := siteS rfl m108 (tb 742 (by decide +kernel) rfl)
theorem st11_257_8 : Site RX11 (.invokevirtual 257) (some 8) 48 := siteV (RX8, TX8, 8) rfl rfl m48 (tb 743 (by decide +kernel) rfl) (tb 710 (by decide +kernel) rfl)
theorem st11_275_11 : Site RX11 (.invokevirtual 275) (some 11) 111 := siteV (RX11, TX11, 17) rfl rfl m111 (tb 756 (by decide +kernel) rfl) (tb 758 (by decide +kernel) rfl)
theorem st11_278 : Site RX11 (.invokestatic 278) none 112 := siteS rfl m112 (tb 760 (by decide +kernel) rfl)
theorem st11_281_11 : Site RX11 (.invokevirtual 281) (some 11) 113 := siteV (RX11, TX11, 17) rfl rfl m113 (tb 766 (by decide +kernel) rfl) (tb 3 (by decide +kernel) rfl)
theorem st11_291_10 : Site RX11 (.invokevirtual 291) (some 10) 71 := siteV (RX10, TX10, 14) rfl rfl m71 (tb 763 (by decide +kernel) rfl) (tb 598 (by decide +kernel) rfl)
theorem st11_294_10 : Site RX11 (.invokevirtual 294) (some 10) 67 := siteV (RX10, TX10, 14) rfl rfl m67 (tb 764 (by decide +kernel) rfl) (tb 533 (by decide +kernel) rfl)
theorem st11_297_10 : Site RX11 (.invokevirtual 297) (some 10) 73 := siteV (RX10, TX10, 14) rfl rfl m73 (tb 765 (by decide +kernel) rfl) (tb 615 (by decide +kernel) rfl)
theorem st11_30 : Site RX11 (.invokestatic 30) none 86 := siteS rfl m86 (tb 156 (by decide +kernel) rfl)
theorem st11_300_8 : Site RX11 (.invokevirtual 300) (some 8) 52 := siteV (RX8, TX8, 8) rfl rfl m52 (tb 775 (by decide +kernel) rfl) (tb 623 (by decide +kernel) rfl)
theorem st11_303_8 : Site RX11 (.invokevirtual 303) (some 8) 46 := siteV (RX8, TX8, 8) rfl rfl m46 (tb 770 (by decide +kernel) rfl) (tb 772 (by decide +kernel) rfl)
theorem st11_307_10 : Site RX11 (.invokevirtual 307) (some 10) 74 := siteV (RX10, TX10, 14) rfl rfl m74 (tb 774 (by decide +kernel) rfl) (tb 594 (by decide +kernel) rfl)
theorem st11_310_11 : Site RX11 (.invokevirtual 310) (some 11) 117 := siteV (RX11, TX11, 17) rfl rfl m117 (tb 785 (by decide +kernel) rfl) (tb 4 (by decide +kernel) rfl)
theorem st11_314_11 : Site RX11 (.invokevirtual 314) (some 11) 119 := siteV (RX11, TX11, 17) rfl rfl m119 (tb 801 (by decide +kernel) rfl) (tb 5 (by decide +kernel) rfl)
theorem st11_321_11 : Site RX11 (.invokevirtual 321) (some 11) 120 := siteV (RX11, TX11, 17) rfl rfl m120 (tb 805 (by decide +kernel) rfl) (tb 6 (by decide +kernel) rfl)
theorem st11_325 : Site RX11 (.invokestatic 325) none 248 := siteS2 m248 (tb 813 (by decide +kernel) rfl)
theorem st11_330_11 : Site RX11 (.invokevirtual 330) (some 11) 122 := siteV (RX11, TX11, 17) rfl rfl m122 (tb 809 (by decide +kernel) rfl) (tb 7 (by decide +kernel) rfl)
theorem st11_340_11 : Site RX11 (.invokevirtual 340) (some 11) 121 := siteV (RX11, TX11, 17) rfl rfl m121 (tb 819 (by decide +kernel) rfl) (tb 8 (by decide +kernel) rfl)
theorem st11_343_8 : Site RX11 (.invokevirtual 343) (some 8) 53 := siteV (RX8, TX8, 8) rfl rfl m53 (tb 823 (by decide +kernel) rfl) (tb 619 (by decide +kernel) rfl)
theorem st11_346_11 : Site RX11 (.invokevirtual 346) (some 11) 124 := siteV (RX11, TX11, 17) rfl rfl m124 (tb 828 (by decide +kernel) rfl) (tb 9 (by decide +kernel) rfl)
theorem st11_350_8 : Site RX11 (.invokevirtual 350) (some 8) 54 := siteV (RX8, TX8, 8) rfl rfl m54 (tb 832 (by decide +kernel) rfl) (tb 654 (by decide +kernel) rfl)
theorem st11_354_11 : Site RX11 (.invokevirtual 354) (some 11) 126 := siteV (RX11, TX11, 17) rfl rfl m126 (tb 837 (by decide +kernel) rfl) (tb 10 (by decide +kernel) rfl)
theorem st11_358_10 : Site RX11 (.invokevirtual 358) (some 10) 70 := siteV (RX10, TX10, 14) rfl rfl m70 (tb 841 (by decide +kernel) rfl) (tb 602 (by decide +kernel) rfl)
theorem st11_361 : Cond.methodLink RX11 361 Lib.Math.max.name ∈ TBL := (tb 842 (by decide +kernel) rfl)
theorem st11_364_11 : Site RX11 (.invokevirtual 364) (some 11) 128 := siteV (RX11, TX11, 17) rfl rfl m128 (tb 847 (by decide +kernel) rfl) (tb 11 (by decide +kernel) rfl)
theorem st11_370_11 : Site RX11 (.invokevirtual 370) (some 11) 129 := siteV (RX11, TX11, 17) rfl rfl m129 (tb 851 (by decide +kernel) rfl) (tb 12 (by decide +kernel) rfl)
theorem st11_377_11 : Site RX11 (.invokevirtual 377) (some 11) 133 := siteV (RX11, TX11, 17) rfl rfl m133 (tb 859 (by decide +kernel) rfl) (tb 13 (by decide +kernel) rfl)
theorem st11_380_10 : Site RX11 (.invokevirtual 380) (some 10) 80 := siteV (RX10, TX10, 14) rfl rfl m80 (tb 863 (by decide +kernel) rfl) (tb 865 (by decide +kernel) rfl)
theorem st11_384_10 : Site RX11 (.invokevirtual 384) (some 10) 81 := siteV (RX10, TX10, 14) rfl rfl m81 (tb 867 (by decide +kernel) rfl) (tb 869 (by decide +kernel) rfl)
theorem st11_387_10 : Site RX11 (.invokevirtual 387) (some 10) 82 := siteV (RX10, TX10, 14) rfl rfl m82 (tb 871 (by decide +kernel) rfl) (tb 873 (by decide +kernel) rfl)
theorem st11_390_11 : Site RX11 (.invokevirtual 390) (some 11) 132 := siteV (RX11, TX11, 17) rfl rfl m132 (tb 880 (by decide +kernel) rfl) (tb 14 (by decide +kernel) rfl)
theorem st11_393_5 : Site RX11 (.invokevirtual 393) (some 5) 33 := siteV (RX5, TX5, 3) rfl rfl m33 (tb 884 (by decide +kernel) rfl) (tb 886 (by decide +kernel) rfl)
theorem st11_396_10 : Site RX11 (.invokevirtual 396) (some 10) 78 := siteV (RX10, TX10, 14) rfl rfl m78 (tb 892 (by decide +kernel) rfl) (tb 894 (by decide +kernel) rfl)
theorem st11_399 : Site RX11 (.invokestatic 399) none 137 := siteS rfl m137 (tb 900 (by decide +kernel) rfl)
theorem st11_40 (ci : Nat) : Site RX11 (.invokespecial 40) (some ci) 44 := siteI rfl rfl m44 (tb 242 (by decide +kernel) rfl)
theorem st11_405 : Site RX11 (.invokestatic 405) none 140 := siteS rfl m140 (tb 915 (by decide +kernel) rfl)
theorem st11_410_3 : Site RX11 (.invokevirtual 410) (some 3) 11 := siteV (RX3, TX3, 4) rfl rfl m11 (tb 922 (by decide +kernel) rfl) (tb 924 (by decide +kernel) rfl)
theorem st11_410_0 : Site RX11 (.invokevirtual 410) (some 0) 1 := siteO (owner := "CoalGrate$Kind") (M0 := 11) ⟨"CoalGrate$Kind", "sizeOf", "(LCoalGrate$Thing;LCoalGrate$Trace;)I"⟩ (RX0, TX0, 4) rfl rfl rfl m1 m11 (tb 922 (by decide +kernel) rfl) (tb 925 (by decide +kernel) rfl) (tb 926 (by decide +kernel) rfl)
theorem st11_410_1 : Site RX11 (.invokevirtual 410) (some 1) 4 := siteO (owner := "CoalGrate$Kind") (M0 := 11) ⟨"CoalGrate$Kind", "sizeOf", "(LCoalGrate$Thing;LCoalGrate$Trace;)I"⟩ (RX1, TX1, 4) rfl rfl rfl m4 m11 (tb 922 (by decide +kernel) rfl) (tb 925 (by decide +kernel) rfl) (tb 934 (by decide +kernel) rfl)
theorem st11_410_2 : Site RX11 (.invokevirtual 410) (some 2) 7 := siteO (owner := "CoalGrate$Kind") (M0 := 11) ⟨"CoalGrate$Kind", "sizeOf", "(LCoalGrate$Thing;LCoalGrate$Trace;)I"⟩ (RX2, TX2, 4) rfl rfl rfl m7 m11 (tb 922 (by decide +kernel) rfl) (tb 925 (by decide +kernel) rfl) (tb 961 (by decide +kernel) rfl)
theorem st11_410_6 : Site RX11 (.invokevirtual 410) (some 6) 40 := siteO (owner := "CoalGrate$Kind") (M0 := 11) ⟨"CoalGrate$Kind", "sizeOf", "(LCoalGrate$Thing;LCoalGrate$Trace;)I"⟩ (RX6, TX6, 4) rfl rfl rfl m40 m11 (tb 922 (by decide +kernel) rfl) (tb 925 (by decide +kernel) rfl) (tb 966 (by decide +kernel) rfl)
theorem st11_410_7 : Site RX11 (.invokevirtual 410) (some 7) 40 := siteO (owner := "CoalGrate$Kind") (M0 := 11) ⟨"CoalGrate$Kind", "sizeOf", "(LCoalGrate$Thing;LCoalGrate$Trace;)I"⟩ (RX7, TX7, 4) rfl rfl rfl m40 m11 (tb 922 (by decide +kernel) rfl) (tb 925 (by decide +kernel) rfl) (tb 967 (by decide +kernel) rfl)
theorem st11_414_0 : Site RX11 (.invokevirtual 414) (some 0) 2 := siteO (owner := "CoalGrate$Kind") (M0 := 12) ⟨"CoalGrate$Kind", "markOf", "(LCoalGrate$Thing;LCoalGrate$Trace;)I"⟩ (RX0, TX0, 4) rfl rfl rfl m2 m12 (tb 969 (by decide +kernel) rfl) (tb 1479 (by decide +kernel) rfl) (tb 1481 (by decide +kernel) rfl)
theorem st11_414_1 : Site RX11 (.invokevirtual 414) (some 1) 5 := siteO (owner := "CoalGrate$Kind") (M0 := 12) ⟨"CoalGrate$Kind", "markOf", "(LCoalGrate$Thing;LCoalGrate$Trace;)I"⟩ (RX1, TX1, 4) rfl rfl rfl m5 m12 (tb 969 (by decide +kernel) rfl) (tb 1479 (by decide +kernel) rfl) (tb 1484 (by decide +kernel) rfl)
theorem st11_414_2 : Site RX11 (.invokevirtual 414) (some 2) 2 := siteO (owner := "CoalGrate$Kind") (M0 := 12) ⟨"CoalGrate$Kind", "markOf", "(LCoalGrate$Thing;LCoalGrate$Trace;)I"⟩ (RX2, TX2, 4) rfl rfl rfl m2 m12 (tb 969 (by decide +kernel) rfl) (tb 1479 (by decide +kernel) rfl) (tb 1485 (by decide +kernel) rfl)
theorem st11_414_3 : Site RX11 (.invokevirtual 414) (some 3) 12 := siteV (RX3, TX3, 4) rfl rfl m12 (tb 969 (by decide +kernel) rfl) (tb 1486 (by decide +kernel) rfl)
theorem st11_414_6 : Site RX11 (.invokevirtual 414) (some 6) 41 := siteO (owner := "CoalGrate$Kind") (M0 := 12) ⟨"CoalGrate$Kind", "markOf", "(LCoalGrate$Thing;LCoalGrate$Trace;)I"⟩ (RX6, TX6, 4) rfl rfl rfl m41 m12 (tb 969 (by decide +kernel) rfl) (tb 1479 (by decide +kernel) rfl) (tb 1487 (by decide +kernel) rfl)
theorem st11_414_7 : Site RX11 (.invokevirtual 414) (some 7) 43 := siteO (owner := "CoalGrate$Kind") (M0 := 12) ⟨"CoalGrate$Kind", "markOf", "(LCoalGrate$Thing;LCoalGrate$Trace;)I"⟩ (RX7, TX7, 4) rfl rfl rfl m43 m12 (tb 969 (by decide +kernel) rfl) (tb 1479 (by decide +kernel) rfl) (tb 1488 (by decide +kernel) rfl)
theorem st11_420_5 : Site RX11 (.invokevirtual 420) (some 5) 37 := siteV (RX5, TX5, 3) rfl rfl m37 (tb 982 (by decide +kernel) rfl) (tb 984 (by decide +kernel) rfl)
theorem st11_423_10 : Site RX11 (.invokevirtual 423) (some 10) 77 := siteV (RX10, TX10, 14) rfl rfl m77 (tb 988 (by decide +kernel) rfl) (tb 694 (by decide +kernel) rfl)
theorem st11_49 (ci : Nat) : Site RX11 (.invokespecial 49) (some ci) 59 := siteI rfl rfl m59 (tb 287 (by decide +kernel) rfl)
theorem st11_78 (ci : Nat) : Site RX11 (.invokespecial 78) (some ci) 8 := siteI rfl rfl m8 (tb 162 (by decide +kernel) rfl)
theorem st11_83 (ci : Nat) : Site RX11 (.invokespecial 83) (some ci) 38 := siteI rfl rfl m38 (tb 187 (by decide +kernel) rfl)
theorem st11_86 (ci : Nat) : Site RX11 (.invokespecial 86) (some ci) 3 := siteI rfl rfl m3 (tb 198 (by decide +kernel) rfl)
theorem st11_89 (ci : Nat) : Site RX11 (.invokespecial 89) (some ci) 42 := siteI rfl rfl m42 (tb 209 (by decide +kernel) rfl)
theorem st11_9 (ci : Nat) : Site RX11 (.invokespecial 9) (some ci) 27 := siteI rfl rfl m27 (tb 98 (by decide +kernel) rfl)
theorem st11_92 (ci : Nat) : Site RX11 (.invokespecial 92) (some ci) 0 := siteI rfl rfl m0 (tb 220 (by decide +kernel) rfl)
theorem st11_95 (ci : Nat) : Site RX11 (.invokespecial 95) (some ci) 6 := siteI rfl rfl m6 (tb 231 (by decide +kernel) rfl)
theorem st11_96_5 : Site RX11 (.invokevirtual 96) (some 5) 28 := siteV (RX5, TX5, 3) rfl rfl m28 (tb 410 (by decide +kernel) rfl) (tb 412 (by decide +kernel) rfl)
theorem stL_101_12 : Site RL (.invokevirtual 101) (some 12) 212 := siteV (RX12, TX12, 24) rfl rfl m212 (tb 1328 (by decide +kernel) rfl) (tb 1330 (by decide +kernel) rfl)
theorem stL_102_11 : Site RL (.invokevirtual 102) (some 11) 115 := siteV (RX11, TX11, 17) rfl rfl m115 (tb 789 (by decide +kernel) rfl) (tb 791 (by decide +kernel) rfl)
theorem stL_105_12 : Site RL (.invokevirtual 105) (some 12) 213 := siteV (RX12, TX12, 24) rfl rfl m213 (tb 1336 (by decide +kernel) rfl) (tb 1338 (by decide +kernel) rfl)
theorem stL_106_11 : Site RL (.invokevirtual 106) (some 11) 116 := siteV (RX11, TX11, 17) rfl rfl m116 (tb 793 (by decide +kernel) rfl) (tb 795 (by decide +kernel) rfl)
theorem stL_109_12 : Site RL (.invokevirtual 109) (some 12) 214 := siteV (RX12, TX12, 24) rfl rfl m214 (tb 1340 (by decide +kernel) rfl) (tb 1342 (by decide +kernel) rfl)
theorem stL_110_11 : Site RL (.invokevirtual 110) (some 11) 118 := siteV (RX11, TX11, 17) rfl rfl m118 (tb 797 (by decide +kernel) rfl) (tb 799 (by decide +kernel) rfl)
theorem stL_113_12 : Site RL (.invokevirtual 113) (some 12) 217 := siteV (RX12, TX12, 24) rfl rfl m217 (tb 1344 (by decide +kernel) rfl) (tb 1346 (by decide +kernel) rfl)
theorem stL_114_11 : Site RL (.invokevirtual 114) (some 11) 123 := siteV (RX11, TX11, 17) rfl rfl m123 (tb 824 (by decide +kernel) rfl) (tb 826 (by decide +kernel) rfl)
theorem stL_117_12 : Site RL (.invokevirtual 117) (some 12) 218 := siteV (RX12, TX12, 24) rfl rfl m218 (tb 1355 (by decide +kernel) rfl) (tb 1357 (by decide +kernel) rfl)
theorem stL_118_11 : Site RL (.invokevirtual 118) (some 11) 125 := siteV (RX11, TX11, 17) rfl rfl m125 (tb 833 (by decide +kernel) rfl) (tb 835 (by decide +kernel) rfl)
theorem stL_12 (ci : Nat) : Site RL (.invokespecial 12) (some ci) 145 := siteI rfl rfl m145 (tb 995 (by decide +kernel) rfl)
theorem stL_121_12 : Site RL (.invokevirtual 121) (some 12) 219 := siteV (RX12, TX12, 24) rfl rfl m219 (tb 1359 (by decide +kernel) rfl) (tb 1361 (by decide +kernel) rfl)
theorem stL_122_11 : Site RL (.invokevirtual 122) (some 11) 127 := siteV (RX11, TX11, 17) rfl rfl m127 (tb 843 (by decide +kernel) rfl) (tb 845 (by decide +kernel) rfl)
theorem stL_125_12 : Site RL (.invokevirtual 125) (some 12) 222 := siteV (RX12, TX12, 24) rfl rfl m222 (tb 1363 (by decide +kernel) rfl) (tb 1365 (by decide +kernel) rfl)
theorem stL_126_11 : Site RL (.invokevirtual 126) (some 11) 130 := siteV (RX11, TX11, 17) rfl rfl m130 (tb 855 (by decide +kernel) rfl) (tb 857 (by decide +kernel) rfl)
theorem stL_129_12 : Site RL (.invokevirtual 129) (some 12) 225 := siteV (RX12, TX12, 24) rfl rfl m225 (tb 1378 (by decide +kernel) rfl) (tb 1380 (by decide +kernel) rfl)
theorem stL_13_11 : Site RL (.invokevirtual 13) (some 11) 87 := siteV (RX11, TX11, 17) rfl rfl m87 (tb 406 (by decide +kernel) rfl) (tb 408 (by decide +kernel) rfl)
theorem stL_130_11 : Site RL (.invokevirtual 130) (some 11) 131 := siteV (RX11, TX11, 17) rfl rfl m131 (tb 876 (by decide +kernel) rfl) (tb 878 (by decide +kernel) rfl)
theorem stL_133_12 : Site RL (.invokevirtual 133) (some 12) 227 := siteV (RX12, TX12, 24) rfl rfl m227 (tb 1390 (by decide +kernel) rfl) (tb 1392 (by decide +kernel) rfl)
theorem stL_134_11 : Site RL (.invokevirtual 134) (some 11) 134 := siteV (RX11, TX11, 17) rfl rfl m134 (tb 888 (by decide +kernel) rfl) (tb 890 (by decide +kernel) rfl)
theorem stL_137_12 : Site RL (.invokevirtual 137) (some 12) 229 := siteV (RX12, TX12, 24) rfl rfl m229 (tb 1398 (by decide +kernel) rfl) (tb 1400 (by decide +kernel) rfl)
theorem stL_138_11 : Site RL (.invokevirtual 138) (some 11) 135 := siteV (RX11, TX11, 17) rfl rfl m135 (tb 896 (by decide +kernel) rfl) (tb 898 (by decide +kernel) rfl)
theorem stL_141_12 : Site RL (.invokevirtual 141) (some 12) 230 := siteV (RX12, TX12, 24) rfl rfl m230 (tb 1406 (by decide +kernel) rfl) (tb 1408 (by decide +kernel) rfl)
theorem stL_142_11 : Site RL (.invokevirtual 142) (some 11) 136 := siteV (RX11, TX11, 17) rfl rfl m136 (tb 903 (by decide +kernel) rfl) (tb 905 (by decide +kernel) rfl)
theorem stL_145_12 : Site RL (.invokevirtual 145) (some 12) 231 := siteV (RX12, TX12, 24) rfl rfl m231 (tb 1410 (by decide +kernel) rfl) (tb 1412 (by decide +kernel) rfl)
theorem stL_146_11 : Site RL (.invokevirtual 146) (some 11) 138 := siteV (RX11, TX11, 17) rfl rfl m138 (tb 907 (by decide +kernel) rfl) (tb 909 (by decide +kernel) rfl)
theorem stL_149_12 : Site RL (.invokevirtual 149) (some 12) 232 := siteV (RX12, TX12, 24) rfl rfl m232 (tb 1414 (by decide +kernel) rfl) (tb 1416 (by decide +kernel) rfl)
theorem stL_150_11 : Site RL (.invokevirtual 150) (some 11) 139 := siteV (RX11, TX11, 17) rfl rfl m139 (tb 911 (by decide +kernel) rfl) (tb 913 (by decide +kernel) rfl)
theorem stL_153_12 : Site RL (.invokevirtual 153) (some 12) 233 := siteV (RX12, TX12, 24) rfl rfl m233 (tb 1418 (by decide +kernel) rfl) (tb 1420 (by decide +kernel) rfl)
theorem stL_154_11 : Site RL (.invokevirtual 154) (some 11) 141 := siteV (RX11, TX11, 17) rfl rfl m141 (tb 918 (by decide +kernel) rfl) (tb 920 (by decide +kernel) rfl)
theorem stL_157_12 : Site RL (.invokevirtual 157) (some 12) 244 := siteV (RX12, TX12, 24) rfl rfl m244 (tb 1422 (by decide +kernel) rfl) (tb 1424 (by decide +kernel) rfl)
theorem stL_158_11 : Site RL (.invokevirtual 158) (some 11) 142 := siteV (RX11, TX11, 17) rfl rfl m142 (tb 974 (by decide +kernel) rfl) (tb 976 (by decide +kernel) rfl)
theorem stL_161_12 : Site RL (.invokevirtual 161) (some 12) 245 := siteV (RX12, TX12, 24) rfl rfl m245 (tb 1466 (by decide +kernel) rfl) (tb 1468 (by decide +kernel) rfl)
theorem stL_162_11 : Site RL (.invokevirtual 162) (some 11) 143 := siteV (RX11, TX11, 17) rfl rfl m143 (tb 978 (by decide +kernel) rfl) (tb 980 (by decide +kernel) rfl)
theorem stL_165_12 : Site RL (.invokevirtual 165) (some 12) 246 := siteV (RX12, TX12, 24) rfl rfl m246 (tb 1470 (by decide +kernel) rfl) (tb 1472 (by decide +kernel) rfl)
theorem stL_166_11 : Site RL (.invokevirtual 166) (some 11) 144 := siteV (RX11, TX11, 17) rfl rfl m144 (tb 989 (by decide +kernel) rfl) (tb 991 (by decide +kernel) rfl)
theorem stL_169_12 : Site RL (.invokevirtual 169) (some 12) 247 := siteV (RX12, TX12, 24) rfl rfl m247 (tb 1474 (by decide +kernel) rfl) (tb 1476 (by decide +kernel) rfl)
theorem stL_17_12 : Site RL (.invokevirtual 17) (some 12) 151 := siteV (RX12, TX12, 24) rfl rfl m151 (tb 1073 (by decide +kernel) rfl) (tb 1075 (by decide +kernel) rfl)
theorem stL_18_11 : Site RL (.invokevirtual 18) (some 11) 88 := siteV (RX11, TX11, 17) rfl rfl m88 (tb 428 (by decide +kernel) rfl) (tb 430 (by decide +kernel) rfl)
theorem stL_21_12 : Site RL (.invokevirtual 21) (some 12) 152 := siteV (RX12, TX12, 24) rfl rfl m152 (tb 1093 (by decide +kernel) rfl) (tb 1095 (by decide +kernel) rfl)
theorem stL_22_11 : Site RL (.invokevirtual 22) (some 11) 89 := siteV (RX11, TX11, 17) rfl rfl m89 (tb 444 (by decide +kernel) rfl) (tb 446 (by decide +kernel) rfl)
theorem stL_26_12 : Site RL (.invokevirtual 26) (some 12) 154 := siteV (RX12, TX12, 24) rfl rfl m154 (tb 1097 (by decide +kernel) rfl) (tb 1099 (by decide +kernel) rfl)
theorem stL_27_11 : Site RL (.invokevirtual 27) (some 11) 90 := siteV (RX11, TX11, 17) rfl rfl m90 (tb 459 (by decide +kernel) rfl) (tb 461 (by decide +kernel) rfl)
theorem stL_31_12 : Site RL (.invokevirtual 31) (some 12) 155 := siteV (RX12, TX12, 24) rfl rfl m155 (tb 1105 (by decide +kernel) rfl) (tb 1107 (by decide +kernel) rfl)
theorem stL_32_11 : Site RL (.invokevirtual 32) (some 11) 93 := siteV (RX11, TX11, 17) rfl rfl m93 (tb 467 (by decide +kernel) rfl) (tb 469 (by decide +kernel) rfl)
theorem stL_35_12 : Site RL (.invokevirtual 35) (some 12) 156 := siteV (RX12, TX12, 24) rfl rfl m156 (tb 1109 (by decide +kernel) rfl) (tb 1111 (by decide +kernel) rfl)
theorem stL_36_11 : Site RL (.invokevirtual 36) (some 11) 94 := siteV (RX11, TX11, 17) rfl rfl m94 (tb 476 (by decide +kernel) rfl) (tb 478 (by decide +kernel) rfl)
theorem stL_40_12 : Site RL (.invokevirtual 40) (some 12) 171 := siteV (RX12, TX12, 24) rfl rfl m171 (tb 1114 (by decide +kernel) rfl) (tb 1116 (by decide +kernel) rfl)
theorem stL_41_11 : Site RL (.invokevirtual 41) (some 11) 95 := siteV (RX11, TX11, 17) rfl rfl m95 (tb 560 (by decide +kernel) rfl) (tb 562 (by decide +kernel) rfl)
theorem stL_44_12 : Site RL (.invokevirtual 44) (some 12) 172 := siteV (RX12, TX12, 24) rfl rfl m172 (tb 1175 (by decide +kernel) rfl) (tb 1177 (by decide +kernel) rfl)
theorem stL_45_11 : Site RL (.invokevirtual 45) (some 11) 96 := siteV (RX11, TX11, 17) rfl rfl m96 (tb 564 (by decide +kernel) rfl) (tb 566 (by decide +kernel) rfl)
theorem stL_48_12 : Site RL (.invokevirtual 48) (some 12) 190 := siteV (RX12, TX12, 24) rfl rfl m190 (tb 1179 (by decide +kernel) rfl) (tb 1181 (by decide +kernel) rfl)
theorem stL_49_11 : Site RL (.invokevirtual 49) (some 11) 97 := siteV (RX11, TX11, 17) rfl rfl m97 (tb 656 (by decide +kernel) rfl) (tb 658 (by decide +kernel) rfl)
theorem stL_52_12 : Site RL (.invokevirtual 52) (some 12) 191 := siteV (RX12, TX12, 24) rfl rfl m191 (tb 1236 (by decide +kernel) rfl) (tb 1238 (by decide +kernel) rfl)
theorem stL_53_11 : Site RL (.invokevirtual 53) (some 11) 98 := siteV (RX11, TX11, 17) rfl rfl m98 (tb 669 (by decide +kernel) rfl) (tb 671 (by decide +kernel) rfl)
theorem stL_57_12 : Site RL (.invokevirtual 57) (some 12) 193 := siteV (RX12, TX12, 24) rfl rfl m193 (tb 1244 (by decide +kernel) rfl) (tb 1246 (by decide +kernel) rfl)
theorem stL_58_11 : Site RL (.invokevirtual 58) (some 11) 99 := siteV (RX11, TX11, 17) rfl rfl m99 (tb 678 (by decide +kernel) rfl) (tb 680 (by decide +kernel) rfl)
theorem stL_61_12 : Site RL (.invokevirtual 61) (some 12) 195 := siteV (RX12, TX12, 24) rfl rfl m195 (tb 1252 (by decide +kernel) rfl) (tb 1254 (by decide +kernel) rfl)
theorem stL_62_11 : Site RL (.invokevirtual 62) (some 11) 100 := siteV (RX11, TX11, 17) rfl rfl m100 (tb 684 (by decide +kernel) rfl) (tb 686 (by decide +kernel) rfl)
theorem stL_65_12 : Site RL (.invokevirtual 65) (some 12) 196 := siteV (RX12, TX12, 24) rfl rfl m196 (tb 1260 (by decide +kernel) rfl) (tb 1262 (by decide +kernel) rfl)
theorem stL_66_11 : Site RL (.invokevirtual 66) (some 11) 101 := siteV (RX11, TX11, 17) rfl rfl m101 (tb 696 (by decide +kernel) rfl) (tb 698 (by decide +kernel) rfl)
theorem stL_69_12 : Site RL (.invokevirtual 69) (some 12) 200 := siteV (RX12, TX12, 24) rfl rfl m200 (tb 1264 (by decide +kernel) rfl) (tb 1266 (by decide +kernel) rfl)
theorem stL_70_11 : Site RL (.invokevirtual 70) (some 11) 102 := siteV (RX11, TX11, 17) rfl rfl m102 (tb 721 (by decide +kernel) rfl) (tb 723 (by decide +kernel) rfl)
theorem stL_73_12 : Site RL (.invokevirtual 73) (some 12) 201 := siteV (RX12, TX12, 24) rfl rfl m201 (tb 1284 (by decide +kernel) rfl) (tb 1286 (by decide +kernel) rfl)
theorem stL_74_11 : Site RL (.invokevirtual 74) (some 11) 104 := siteV (RX11, TX11, 17) rfl rfl m104 (tb 733 (by decide +kernel) rfl) (tb 735 (by decide +kernel) rfl)
theorem stL_77_12 : Site RL (.invokevirtual 77) (some 12) 202 := siteV (RX12, TX12, 24) rfl rfl m202 (tb 1288 (by decide +kernel) rfl) (tb 1290 (by decide +kernel) rfl)
theorem stL_78_11 : Site RL (.invokevirtual 78) (some 11) 105 := siteV (RX11, TX11, 17) rfl rfl m105 (tb 744 (by decide +kernel) rfl) (tb 746 (by decide +kernel) rfl)
theorem stL_81_12 : Site RL (.invokevirtual 81) (some 12) 203 := siteV (RX12, TX12, 24) rfl rfl m203 (tb 1292 (by decide +kernel) rfl) (tb 1294 (by decide +kernel) rfl)
theorem stL_82_11 : Site RL (.invokevirtual 82) (some 11) 106 := siteV (RX11, TX11, 17) rfl rfl m106 (tb 748 (by decide +kernel) rfl) (tb 750 (by decide +kernel) rfl)
theorem stL_85_12 : Site RL (.invokevirtual 85) (some 12) 204 := siteV (RX12, TX12, 24) rfl rfl m204 (tb 1296 (by decide +kernel) rfl) (tb 1298 (by decide +kernel) rfl)
theorem stL_86_11 : Site RL (.invokevirtual 86) (some 11) 107 := siteV (RX11, TX11, 17) rfl rfl m107 (tb 752 (by decide +kernel) rfl) (tb 754 (by decide +kernel) rfl)
theorem stL_89_12 : Site RL (.invokevirtual 89) (some 12) 205 := siteV (RX12, TX12, 24) rfl rfl m205 (tb 1300 (by decide +kernel) rfl) (tb 1302 (by decide +kernel) rfl)
theorem stL_9 (ci : Nat) : Site RL (.invokespecial 9) (some ci) 85 := siteI rfl rfl m85 (tb 90 (by decide +kernel) rfl)
theorem stL_90_11 : Site RL (.invokevirtual 90) (some 11) 110 := siteV (RX11, TX11, 17) rfl rfl m110 (tb 776 (by decide +kernel) rfl) (tb 778 (by decide +kernel) rfl)
theorem stL_93_12 : Site RL (.invokevirtual 93) (some 12) 209 := siteV (RX12, TX12, 24) rfl rfl m209 (tb 1304 (by decide +kernel) rfl) (tb 1306 (by decide +kernel) rfl)
theorem stL_94_11 : Site RL (.invokevirtual 94) (some 11) 111 := siteV (RX11, TX11, 17) rfl rfl m111 (tb 780 (by decide +kernel) rfl) (tb 758 (by decide +kernel) rfl)
theorem stL_97_12 : Site RL (.invokevirtual 97) (some 12) 210 := siteV (RX12, TX12, 24) rfl rfl m210 (tb 1324 (by decide +kernel) rfl) (tb 1326 (by decide +kernel) rfl)
theorem stL_98_11 : Site RL (.invokevirtual 98) (some 11) 114 := siteV (RX11, TX11, 17) rfl rfl m114 (tb 781 (by decide +kernel) rfl) (tb 783 (by decide +kernel) rfl)
theorem st12_1 : Cond.methodLink RX12 1 objectInit ∈ TBL := (tb 998 (by decide +kernel) rfl)
theorem st12_100_12 : Site RX12 (.invokevirtual 100) (some 12) 158 := siteV (RX12, TX12, 24) rfl rfl m158 (tb 1118 (by decide +kernel) rfl) (tb 18 (by decide +kernel) rfl)
theorem st12_103_12 : Site RX12 (.invokevirtual 103) (some 12) 159 := siteV (RX12, TX12, 24) rfl rfl m159 (tb 1130 (by decide +kernel) rfl) (tb 21 (by decide +kernel) rfl)
theorem st12_107_12 : Site RX12 (.invokevirtual 107) (some 12) 160 := siteV (RX12, TX12, 24) rfl rfl m160 (tb 1134 (by decide +kernel) rfl) (tb 22 (by decide +kernel) rfl)
theorem st12_110_12 : Site RX12 (.invokevirtual 110) (some 12) 164 := siteV (RX12, TX12, 24) rfl rfl m164 (tb 1158 (by decide +kernel) rfl) (tb 28 (by decide +kernel) rfl)
theorem st12_113_12 : Site RX12 (.invokevirtual 113) (some 12) 163 := siteV (RX12, TX12, 24) rfl rfl m163 (tb 1138 (by decide +kernel) rfl) (tb 23 (by decide +kernel) rfl)
theorem st12_117_12 : Site RX12 (.invokevirtual 117) (some 12) 162 := siteV (RX12, TX12, 24) rfl rfl m162 (tb 1142 (by decide +kernel) rfl) (tb 24 (by decide +kernel) rfl)
theorem st12_121_12 : Site RX12 (.invokevirtual 121) (some 12) 168 := siteV (RX12, TX12, 24) rfl rfl m168 (tb 1166 (by decide +kernel) rfl) (tb 30 (by decide +kernel) rfl)
theorem st12_124_12 : Site RX12 (.invokevirtual 124) (some 12) 165 := siteV (RX12, TX12, 24) rfl rfl m165 (tb 1154 (by decide +kernel) rfl) (tb 27 (by decide +kernel) rfl)
theorem st12_128_12 : Site RX12 (.invokevirtual 128) (some 12) 166 := siteV (RX12, TX12, 24) rfl rfl m166 (tb 1126 (by decide +kernel) rfl) (tb 20 (by decide +kernel) rfl)
theorem st12_131_12 : Site RX12 (.invokevirtual 131) (some 12) 161 := siteV (RX12, TX12, 24) rfl rfl m161 (tb 1146 (by decide +kernel) rfl) (tb 25 (by decide +kernel) rfl)
theorem st12_134_12 : Site RX12 (.invokevirtual 134) (some 12) 167 := siteV (RX12, TX12, 24) rfl rfl m167 (tb 1150 (by decide +kernel) rfl) (tb 26 (by decide +kernel) rfl)
theorem st12_137_12 : Site RX12 (.invokevirtual 137) (some 12) 169 := siteV (RX12, TX12, 24) rfl rfl m169 (tb 1162 (by decide +kernel) rfl) (tb 29 (by decide +kernel) rfl)
theorem st12_140_12 : Site RX12 (.invokevirtual 140) (some 12) 170 := siteV (RX12, TX12, 24) rfl rfl m170 (tb 1170 (by decide +kernel) rfl) (tb 31 (by decide +kernel) rfl)
theorem st12_150 : Site RX12 (.invokestatic 150) none 180 := siteS rfl m180 (tb 1207 (by decide +kernel) rfl)
theorem st12_153 : Site RX12 (.invokestatic 153) none 181 := siteS rfl m181 (tb 1204 (by decide +kernel) rfl)
theorem st12_157 : Site RX12 (.invokestatic 157) none 177 := siteS rfl m177 (tb 1210 (by decide +kernel) rfl)
theorem st12_160_12 : Site RX12 (.invokevirtual 160) (some 12) 178 := siteV (RX12, TX12, 24) rfl rfl m178 (tb 1213 (by decide +kernel) rfl) (tb 37 (by decide +kernel) rfl)
theorem st12_163_12 : Site RX12 (.invokevirtual 163) (some 12) 175 := siteV (RX12, TX12, 24) rfl rfl m175 (tb 1196 (by decide +kernel) rfl) (tb 35 (by decide +kernel) rfl)
theorem st12_166 : Site RX12 (.invokestatic 166) none 186 := siteS rfl m186 (tb 1225 (by decide +kernel) rfl)
theorem st12_169_12 : Site RX12 (.invokevirtual 169) (some 12) 183 := siteV (RX12, TX12, 24) rfl rfl m183 (tb 1228 (by decide +kernel) rfl) (tb 40 (by decide +kernel) rfl)
theorem st12_172_12 : Site RX12 (.invokevirtual 172) (some 12) 185 := siteV (RX12, TX12, 24) rfl rfl m185 (tb 1232 (by decide +kernel) rfl) (tb 41 (by decide +kernel) rfl)
theorem st12_175_12 : Site RX12 (.invokevirtual 175) (some 12) 182 := siteV (RX12, TX12, 24) rfl rfl m182 (tb 1200 (by decide +kernel) rfl) (tb 36 (by decide +kernel) rfl)
theorem st12_178_12 : Site RX12 (.invokevirtual 178) (some 12) 176 := siteV (RX12, TX12, 24) rfl rfl m176 (tb 1217 (by decide +kernel) rfl) (tb 38 (by decide +kernel) rfl)
theorem st12_181_12 : Site RX12 (.invokevirtual 181) (some 12) 187 := siteV (RX12, TX12, 24) rfl rfl m187 (tb 1221 (by decide +kernel) rfl) (tb 39 (by decide +kernel) rfl)
theorem st12_184_12 : Site RX12 (.invokevirtual 184) (some 12) 173 := siteV (RX12, TX12, 24) rfl rfl m173 (tb 1183 (by decide +kernel) rfl) (tb 32 (by decide +kernel) rfl)
theorem st12_188_12 : Site RX12 (.invokevirtual 188) (some 12) 189 := siteV (RX12, TX12, 24) rfl rfl m189 (tb 1188 (by decide +kernel) rfl) (tb 33 (by decide +kernel) rfl)
theorem st12_191_12 : Site RX12 (.invokevirtual 191) (some 12) 188 := siteV (RX12, TX12, 24) rfl rfl m188 (tb 1192 (by decide +kernel) rfl) (tb 34 (by decide +kernel) rfl)
theorem st12_194_12 : Site RX12 (.invokevirtual 194) (some 12) 174 := siteV (RX12, TX12, 24) rfl rfl m174 (tb 1240 (by decide +kernel) rfl) (tb 42 (by decide +kernel) rfl)
theorem st12_197_12 : Site RX12 (.invokevirtual 197) (some 12) 192 := siteV (RX12, TX12, 24) rfl rfl m192 (tb 1248 (by decide +kernel) rfl) (tb 43 (by decide +kernel) rfl)
theorem st12_200_12 : Site RX12 (.invokevirtual 200) (some 12) 194 := siteV (RX12, TX12, 24) rfl rfl m194 (tb 1256 (by decide +kernel) rfl) (tb 44 (by decide +kernel) rfl)
theorem st12_204_12 : Site RX12 (.invokevirtual 204) (some 12) 184 := siteV (RX12, TX12, 24) rfl rfl m184 (tb 1276 (by decide +kernel) rfl) (tb 47 (by decide +kernel) rfl)
theorem st12_207_12 : Site RX12 (.invokevirtual 207) (some 12) 197 := siteV (RX12, TX12, 24) rfl rfl m197 (tb 1272 (by decide +kernel) rfl) (tb 46 (by decide +kernel) rfl)
theorem st12_210_12 : Site RX12 (.invokevirtual 210) (some 12) 198 := siteV (RX12, TX12, 24) rfl rfl m198 (tb 1268 (by decide +kernel) rfl) (tb 45 (by decide +kernel) rfl)
theorem st12_213_12 : Site RX12 (.invokevirtual 213) (some 12) 199 := siteV (RX12, TX12, 24) rfl rfl m199 (tb 1280 (by decide +kernel) rfl) (tb 48 (by decide +kernel) rfl)
theorem st12_217_12 : Site RX12 (.invokevirtual 217) (some 12) 206 := siteV (RX12, TX12, 24) rfl rfl m206 (tb 1308 (by decide +kernel) rfl) (tb 49 (by decide +kernel) rfl)
theorem st12_220_12 : Site RX12 (.invokevirtual 220) (some 12) 208 := siteV (RX12, TX12, 24) rfl rfl m208 (tb 1312 (by decide +kernel) rfl) (tb 50 (by decide +kernel) rfl)
theorem st12_223_12 : Site RX12 (.invokevirtual 223) (some 12) 179 := siteV (RX12, TX12, 24) rfl rfl m179 (tb 1316 (by decide +kernel) rfl) (tb 51 (by decide +kernel) rfl)
theorem st12_226_12 : Site RX12 (.invokevirtual 226) (some 12) 207 := siteV (RX12, TX12, 24) rfl rfl m207 (tb 1320 (by decide +kernel) rfl) (tb 52 (by decide +kernel) rfl)
theorem st12_229_12 : Site RX12 (.invokevirtual 229) (some 12) 211 := siteV (RX12, TX12, 24) rfl rfl m211 (tb 1332 (by decide +kernel) rfl) (tb 53 (by decide +kernel) rfl)
theorem st12_232 : Site RX12 (.invokestatic 232) none 215 := siteS rfl m215 (tb 1348 (by decide +kernel) rfl)
theorem st12_235_12 : Site RX12 (.invokevirtual 235) (some 12) 216 := siteV (RX12, TX12, 24) rfl rfl m216 (tb 1351 (by decide +kernel) rfl) (tb 54 (by decide +kernel) rfl)
theorem st12_238 : Site RX12 (.invokestatic 238) none 147 := siteS rfl m147 (tb 1371 (by decide +kernel) rfl)
theorem st12_241_12 : Site RX12 (.invokevirtual 241) (some 12) 221 := siteV (RX12, TX12, 24) rfl rfl m221 (tb 1367 (by decide +kernel) rfl) (tb 55 (by decide +kernel) rfl)
theorem st12_245_12 : Site RX12 (.invokevirtual 245) (some 12) 220 := siteV (RX12, TX12, 24) rfl rfl m220 (tb 1374 (by decide +kernel) rfl) (tb 56 (by decide +kernel) rfl)
theorem st12_248_12 : Site RX12 (.invokevirtual 248) (some 12) 224 := siteV (RX12, TX12, 24) rfl rfl m224 (tb 1382 (by decide +kernel) rfl) (tb 57 (by decide +kernel) rfl)
theorem st12_251_12 : Site RX12 (.invokevirtual 251) (some 12) 223 := siteV (RX12, TX12, 24) rfl rfl m223 (tb 1386 (by decide +kernel) rfl) (tb 58 (by decide +kernel) rfl)
theorem st12_255_12 : Site RX12 (.invokevirtual 255) (some 12) 226 := siteV (RX12, TX12, 24) rfl rfl m226 (tb 1394 (by decide +kernel) rfl) (tb 59 (by decide +kernel) rfl)
theorem st12_258_12 : Site RX12 (.invokevirtual 258) (some 12) 228 := siteV (RX12, TX12, 24) rfl rfl m228 (tb 1402 (by decide +kernel) rfl) (tb 60 (by decide +kernel) rfl)
theorem st12_264_12 : Site RX12 (.invokevirtual 264) (some 12) 234 := siteV (RX12, TX12, 24) rfl rfl m234 (tb 1434 (by decide +kernel) rfl) (tb 63 (by decide +kernel) rfl)
theorem st12_267_12 : Site RX12 (.invokevirtual 267) (some 12) 236 := siteV (RX12, TX12, 24) rfl rfl m236 (tb 1458 (by decide +kernel) rfl) (tb 69 (by decide +kernel) rfl)
theorem st12_270_12 : Site RX12 (.invokevirtual 270) (some 12) 237 := siteV (RX12, TX12, 24) rfl rfl m237 (tb 1454 (by decide +kernel) rfl) (tb 68 (by decide +kernel) rfl)
theorem st12_273_12 : Site RX12 (.invokevirtual 273) (some 12) 235 := siteV (RX12, TX12, 24) rfl rfl m235 (tb 1442 (by decide +kernel) rfl) (tb 65 (by decide +kernel) rfl)
theorem st12_276_12 : Site RX12 (.invokevirtual 276) (some 12) 238 := siteV (RX12, TX12, 24) rfl rfl m238 (tb 1450 (by decide +kernel) rfl) (tb 67 (by decide +kernel) rfl)
theorem st12_279_12 : Site RX12 (.invokevirtual 279) (some 12) 240 := siteV (RX12, TX12, 24) rfl rfl m240 (tb 1438 (by decide +kernel) rfl) (tb 64 (by decide +kernel) rfl)
theorem st12_282_12 : Site RX12 (.invokevirtual 282) (some 12) 241 := siteV (RX12, TX12, 24) rfl rfl m241 (tb 1430 (by decide +kernel) rfl) (tb 62 (by decide +kernel) rfl)
theorem st12_285_12 : Site RX12 (.invokevirtual 285) (some 12) 239 := siteV (RX12, TX12, 24) rfl rfl m239 (tb 1446 (by decide +kernel) rfl) (tb 66 (by decide +kernel) rfl)
theorem st12_288_12 : Site RX12 (.invokevirtual 288) (some 12) 242 := siteV (RX12, TX12, 24) rfl rfl m242 (tb 1426 (by decide +kernel) rfl) (tb 61 (by decide +kernel) rfl)
theorem st12_291_12 : Site RX12 (.invokevirtual 291) (some 12) 243 := siteV (RX12, TX12, 24) rfl rfl m243 (tb 1462 (by decide +kernel) rfl) (tb 70 (by decide +kernel) rfl)
theorem st12_59 : Site RX12 (.invokestatic 59) none 146 := siteS rfl m146 (tb 1080 (by decide +kernel) rfl)
theorem st12_63 : Site RX12 (.invokestatic 63) none 150 := siteS rfl m150 (tb 1077 (by decide +kernel) rfl)
theorem st12_68_12 : Site RX12 (.invokevirtual 68) (some 12) 148 := siteV (RX12, TX12, 24) rfl rfl m148 (tb 1084 (by decide +kernel) rfl) (tb 15 (by decide +kernel) rfl)
theorem st12_72_12 : Site RX12 (.invokevirtual 72) (some 12) 149 := siteV (RX12, TX12, 24) rfl rfl m149 (tb 1089 (by decide +kernel) rfl) (tb 16 (by decide +kernel) rfl)
theorem st12_75_12 : Site RX12 (.invokevirtual 75) (some 12) 153 := siteV (RX12, TX12, 24) rfl rfl m153 (tb 1101 (by decide +kernel) rfl) (tb 17 (by decide +kernel) rfl)
theorem st12_88_12 : Site RX12 (.invokevirtual 88) (some 12) 157 := siteV (RX12, TX12, 24) rfl rfl m157 (tb 1122 (by decide +kernel) rfl) (tb 19 (by decide +kernel) rfl)
theorem jm_max2 : Cond.static Lib.Math.max.name ∈ TBL := (tb 605 (by decide +kernel) rfl)
theorem jm_min2 : Cond.static Lib.Math.min.name ∈ TBL := (tb 586 (by decide +kernel) rfl)
theorem jm_abs2 : Cond.static Lib.Math.abs.name ∈ TBL := (tb 611 (by decide +kernel) rfl)
theorem jm_i : Cond.initialized "java/lang/Math" ∈ TBL := (tb 86 (by decide +kernel) rfl)
theorem js_i : Cond.initialized "java/lang/System" ∈ TBL := (tb 85 (by decide +kernel) rfl)
theorem jm_max4 : Cond.code Lib.Math.max.name Lib.Math.max.code 2 (some .int) ∈ TBL := (tb 606 (by decide +kernel) rfl)
theorem jm_min4 : Cond.code Lib.Math.min.name Lib.Math.min.code 2 (some .int) ∈ TBL := (tb 587 (by decide +kernel) rfl)
theorem jm_abs4 : Cond.code Lib.Math.abs.name Lib.Math.abs.code 1 (some .int) ∈ TBL := (tb 612 (by decide +kernel) rfl)
theorem js_n : Cond.native arraycopyName ∈ TBL := (tb 458 (by decide +kernel) rfl)
theorem js_s : Cond.static arraycopyName ∈ TBL := (tb 457 (by decide +kernel) rfl)
theorem jo_2 : Cond.instanceMethod objectInit ∈ TBL := (tb 94 (by decide +kernel) rfl)
theorem jo_3 : Cond.code objectInit ⟨#[0xb1]⟩ 1 none ∈ TBL := (tb 95 (by decide +kernel) rfl)
theorem jaI : Cond.arrayClass .int ∈ TBL := (tb 112 (by decide +kernel) rfl)
theorem jaZ : Cond.arrayClass .boolean ∈ TBL := (tb 405 (by decide +kernel) rfl)
theorem sn10_1 : SiteN RX10 1 8 8 := ⟨(RX8, TX8, 8), rfl, rfl, uw8, (tb 291 (by decide +kernel) rfl), (tb 241 (by decide +kernel) rfl), (tb 82 (by decide +kernel) rfl), tyX8, tyX8_ok, by decide +kernel⟩
theorem sn11_16 : SiteN RX11 16 4 6 := ⟨(RX4, TX4, 6), rfl, rfl, uw4, (tb 113 (by decide +kernel) rfl), (tb 114 (by decide +kernel) rfl), (tb 74 (by decide +kernel) rfl), tyX4, tyX4_ok, by decide +kernel⟩
theorem sn11_23 : SiteN RX11 23 9 2 := ⟨(RX9, TX9, 2), rfl, rfl, uw9, (tb 141 (by decide +kernel) rfl), (tb 142 (by decide +kernel) rfl), (tb 75 (by decide +kernel) rfl), tyX9, tyX9_ok, by decide +kernel⟩
theorem sn11_38 : SiteN RX11 38 8 8 := ⟨(RX8, TX8, 8), rfl, rfl, uw8, (tb 240 (by decide +kernel) rfl), (tb 241 (by decide +kernel) rfl), (tb 82 (by decide +kernel) rfl), tyX8, tyX8_ok, by decide +kernel⟩
theorem sn11_47 : SiteN RX11 47 10 14 := ⟨(RX10, TX10, 14), rfl, rfl, uw10, (tb 285 (by decide +kernel) rfl), (tb 286 (by decide +kernel) rfl), (tb 83 (by decide +kernel) rfl), tyX10, tyX10_ok, by decide +kernel⟩
theorem sn11_7 : SiteN RX11 7 5 3 := ⟨(RX5, TX5, 3), rfl, rfl, uw5, (tb 96 (by decide +kernel) rfl), (tb 97 (by decide +kernel) rfl), (tb 73 (by decide +kernel) rfl), tyX5, tyX5_ok, by decide +kernel⟩
theorem sn11_76 : SiteN RX11 76 3 4 := ⟨(RX3, TX3, 4), rfl, rfl, uw3, (tb 159 (by decide +kernel) rfl), (tb 161 (by decide +kernel) rfl), (tb 76 (by decide +kernel) rfl), tyX3, tyX3_ok, by decide +kernel⟩
theorem sn11_81 : SiteN RX11 81 6 4 := ⟨(RX6, TX6, 4), rfl, rfl, uw6, (tb 185 (by decide +kernel) rfl), (tb 186 (by decide +kernel) rfl), (tb 77 (by decide +kernel) rfl), tyX6, tyX6_ok, by decide +kernel⟩
theorem sn11_84 : SiteN RX11 84 1 4 := ⟨(RX1, TX1, 4), rfl, rfl, uw1, (tb 196 (by decide +kernel) rfl), (tb 197 (by decide +kernel) rfl), (tb 78 (by decide +kernel) rfl), tyX1, tyX1_ok, by decide +kernel⟩
theorem sn11_87 : SiteN RX11 87 7 4 := ⟨(RX7, TX7, 4), rfl, rfl, uw7, (tb 207 (by decide +kernel) rfl), (tb 208 (by decide +kernel) rfl), (tb 79 (by decide +kernel) rfl), tyX7, tyX7_ok, by decide +kernel⟩
theorem sn11_90 : SiteN RX11 90 0 4 := ⟨(RX0, TX0, 4), rfl, rfl, uw0, (tb 218 (by decide +kernel) rfl), (tb 219 (by decide +kernel) rfl), (tb 80 (by decide +kernel) rfl), tyX0, tyX0_ok, by decide +kernel⟩
theorem sn11_93 : SiteN RX11 93 2 4 := ⟨(RX2, TX2, 4), rfl, rfl, uw2, (tb 229 (by decide +kernel) rfl), (tb 230 (by decide +kernel) rfl), (tb 81 (by decide +kernel) rfl), tyX2, tyX2_ok, by decide +kernel⟩
theorem snL_10 : SiteN RL 10 12 24 := ⟨(RX12, TX12, 24), rfl, rfl, uw12, (tb 993 (by decide +kernel) rfl), (tb 994 (by decide +kernel) rfl), (tb 84 (by decide +kernel) rfl), tyX12, tyX12_ok, by decide +kernel⟩
theorem snL_7 : SiteN RL 7 11 17 := ⟨(RX11, TX11, 17), rfl, rfl, uw11, (tb 88 (by decide +kernel) rfl), (tb 89 (by decide +kernel) rfl), (tb 72 (by decide +kernel) rfl), tyX11, tyX11_ok, by decide +kernel⟩
theorem cl10_1 : Cond.classLink RX10 1 RX8 ∈ TBL := (tb 291 (by decide +kernel) rfl)
theorem cl11_76 : Cond.classLink RX11 76 RX3 ∈ TBL := (tb 159 (by decide +kernel) rfl)
theorem cl11_81 : Cond.classLink RX11 81 RX6 ∈ TBL := (tb 185 (by decide +kernel) rfl)
theorem cl11_84 : Cond.classLink RX11 84 RX1 ∈ TBL := (tb 196 (by decide +kernel) rfl)
theorem cl11_87 : Cond.classLink RX11 87 RX7 ∈ TBL := (tb 207 (by decide +kernel) rfl)
theorem cl11_90 : Cond.classLink RX11 90 RX0 ∈ TBL := (tb 218 (by decide +kernel) rfl)
theorem cl11_93 : Cond.classLink RX11 93 RX2 ∈ TBL := (tb 229 (by decide +kernel) rfl)
end
section
/-! further rules: known references, indices that are numbers, truth values -/
abbrev bI (p : Prop) [Decidable p] : Int32 := if p then 1 else 0
theorem lit (n : Nat) : (OfNat.ofNat n : Int32) = nI n := rfl
section More
variable {d M : Nat} {Q : Option AV → Hp → Prop} {kc ks pc pc' : Nat} {ls ls' : List (Nat × AV)} {st : List AV} {h : Hp}
theorem r_getS {o ci k idx p : Nat} (hd : fet M pc = .ok (.getfield idx, 3)) (hp : pc + 3 = pc') {on : String} (hon : own M = on) (hs : SiteF on idx ci k false) (hsh : SH o = (0, ci)) (ho : o < hn h) (hv : hr h o k = some p) (kk : wp d M Q kc ks pc' ls (vR (some p) :: st) h) : wp d M Q kc ks pc ls (vR (some o) :: st) h :=
  r_getR hd hp hon hs hsh ho (hv ▸ kk)
theorem r_ialdN {o n j : Nat} {i : Int32} (hd : fet M pc = .ok (.iaload, 1)) (hp : pc + 1 = pc') (hsh : SH o = (1, n)) (ho : o < hn h) (he : i = nI j) (hj : j < n) (hs : n < 2 ^ 31) (kk : wp d M Q kc ks pc' ls (vI (hi h o j) :: st) h) : wp d M Q kc ks pc ls (vI i :: vR (some o) :: st) h := by
  subst he
  refine r_iald hd hp hsh ho (vp_in_nI hj hs) ?_
  rw [nI_clamp (by omega)]
  exact kk
theorem r_baldN {o n j : Nat} {i : Int32} (hd : fet M pc = .ok (.baload, 1)) (hp : pc + 1 = pc') (hsh : SH o = (2, n)) (ho : o < hn h) (he : i = nI j) (hj : j < n) (hs : n < 2 ^ 31) (kk : wp d M Q kc ks pc' ls (vI (hi h o j) :: st) h) : wp d M Q kc ks pc ls (vI i :: vR (some o) :: st) h := by
  subst he
  refine r_bald hd hp hsh ho (vp_in_nI hj hs) ?_
  rw [nI_clamp (by omega)]
  exact kk
theorem r_iastN {o n j : Nat} {i x : Int32} (hd : fet M pc = .ok (.iastore, 1)) (hp : pc + 1 = pc') (hsh : SH o = (1, n)) (ho : o < hn h) (he : i = nI j) (hj : j < n) (hs : n < 2 ^ 31) (kk : wp d M Q kc ks pc' ls st (seti h o j x)) : wp d M Q kc ks pc ls (vI x :: vI i :: vR (some o) :: st) h := by
  subst he
  refine r_iast hd hp hsh ho (vp_in_nI hj hs) ?_
  rw [nI_clamp (by omega)]
  exact kk
theorem r_bastN {o n j : Nat} {i x : Int32} (hd : fet M pc = .ok (.bastore, 1)) (hp : pc + 1 = pc') (hsh : SH o = (2, n)) (ho : o < hn h) (he : i = nI j) (hj : j < n) (hs : n < 2 ^ 31) (hx : x = 0 ∨ x = 1) (kk : wp d M Q kc ks pc' ls st (seti h o j x)) : wp d M Q kc ks pc ls (vI x :: vI i :: vR (some o) :: st) h := by
  subst he
  refine r_bast hd hp hsh ho (vp_in_nI hj hs) ?_
  rw [nI_clamp (by omega), show vp_nar .boolean x = x by rcases hx with rfl | rfl <;> rfl]
  exact kk
theorem r_aaldTN {o n j p : Nat} {i : Int32} (hd : fet M pc = .ok (.aaload, 1)) (hp : pc + 1 = pc') (hsh : SH o = (4, n)) (ho : o < hn h) (he : i = nI j) (hj : j < n) (hs : n < 2 ^ 31) (hv : hr h o j = some p) (kk : wp d M Q kc ks pc' ls (vR (some p) :: st) h) : wp d M Q kc ks pc ls (vI i :: vR (some o) :: st) h := by
  subst he
  refine r_aaldT hd hp hsh ho (vp_in_nI hj hs) ?_
  rw [nI_clamp (by omega), hv]
  exact kk
theorem r_aaldKN {o n j p : Nat} {i : Int32} (hd : fet M pc = .ok (.aaload, 1)) (hp : pc + 1 = pc') (hsh : SH o = (3, n)) (ho : o < hn h) (he : i = nI j) (hj : j < n) (hs : n < 2 ^ 31) (hv : hr h o j = some p) (kk : wp d M Q kc ks pc' ls (vR (some p) :: st) h) : wp d M Q kc ks pc ls (vI i :: vR (some o) :: st) h := by
  subst he
  refine r_aaldK hd hp hsh ho (vp_in_nI hj hs) ?_
  rw [nI_clamp (by omega), hv]
  exact kk
theorem r_if_eqB {p : Prop} [Decidable p] {off : Int} (tgt : Nat) (hd : fet M pc = .ok (.ifCond .eq off, 3)) (hp : pc + 3 = pc') (ht : (pc : Int) + off = (tgt : Int)) (kt : ¬ p → wp d M Q kc ks tgt ls st h) (kf : p → wp d M Q kc ks pc' ls st h) : wp d M Q kc ks pc ls (vI (bI p) :: st) h := by
  refine r_if_eq tgt hd hp ht (fun q => kt (fun w => ?_)) (fun q => kf (Classical.byContradiction (fun w => q ?_)))
  · rw [bI, if_pos w] at q; exact absurd q (by decide)
  · rw [bI, if_neg w]
theorem r_if_neB {p : Prop} [Decidable p] {off : Int} (tgt : Nat) (hd : fet M pc = .ok (.ifCond .ne off, 3)) (hp : pc + 3 = pc') (ht : (pc : Int) + off = (tgt : Int)) (kt : p → wp d M Q kc ks tgt ls st h) (kf : ¬ p → wp d M Q kc ks pc' ls st h) : wp d M Q kc ks pc ls (vI (bI p) :: st) h := by
  refine r_if_ne tgt hd hp ht (fun q => kt (Classical.byContradiction (fun w => q ?_))) (fun q => kf (fun w => ?_))
  · rw [bI, if_neg w]
  · rw [bI, if_pos w] at q; exact absurd q (by decide)
theorem wp_v {x y : Int32} (e : x = y) (kk : wp d M Q kc ks pc ls (vI y :: st) h) : wp d M Q kc ks pc ls (vI x :: st) h := e ▸ kk
theorem nw_bI (t : FieldType) (p : Prop) [Decidable p] (ht : t = .boolean ∨ t = .int) : narrow t (.int (bI p)) = .int (bI p) := by
  rcases ht with rfl | rfl
  · by_cases q : p
    · rw [bI, if_pos q]; rfl
    · rw [bI, if_neg q]; rfl
  · exact vp_nar_int _
theorem r_iretI {x : Int32} (hd : fet M pc = .ok (.ireturn, 1)) (hr0 : rt M = some .int) (kk : Q (some (vI x)) h) : wp d M Q kc ks pc ls [vI x] h := r_iret hd hr0 (vp_nar_int x) kk
theorem r_iretZ1 (hd : fet M pc = .ok (.ireturn, 1)) (hr0 : rt M = some .boolean) (kk : Q (some (vI 1)) h) : wp d M Q kc ks pc ls [vI 1] h := r_iret hd hr0 rfl kk
theorem r_iretZ0 (hd : fet M pc = .ok (.ireturn, 1)) (hr0 : rt M = some .boolean) (kk : Q (some (vI 0)) h) : wp d M Q kc ks pc ls [vI 0] h := r_iret hd hr0 rfl kk
theorem r_iretB {p : Prop} [Decidable p] (hd : fet M pc = .ok (.ireturn, 1)) (hr0 : rt M = some .boolean) (kk : Q (some (vI (bI p))) h) : wp d M Q kc ks pc ls [vI (bI p)] h := r_iret hd hr0 (nw_bI _ p (Or.inl rfl)) kk
end More
theorem b1 {p : Prop} [Decidable p] (h : p) : bI p = 1 := if_pos h
theorem b0 {p : Prop} [Decidable p] (h : ¬ p) : bI p = 0 := if_neg h
theorem qv {Q : Option AV → Hp → Prop} {x y : Int32} {h : Hp} (e : x = y) (k : Q (some (vI x)) h) : Q (some (vI y)) h := e ▸ k
end
