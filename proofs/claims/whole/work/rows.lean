section
-- ===== PART A: goes FIRST, ahead of the names: the tables' words, and 'selects' of the private methods out of them =====
/-- a private method of a class that the tables say can be made, by its rows of tables_1 -/
def lw_okq (q : MethodName × Nat) : Prop := (q.1.cls ≠ "java/lang/invoke/MethodHandle" ∧ q.1.cls ≠ "java/lang/invoke/VarHandle") ∧ Cond.instantiable q.1.cls q.2 ∈ tables_1 ∧ Cond.privateMethod q.1 ∈ tables_1 ∧ Cond.instanceMethod q.1 ∈ tables_1
theorem lw_p0 : lw_okq (⟨"CoalGrate", "found", "(I)I"⟩, 17) := ⟨⟨by decide +kernel, by decide +kernel⟩, List.mem_of_getElem? (i := 18) (by decide +kernel), List.mem_of_getElem? (i := 345) (by decide +kernel), List.mem_of_getElem? (i := 346) (by decide +kernel)⟩
theorem lw_p1 : lw_okq (⟨"CoalGrate", "answered", "(I)I"⟩, 17) := ⟨⟨by decide +kernel, by decide +kernel⟩, List.mem_of_getElem? (i := 18) (by decide +kernel), List.mem_of_getElem? (i := 354) (by decide +kernel), List.mem_of_getElem? (i := 355) (by decide +kernel)⟩
theorem lw_p2 : lw_okq (⟨"CoalGrate", "remember", "()V"⟩, 17) := ⟨⟨by decide +kernel, by decide +kernel⟩, List.mem_of_getElem? (i := 18) (by decide +kernel), List.mem_of_getElem? (i := 499) (by decide +kernel), List.mem_of_getElem? (i := 500) (by decide +kernel)⟩
theorem lw_p3 : lw_okq (⟨"CoalGrate", "tryAsItLies", "(LCoalGrate$Thing;I)V"⟩, 17) := ⟨⟨by decide +kernel, by decide +kernel⟩, List.mem_of_getElem? (i := 18) (by decide +kernel), List.mem_of_getElem? (i := 696) (by decide +kernel), List.mem_of_getElem? (i := 697) (by decide +kernel)⟩
theorem lw_p4 : lw_okq (⟨"CoalGrate", "readyAt", "(LCoalGrate$Thing;II)I"⟩, 17) := ⟨⟨by decide +kernel, by decide +kernel⟩, List.mem_of_getElem? (i := 18) (by decide +kernel), List.mem_of_getElem? (i := 715) (by decide +kernel), List.mem_of_getElem? (i := 716) (by decide +kernel)⟩
theorem lw_p5 : lw_okq (⟨"CoalGrate", "foretellWarmth", "(II)V"⟩, 17) := ⟨⟨by decide +kernel, by decide +kernel⟩, List.mem_of_getElem? (i := 18) (by decide +kernel), List.mem_of_getElem? (i := 731) (by decide +kernel), List.mem_of_getElem? (i := 732) (by decide +kernel)⟩
theorem lw_p6 : lw_okq (⟨"CoalGrate", "tryFlips", "(IIIIII)V"⟩, 17) := ⟨⟨by decide +kernel, by decide +kernel⟩, List.mem_of_getElem? (i := 18) (by decide +kernel), List.mem_of_getElem? (i := 735) (by decide +kernel), List.mem_of_getElem? (i := 736) (by decide +kernel)⟩
theorem lw_p7 : lw_okq (⟨"CoalGrate", "isBetterWay", "(I)Z"⟩, 17) := ⟨⟨by decide +kernel, by decide +kernel⟩, List.mem_of_getElem? (i := 18) (by decide +kernel), List.mem_of_getElem? (i := 739) (by decide +kernel), List.mem_of_getElem? (i := 740) (by decide +kernel)⟩
theorem lw_p8 : lw_okq (⟨"CoalGrate", "tryMinute", "(IIIIII)V"⟩, 17) := ⟨⟨by decide +kernel, by decide +kernel⟩, List.mem_of_getElem? (i := 18) (by decide +kernel), List.mem_of_getElem? (i := 749) (by decide +kernel), List.mem_of_getElem? (i := 750) (by decide +kernel)⟩
theorem lw_p9 : lw_okq (⟨"CoalGrate", "isDoneStarting", "(LCoalGrate$Thing;III)Z"⟩, 17) := ⟨⟨by decide +kernel, by decide +kernel⟩, List.mem_of_getElem? (i := 18) (by decide +kernel), List.mem_of_getElem? (i := 758) (by decide +kernel), List.mem_of_getElem? (i := 759) (by decide +kernel)⟩
theorem lw_p10 : lw_okq (⟨"CoalGrate", "isDoneWithCoal", "(LCoalGrate$Thing;II)Z"⟩, 17) := ⟨⟨by decide +kernel, by decide +kernel⟩, List.mem_of_getElem? (i := 18) (by decide +kernel), List.mem_of_getElem? (i := 767) (by decide +kernel), List.mem_of_getElem? (i := 768) (by decide +kernel)⟩
theorem lw_p11 : lw_okq (⟨"CoalGrate", "doneAhead", "(I)I"⟩, 17) := ⟨⟨by decide +kernel, by decide +kernel⟩, List.mem_of_getElem? (i := 18) (by decide +kernel), List.mem_of_getElem? (i := 777) (by decide +kernel), List.mem_of_getElem? (i := 778) (by decide +kernel)⟩
theorem lw_p12 : lw_okq (⟨"CoalGrate", "firstFor", "(III)I"⟩, 17) := ⟨⟨by decide +kernel, by decide +kernel⟩, List.mem_of_getElem? (i := 18) (by decide +kernel), List.mem_of_getElem? (i := 781) (by decide +kernel), List.mem_of_getElem? (i := 782) (by decide +kernel)⟩
theorem lw_p13 : lw_okq (⟨"CoalGrate", "tryWholeYard", "()V"⟩, 17) := ⟨⟨by decide +kernel, by decide +kernel⟩, List.mem_of_getElem? (i := 18) (by decide +kernel), List.mem_of_getElem? (i := 789) (by decide +kernel), List.mem_of_getElem? (i := 790) (by decide +kernel)⟩
theorem lw_p14 : lw_okq (⟨"CoalGrate", "tellsTurns", "(III)Z"⟩, 17) := ⟨⟨by decide +kernel, by decide +kernel⟩, List.mem_of_getElem? (i := 18) (by decide +kernel), List.mem_of_getElem? (i := 810) (by decide +kernel), List.mem_of_getElem? (i := 811) (by decide +kernel)⟩
theorem lw_p15 : lw_okq (⟨"CoalGrateModel", "found", "(I)I"⟩, 24) := ⟨⟨by decide +kernel, by decide +kernel⟩, List.mem_of_getElem? (i := 923) (by decide +kernel), List.mem_of_getElem? (i := 1014) (by decide +kernel), List.mem_of_getElem? (i := 1015) (by decide +kernel)⟩
def lw_privs_1 : List (MethodName × Nat) := [(⟨"CoalGrate", "found", "(I)I"⟩, 17), (⟨"CoalGrate", "answered", "(I)I"⟩, 17), (⟨"CoalGrate", "remember", "()V"⟩, 17), (⟨"CoalGrate", "tryAsItLies", "(LCoalGrate$Thing;I)V"⟩, 17), (⟨"CoalGrate", "readyAt", "(LCoalGrate$Thing;II)I"⟩, 17), (⟨"CoalGrate", "foretellWarmth", "(II)V"⟩, 17), (⟨"CoalGrate", "tryFlips", "(IIIIII)V"⟩, 17), (⟨"CoalGrate", "isBetterWay", "(I)Z"⟩, 17), (⟨"CoalGrate", "tryMinute", "(IIIIII)V"⟩, 17), (⟨"CoalGrate", "isDoneStarting", "(LCoalGrate$Thing;III)Z"⟩, 17), (⟨"CoalGrate", "isDoneWithCoal", "(LCoalGrate$Thing;II)Z"⟩, 17), (⟨"CoalGrate", "doneAhead", "(I)I"⟩, 17), (⟨"CoalGrate", "firstFor", "(III)I"⟩, 17), (⟨"CoalGrate", "tryWholeYard", "()V"⟩, 17), (⟨"CoalGrate", "tellsTurns", "(III)Z"⟩, 17), (⟨"CoalGrateModel", "found", "(I)I"⟩, 24)]
theorem lw_r1 : ∀ q ∈ lw_privs_1, lw_okq q := List.forall_mem_cons.mpr ⟨lw_p0, List.forall_mem_cons.mpr ⟨lw_p1, List.forall_mem_cons.mpr ⟨lw_p2, List.forall_mem_cons.mpr ⟨lw_p3, List.forall_mem_cons.mpr ⟨lw_p4, List.forall_mem_cons.mpr ⟨lw_p5, List.forall_mem_cons.mpr ⟨lw_p6, List.forall_mem_cons.mpr ⟨lw_p7, List.forall_mem_cons.mpr ⟨lw_p8, List.forall_mem_cons.mpr ⟨lw_p9, List.forall_mem_cons.mpr ⟨lw_p10, List.forall_mem_cons.mpr ⟨lw_p11, List.forall_mem_cons.mpr ⟨lw_p12, List.forall_mem_cons.mpr ⟨lw_p13, List.forall_mem_cons.mpr ⟨lw_p14, List.forall_mem_cons.mpr ⟨lw_p15, fun _ h => absurd h List.not_mem_nil⟩⟩⟩⟩⟩⟩⟩⟩⟩⟩⟩⟩⟩⟩⟩⟩
theorem lw_p16 : lw_okq (⟨"CoalGrateModel", "well", "(I)I"⟩, 24) := ⟨⟨by decide +kernel, by decide +kernel⟩, List.mem_of_getElem? (i := 923) (by decide +kernel), List.mem_of_getElem? (i := 1019) (by decide +kernel), List.mem_of_getElem? (i := 1020) (by decide +kernel)⟩
theorem lw_p17 : lw_okq (⟨"CoalGrateModel", "isSpan", "(III)Z"⟩, 24) := ⟨⟨by decide +kernel, by decide +kernel⟩, List.mem_of_getElem? (i := 923) (by decide +kernel), List.mem_of_getElem? (i := 1031) (by decide +kernel), List.mem_of_getElem? (i := 1032) (by decide +kernel)⟩
theorem lw_p18 : lw_okq (⟨"CoalGrateModel", "next", "()V"⟩, 24) := ⟨⟨by decide +kernel, by decide +kernel⟩, List.mem_of_getElem? (i := 923) (by decide +kernel), List.mem_of_getElem? (i := 1048) (by decide +kernel), List.mem_of_getElem? (i := 1049) (by decide +kernel)⟩
theorem lw_p19 : lw_okq (⟨"CoalGrateModel", "byteAt", "(I)I"⟩, 24) := ⟨⟨by decide +kernel, by decide +kernel⟩, List.mem_of_getElem? (i := 923) (by decide +kernel), List.mem_of_getElem? (i := 1052) (by decide +kernel), List.mem_of_getElem? (i := 1053) (by decide +kernel)⟩
theorem lw_p20 : lw_okq (⟨"CoalGrateModel", "readGrate", "()V"⟩, 24) := ⟨⟨by decide +kernel, by decide +kernel⟩, List.mem_of_getElem? (i := 923) (by decide +kernel), List.mem_of_getElem? (i := 1056) (by decide +kernel), List.mem_of_getElem? (i := 1057) (by decide +kernel)⟩
theorem lw_p21 : lw_okq (⟨"CoalGrateModel", "must", "(ZI)V"⟩, 24) := ⟨⟨by decide +kernel, by decide +kernel⟩, List.mem_of_getElem? (i := 923) (by decide +kernel), List.mem_of_getElem? (i := 1060) (by decide +kernel), List.mem_of_getElem? (i := 1061) (by decide +kernel)⟩
theorem lw_p22 : lw_okq (⟨"CoalGrateModel", "goesOn", "()V"⟩, 24) := ⟨⟨by decide +kernel, by decide +kernel⟩, List.mem_of_getElem? (i := 923) (by decide +kernel), List.mem_of_getElem? (i := 1064) (by decide +kernel), List.mem_of_getElem? (i := 1065) (by decide +kernel)⟩
theorem lw_p23 : lw_okq (⟨"CoalGrateModel", "readNumber", "(II)I"⟩, 24) := ⟨⟨by decide +kernel, by decide +kernel⟩, List.mem_of_getElem? (i := 923) (by decide +kernel), List.mem_of_getElem? (i := 1068) (by decide +kernel), List.mem_of_getElem? (i := 1069) (by decide +kernel)⟩
theorem lw_p24 : lw_okq (⟨"CoalGrateModel", "readSign", "(I)V"⟩, 24) := ⟨⟨by decide +kernel, by decide +kernel⟩, List.mem_of_getElem? (i := 923) (by decide +kernel), List.mem_of_getElem? (i := 1072) (by decide +kernel), List.mem_of_getElem? (i := 1073) (by decide +kernel)⟩
theorem lw_p25 : lw_okq (⟨"CoalGrateModel", "isLetter", "(I)Z"⟩, 24) := ⟨⟨by decide +kernel, by decide +kernel⟩, List.mem_of_getElem? (i := 923) (by decide +kernel), List.mem_of_getElem? (i := 1076) (by decide +kernel), List.mem_of_getElem? (i := 1077) (by decide +kernel)⟩
theorem lw_p26 : lw_okq (⟨"CoalGrateModel", "readCoal", "()V"⟩, 24) := ⟨⟨by decide +kernel, by decide +kernel⟩, List.mem_of_getElem? (i := 923) (by decide +kernel), List.mem_of_getElem? (i := 1080) (by decide +kernel), List.mem_of_getElem? (i := 1081) (by decide +kernel)⟩
theorem lw_p27 : lw_okq (⟨"CoalGrateModel", "isSort", "()Z"⟩, 24) := ⟨⟨by decide +kernel, by decide +kernel⟩, List.mem_of_getElem? (i := 923) (by decide +kernel), List.mem_of_getElem? (i := 1084) (by decide +kernel), List.mem_of_getElem? (i := 1085) (by decide +kernel)⟩
theorem lw_p28 : lw_okq (⟨"CoalGrateModel", "sortOf", "(I)I"⟩, 24) := ⟨⟨by decide +kernel, by decide +kernel⟩, List.mem_of_getElem? (i := 923) (by decide +kernel), List.mem_of_getElem? (i := 1088) (by decide +kernel), List.mem_of_getElem? (i := 1089) (by decide +kernel)⟩
theorem lw_p29 : lw_okq (⟨"CoalGrateModel", "readThing", "()V"⟩, 24) := ⟨⟨by decide +kernel, by decide +kernel⟩, List.mem_of_getElem? (i := 923) (by decide +kernel), List.mem_of_getElem? (i := 1092) (by decide +kernel), List.mem_of_getElem? (i := 1093) (by decide +kernel)⟩
theorem lw_p30 : lw_okq (⟨"CoalGrateModel", "isTold", "(I)Z"⟩, 24) := ⟨⟨by decide +kernel, by decide +kernel⟩, List.mem_of_getElem? (i := 923) (by decide +kernel), List.mem_of_getElem? (i := 1096) (by decide +kernel), List.mem_of_getElem? (i := 1097) (by decide +kernel)⟩
theorem lw_p31 : lw_okq (⟨"CoalGrateModel", "readEater", "()V"⟩, 24) := ⟨⟨by decide +kernel, by decide +kernel⟩, List.mem_of_getElem? (i := 923) (by decide +kernel), List.mem_of_getElem? (i := 1100) (by decide +kernel), List.mem_of_getElem? (i := 1101) (by decide +kernel)⟩
def lw_privs_2 : List (MethodName × Nat) := [(⟨"CoalGrateModel", "well", "(I)I"⟩, 24), (⟨"CoalGrateModel", "isSpan", "(III)Z"⟩, 24), (⟨"CoalGrateModel", "next", "()V"⟩, 24), (⟨"CoalGrateModel", "byteAt", "(I)I"⟩, 24), (⟨"CoalGrateModel", "readGrate", "()V"⟩, 24), (⟨"CoalGrateModel", "must", "(ZI)V"⟩, 24), (⟨"CoalGrateModel", "goesOn", "()V"⟩, 24), (⟨"CoalGrateModel", "readNumber", "(II)I"⟩, 24), (⟨"CoalGrateModel", "readSign", "(I)V"⟩, 24), (⟨"CoalGrateModel", "isLetter", "(I)Z"⟩, 24), (⟨"CoalGrateModel", "readCoal", "()V"⟩, 24), (⟨"CoalGrateModel", "isSort", "()Z"⟩, 24), (⟨"CoalGrateModel", "sortOf", "(I)I"⟩, 24), (⟨"CoalGrateModel", "readThing", "()V"⟩, 24), (⟨"CoalGrateModel", "isTold", "(I)Z"⟩, 24), (⟨"CoalGrateModel", "readEater", "()V"⟩, 24)]
theorem lw_r2 : ∀ q ∈ lw_privs_2, lw_okq q := List.forall_mem_cons.mpr ⟨lw_p16, List.forall_mem_cons.mpr ⟨lw_p17, List.forall_mem_cons.mpr ⟨lw_p18, List.forall_mem_cons.mpr ⟨lw_p19, List.forall_mem_cons.mpr ⟨lw_p20, List.forall_mem_cons.mpr ⟨lw_p21, List.forall_mem_cons.mpr ⟨lw_p22, List.forall_mem_cons.mpr ⟨lw_p23, List.forall_mem_cons.mpr ⟨lw_p24, List.forall_mem_cons.mpr ⟨lw_p25, List.forall_mem_cons.mpr ⟨lw_p26, List.forall_mem_cons.mpr ⟨lw_p27, List.forall_mem_cons.mpr ⟨lw_p28, List.forall_mem_cons.mpr ⟨lw_p29, List.forall_mem_cons.mpr ⟨lw_p30, List.forall_mem_cons.mpr ⟨lw_p31, fun _ h => absurd h List.not_mem_nil⟩⟩⟩⟩⟩⟩⟩⟩⟩⟩⟩⟩⟩⟩⟩⟩
theorem lw_p32 : lw_okq (⟨"CoalGrateModel", "isYard", "()Z"⟩, 24) := ⟨⟨by decide +kernel, by decide +kernel⟩, List.mem_of_getElem? (i := 923) (by decide +kernel), List.mem_of_getElem? (i := 1113) (by decide +kernel), List.mem_of_getElem? (i := 1114) (by decide +kernel)⟩
theorem lw_p33 : lw_okq (⟨"CoalGrateModel", "remembers", "()V"⟩, 24) := ⟨⟨by decide +kernel, by decide +kernel⟩, List.mem_of_getElem? (i := 923) (by decide +kernel), List.mem_of_getElem? (i := 1118) (by decide +kernel), List.mem_of_getElem? (i := 1119) (by decide +kernel)⟩
theorem lw_p34 : lw_okq (⟨"CoalGrateModel", "goMinute", "()V"⟩, 24) := ⟨⟨by decide +kernel, by decide +kernel⟩, List.mem_of_getElem? (i := 923) (by decide +kernel), List.mem_of_getElem? (i := 1122) (by decide +kernel), List.mem_of_getElem? (i := 1123) (by decide +kernel)⟩
theorem lw_p35 : lw_okq (⟨"CoalGrateModel", "isOn", "(I)Z"⟩, 24) := ⟨⟨by decide +kernel, by decide +kernel⟩, List.mem_of_getElem? (i := 923) (by decide +kernel), List.mem_of_getElem? (i := 1126) (by decide +kernel), List.mem_of_getElem? (i := 1127) (by decide +kernel)⟩
theorem lw_p36 : lw_okq (⟨"CoalGrateModel", "heatOf", "(I)I"⟩, 24) := ⟨⟨by decide +kernel, by decide +kernel⟩, List.mem_of_getElem? (i := 923) (by decide +kernel), List.mem_of_getElem? (i := 1130) (by decide +kernel), List.mem_of_getElem? (i := 1131) (by decide +kernel)⟩
theorem lw_p37 : lw_okq (⟨"CoalGrateModel", "below", "(I)I"⟩, 24) := ⟨⟨by decide +kernel, by decide +kernel⟩, List.mem_of_getElem? (i := 923) (by decide +kernel), List.mem_of_getElem? (i := 1143) (by decide +kernel), List.mem_of_getElem? (i := 1144) (by decide +kernel)⟩
theorem lw_p38 : lw_okq (⟨"CoalGrateModel", "isGone", "(I)Z"⟩, 24) := ⟨⟨by decide +kernel, by decide +kernel⟩, List.mem_of_getElem? (i := 923) (by decide +kernel), List.mem_of_getElem? (i := 1147) (by decide +kernel), List.mem_of_getElem? (i := 1148) (by decide +kernel)⟩
theorem lw_p39 : lw_okq (⟨"CoalGrateModel", "goThing", "(I)V"⟩, 24) := ⟨⟨by decide +kernel, by decide +kernel⟩, List.mem_of_getElem? (i := 923) (by decide +kernel), List.mem_of_getElem? (i := 1151) (by decide +kernel), List.mem_of_getElem? (i := 1152) (by decide +kernel)⟩
theorem lw_p40 : lw_okq (⟨"CoalGrateModel", "thick", "(I)I"⟩, 24) := ⟨⟨by decide +kernel, by decide +kernel⟩, List.mem_of_getElem? (i := 923) (by decide +kernel), List.mem_of_getElem? (i := 1158) (by decide +kernel), List.mem_of_getElem? (i := 1159) (by decide +kernel)⟩
theorem lw_p41 : lw_okq (⟨"CoalGrateModel", "limit", "(I)I"⟩, 24) := ⟨⟨by decide +kernel, by decide +kernel⟩, List.mem_of_getElem? (i := 923) (by decide +kernel), List.mem_of_getElem? (i := 1162) (by decide +kernel), List.mem_of_getElem? (i := 1163) (by decide +kernel)⟩
theorem lw_p42 : lw_okq (⟨"CoalGrateModel", "isThing", "(I)Z"⟩, 24) := ⟨⟨by decide +kernel, by decide +kernel⟩, List.mem_of_getElem? (i := 923) (by decide +kernel), List.mem_of_getElem? (i := 1170) (by decide +kernel), List.mem_of_getElem? (i := 1171) (by decide +kernel)⟩
theorem lw_p43 : lw_okq (⟨"CoalGrateModel", "isTaken", "(II)Z"⟩, 24) := ⟨⟨by decide +kernel, by decide +kernel⟩, List.mem_of_getElem? (i := 923) (by decide +kernel), List.mem_of_getElem? (i := 1178) (by decide +kernel), List.mem_of_getElem? (i := 1179) (by decide +kernel)⟩
theorem lw_p44 : lw_okq (⟨"CoalGrateModel", "adds", "(II)V"⟩, 24) := ⟨⟨by decide +kernel, by decide +kernel⟩, List.mem_of_getElem? (i := 923) (by decide +kernel), List.mem_of_getElem? (i := 1186) (by decide +kernel), List.mem_of_getElem? (i := 1187) (by decide +kernel)⟩
theorem lw_p45 : lw_okq (⟨"CoalGrateModel", "isWell", "(I)Z"⟩, 24) := ⟨⟨by decide +kernel, by decide +kernel⟩, List.mem_of_getElem? (i := 923) (by decide +kernel), List.mem_of_getElem? (i := 1198) (by decide +kernel), List.mem_of_getElem? (i := 1199) (by decide +kernel)⟩
theorem lw_p46 : lw_okq (⟨"CoalGrateModel", "isThrough", "(I)Z"⟩, 24) := ⟨⟨by decide +kernel, by decide +kernel⟩, List.mem_of_getElem? (i := 923) (by decide +kernel), List.mem_of_getElem? (i := 1202) (by decide +kernel), List.mem_of_getElem? (i := 1203) (by decide +kernel)⟩
theorem lw_p47 : lw_okq (⟨"CoalGrateModel", "need", "(I)I"⟩, 24) := ⟨⟨by decide +kernel, by decide +kernel⟩, List.mem_of_getElem? (i := 923) (by decide +kernel), List.mem_of_getElem? (i := 1206) (by decide +kernel), List.mem_of_getElem? (i := 1207) (by decide +kernel)⟩
def lw_privs_3 : List (MethodName × Nat) := [(⟨"CoalGrateModel", "isYard", "()Z"⟩, 24), (⟨"CoalGrateModel", "remembers", "()V"⟩, 24), (⟨"CoalGrateModel", "goMinute", "()V"⟩, 24), (⟨"CoalGrateModel", "isOn", "(I)Z"⟩, 24), (⟨"CoalGrateModel", "heatOf", "(I)I"⟩, 24), (⟨"CoalGrateModel", "below", "(I)I"⟩, 24), (⟨"CoalGrateModel", "isGone", "(I)Z"⟩, 24), (⟨"CoalGrateModel", "goThing", "(I)V"⟩, 24), (⟨"CoalGrateModel", "thick", "(I)I"⟩, 24), (⟨"CoalGrateModel", "limit", "(I)I"⟩, 24), (⟨"CoalGrateModel", "isThing", "(I)Z"⟩, 24), (⟨"CoalGrateModel", "isTaken", "(II)Z"⟩, 24), (⟨"CoalGrateModel", "adds", "(II)V"⟩, 24), (⟨"CoalGrateModel", "isWell", "(I)Z"⟩, 24), (⟨"CoalGrateModel", "isThrough", "(I)Z"⟩, 24), (⟨"CoalGrateModel", "need", "(I)I"⟩, 24)]
theorem lw_r3 : ∀ q ∈ lw_privs_3, lw_okq q := List.forall_mem_cons.mpr ⟨lw_p32, List.forall_mem_cons.mpr ⟨lw_p33, List.forall_mem_cons.mpr ⟨lw_p34, List.forall_mem_cons.mpr ⟨lw_p35, List.forall_mem_cons.mpr ⟨lw_p36, List.forall_mem_cons.mpr ⟨lw_p37, List.forall_mem_cons.mpr ⟨lw_p38, List.forall_mem_cons.mpr ⟨lw_p39, List.forall_mem_cons.mpr ⟨lw_p40, List.forall_mem_cons.mpr ⟨lw_p41, List.forall_mem_cons.mpr ⟨lw_p42, List.forall_mem_cons.mpr ⟨lw_p43, List.forall_mem_cons.mpr ⟨lw_p44, List.forall_mem_cons.mpr ⟨lw_p45, List.forall_mem_cons.mpr ⟨lw_p46, List.forall_mem_cons.mpr ⟨lw_p47, fun _ h => absurd h List.not_mem_nil⟩⟩⟩⟩⟩⟩⟩⟩⟩⟩⟩⟩⟩⟩⟩⟩
theorem lw_p48 : lw_okq (⟨"CoalGrateModel", "servedNow", "()I"⟩, 24) := ⟨⟨by decide +kernel, by decide +kernel⟩, List.mem_of_getElem? (i := 923) (by decide +kernel), List.mem_of_getElem? (i := 1210) (by decide +kernel), List.mem_of_getElem? (i := 1211) (by decide +kernel)⟩
theorem lw_p49 : lw_okq (⟨"CoalGrateModel", "holds", "()V"⟩, 24) := ⟨⟨by decide +kernel, by decide +kernel⟩, List.mem_of_getElem? (i := 923) (by decide +kernel), List.mem_of_getElem? (i := 1238) (by decide +kernel), List.mem_of_getElem? (i := 1239) (by decide +kernel)⟩
theorem lw_p50 : lw_okq (⟨"CoalGrateModel", "go", "(I)V"⟩, 24) := ⟨⟨by decide +kernel, by decide +kernel⟩, List.mem_of_getElem? (i := 923) (by decide +kernel), List.mem_of_getElem? (i := 1242) (by decide +kernel), List.mem_of_getElem? (i := 1243) (by decide +kernel)⟩
theorem lw_p51 : lw_okq (⟨"CoalGrateModel", "above", "(I)I"⟩, 24) := ⟨⟨by decide +kernel, by decide +kernel⟩, List.mem_of_getElem? (i := 923) (by decide +kernel), List.mem_of_getElem? (i := 1246) (by decide +kernel), List.mem_of_getElem? (i := 1247) (by decide +kernel)⟩
theorem lw_p52 : lw_okq (⟨"CoalGrateModel", "putsBack", "()V"⟩, 24) := ⟨⟨by decide +kernel, by decide +kernel⟩, List.mem_of_getElem? (i := 923) (by decide +kernel), List.mem_of_getElem? (i := 1250) (by decide +kernel), List.mem_of_getElem? (i := 1251) (by decide +kernel)⟩
theorem lw_p53 : lw_okq (⟨"CoalGrateModel", "readyIn", "(II)I"⟩, 24) := ⟨⟨by decide +kernel, by decide +kernel⟩, List.mem_of_getElem? (i := 923) (by decide +kernel), List.mem_of_getElem? (i := 1262) (by decide +kernel), List.mem_of_getElem? (i := 1263) (by decide +kernel)⟩
theorem lw_p54 : lw_okq (⟨"CoalGrateModel", "isWellBy", "(III)Z"⟩, 24) := ⟨⟨by decide +kernel, by decide +kernel⟩, List.mem_of_getElem? (i := 923) (by decide +kernel), List.mem_of_getElem? (i := 1281) (by decide +kernel), List.mem_of_getElem? (i := 1282) (by decide +kernel)⟩
theorem lw_p55 : lw_okq (⟨"CoalGrateModel", "most", "(III)I"⟩, 24) := ⟨⟨by decide +kernel, by decide +kernel⟩, List.mem_of_getElem? (i := 923) (by decide +kernel), List.mem_of_getElem? (i := 1297) (by decide +kernel), List.mem_of_getElem? (i := 1298) (by decide +kernel)⟩
theorem lw_p56 : lw_okq (⟨"CoalGrateModel", "mayGet", "(III)Z"⟩, 24) := ⟨⟨by decide +kernel, by decide +kernel⟩, List.mem_of_getElem? (i := 923) (by decide +kernel), List.mem_of_getElem? (i := 1304) (by decide +kernel), List.mem_of_getElem? (i := 1305) (by decide +kernel)⟩
theorem lw_p57 : lw_okq (⟨"CoalGrateModel", "handles", "()I"⟩, 24) := ⟨⟨by decide +kernel, by decide +kernel⟩, List.mem_of_getElem? (i := 923) (by decide +kernel), List.mem_of_getElem? (i := 1312) (by decide +kernel), List.mem_of_getElem? (i := 1313) (by decide +kernel)⟩
theorem lw_p58 : lw_okq (⟨"CoalGrateModel", "setOf", "(Z)I"⟩, 24) := ⟨⟨by decide +kernel, by decide +kernel⟩, List.mem_of_getElem? (i := 923) (by decide +kernel), List.mem_of_getElem? (i := 1316) (by decide +kernel), List.mem_of_getElem? (i := 1317) (by decide +kernel)⟩
theorem lw_p59 : lw_okq (⟨"CoalGrateModel", "areItems", "(III)Z"⟩, 24) := ⟨⟨by decide +kernel, by decide +kernel⟩, List.mem_of_getElem? (i := 923) (by decide +kernel), List.mem_of_getElem? (i := 1324) (by decide +kernel), List.mem_of_getElem? (i := 1325) (by decide +kernel)⟩
theorem lw_p60 : lw_okq (⟨"CoalGrateModel", "fireNow", "()I"⟩, 24) := ⟨⟨by decide +kernel, by decide +kernel⟩, List.mem_of_getElem? (i := 923) (by decide +kernel), List.mem_of_getElem? (i := 1332) (by decide +kernel), List.mem_of_getElem? (i := 1333) (by decide +kernel)⟩
theorem lw_p61 : lw_okq (⟨"CoalGrateModel", "sizeOf", "(I)I"⟩, 24) := ⟨⟨by decide +kernel, by decide +kernel⟩, List.mem_of_getElem? (i := 923) (by decide +kernel), List.mem_of_getElem? (i := 1356) (by decide +kernel), List.mem_of_getElem? (i := 1357) (by decide +kernel)⟩
theorem lw_p62 : lw_okq (⟨"CoalGrateModel", "sizeOfCheese", "(I)I"⟩, 24) := ⟨⟨by decide +kernel, by decide +kernel⟩, List.mem_of_getElem? (i := 923) (by decide +kernel), List.mem_of_getElem? (i := 1360) (by decide +kernel), List.mem_of_getElem? (i := 1361) (by decide +kernel)⟩
theorem lw_p63 : lw_okq (⟨"CoalGrateModel", "begins", "(I)V"⟩, 24) := ⟨⟨by decide +kernel, by decide +kernel⟩, List.mem_of_getElem? (i := 923) (by decide +kernel), List.mem_of_getElem? (i := 1364) (by decide +kernel), List.mem_of_getElem? (i := 1365) (by decide +kernel)⟩
def lw_privs_4 : List (MethodName × Nat) := [(⟨"CoalGrateModel", "servedNow", "()I"⟩, 24), (⟨"CoalGrateModel", "holds", "()V"⟩, 24), (⟨"CoalGrateModel", "go", "(I)V"⟩, 24), (⟨"CoalGrateModel", "above", "(I)I"⟩, 24), (⟨"CoalGrateModel", "putsBack", "()V"⟩, 24), (⟨"CoalGrateModel", "readyIn", "(II)I"⟩, 24), (⟨"CoalGrateModel", "isWellBy", "(III)Z"⟩, 24), (⟨"CoalGrateModel", "most", "(III)I"⟩, 24), (⟨"CoalGrateModel", "mayGet", "(III)Z"⟩, 24), (⟨"CoalGrateModel", "handles", "()I"⟩, 24), (⟨"CoalGrateModel", "setOf", "(Z)I"⟩, 24), (⟨"CoalGrateModel", "areItems", "(III)Z"⟩, 24), (⟨"CoalGrateModel", "fireNow", "()I"⟩, 24), (⟨"CoalGrateModel", "sizeOf", "(I)I"⟩, 24), (⟨"CoalGrateModel", "sizeOfCheese", "(I)I"⟩, 24), (⟨"CoalGrateModel", "begins", "(I)V"⟩, 24)]
theorem lw_r4 : ∀ q ∈ lw_privs_4, lw_okq q := List.forall_mem_cons.mpr ⟨lw_p48, List.forall_mem_cons.mpr ⟨lw_p49, List.forall_mem_cons.mpr ⟨lw_p50, List.forall_mem_cons.mpr ⟨lw_p51, List.forall_mem_cons.mpr ⟨lw_p52, List.forall_mem_cons.mpr ⟨lw_p53, List.forall_mem_cons.mpr ⟨lw_p54, List.forall_mem_cons.mpr ⟨lw_p55, List.forall_mem_cons.mpr ⟨lw_p56, List.forall_mem_cons.mpr ⟨lw_p57, List.forall_mem_cons.mpr ⟨lw_p58, List.forall_mem_cons.mpr ⟨lw_p59, List.forall_mem_cons.mpr ⟨lw_p60, List.forall_mem_cons.mpr ⟨lw_p61, List.forall_mem_cons.mpr ⟨lw_p62, List.forall_mem_cons.mpr ⟨lw_p63, fun _ h => absurd h List.not_mem_nil⟩⟩⟩⟩⟩⟩⟩⟩⟩⟩⟩⟩⟩⟩⟩⟩
theorem lw_p64 : lw_okq (⟨"CoalGrateModel", "cheeseSize", "(I)I"⟩, 24) := ⟨⟨by decide +kernel, by decide +kernel⟩, List.mem_of_getElem? (i := 923) (by decide +kernel), List.mem_of_getElem? (i := 1368) (by decide +kernel), List.mem_of_getElem? (i := 1369) (by decide +kernel)⟩
theorem lw_p65 : lw_okq (⟨"CoalGrateModel", "lentSize", "(I)I"⟩, 24) := ⟨⟨by decide +kernel, by decide +kernel⟩, List.mem_of_getElem? (i := 923) (by decide +kernel), List.mem_of_getElem? (i := 1372) (by decide +kernel), List.mem_of_getElem? (i := 1373) (by decide +kernel)⟩
theorem lw_p66 : lw_okq (⟨"CoalGrateModel", "sausageSize", "(I)I"⟩, 24) := ⟨⟨by decide +kernel, by decide +kernel⟩, List.mem_of_getElem? (i := 923) (by decide +kernel), List.mem_of_getElem? (i := 1376) (by decide +kernel), List.mem_of_getElem? (i := 1377) (by decide +kernel)⟩
theorem lw_p67 : lw_okq (⟨"CoalGrateModel", "markOfSausages", "(I)I"⟩, 24) := ⟨⟨by decide +kernel, by decide +kernel⟩, List.mem_of_getElem? (i := 923) (by decide +kernel), List.mem_of_getElem? (i := 1380) (by decide +kernel), List.mem_of_getElem? (i := 1381) (by decide +kernel)⟩
theorem lw_p68 : lw_okq (⟨"CoalGrateModel", "sausageMark", "(I)I"⟩, 24) := ⟨⟨by decide +kernel, by decide +kernel⟩, List.mem_of_getElem? (i := 923) (by decide +kernel), List.mem_of_getElem? (i := 1384) (by decide +kernel), List.mem_of_getElem? (i := 1385) (by decide +kernel)⟩
theorem lw_p69 : lw_okq (⟨"CoalGrateModel", "lentMark", "(I)I"⟩, 24) := ⟨⟨by decide +kernel, by decide +kernel⟩, List.mem_of_getElem? (i := 923) (by decide +kernel), List.mem_of_getElem? (i := 1388) (by decide +kernel), List.mem_of_getElem? (i := 1389) (by decide +kernel)⟩
theorem lw_p70 : lw_okq (⟨"CoalGrateModel", "markOf", "(I)I"⟩, 24) := ⟨⟨by decide +kernel, by decide +kernel⟩, List.mem_of_getElem? (i := 923) (by decide +kernel), List.mem_of_getElem? (i := 1392) (by decide +kernel), List.mem_of_getElem? (i := 1393) (by decide +kernel)⟩
def lw_privs_5 : List (MethodName × Nat) := [(⟨"CoalGrateModel", "cheeseSize", "(I)I"⟩, 24), (⟨"CoalGrateModel", "lentSize", "(I)I"⟩, 24), (⟨"CoalGrateModel", "sausageSize", "(I)I"⟩, 24), (⟨"CoalGrateModel", "markOfSausages", "(I)I"⟩, 24), (⟨"CoalGrateModel", "sausageMark", "(I)I"⟩, 24), (⟨"CoalGrateModel", "lentMark", "(I)I"⟩, 24), (⟨"CoalGrateModel", "markOf", "(I)I"⟩, 24)]
theorem lw_r5 : ∀ q ∈ lw_privs_5, lw_okq q := List.forall_mem_cons.mpr ⟨lw_p64, List.forall_mem_cons.mpr ⟨lw_p65, List.forall_mem_cons.mpr ⟨lw_p66, List.forall_mem_cons.mpr ⟨lw_p67, List.forall_mem_cons.mpr ⟨lw_p68, List.forall_mem_cons.mpr ⟨lw_p69, List.forall_mem_cons.mpr ⟨lw_p70, fun _ h => absurd h List.not_mem_nil⟩⟩⟩⟩⟩⟩⟩
def lw_privs : List (MethodName × Nat) := lw_privs_1 ++ (lw_privs_2 ++ (lw_privs_3 ++ (lw_privs_4 ++ (lw_privs_5))))
def lw_tbl : List Cond := k2_sels lw_privs ++ tables_1
theorem lw_privs_ok : ∀ q ∈ lw_privs, lw_okq q := by
  show ∀ q ∈ lw_privs_1 ++ (lw_privs_2 ++ (lw_privs_3 ++ (lw_privs_4 ++ (lw_privs_5)))), lw_okq q
  exact List.forall_mem_append.mpr ⟨lw_r1, List.forall_mem_append.mpr ⟨lw_r2, List.forall_mem_append.mpr ⟨lw_r3, List.forall_mem_append.mpr ⟨lw_r4, lw_r5⟩⟩⟩⟩
-- ===== end of PART A; then your names; then what follows =====
/-! ===== BEGIN words of one list among another's, by their places ===== -/
theorem goodIn_r {big : List Cond} (ws : List Cond) (ps : List Nat) (hp : ws = ps.filterMap (fun i => big[i]?)) (h : ws.all goodWord = true) : GoodIn big ws := by
  intro w hw
  have h1 := List.all_eq_true.mp h w hw
  rw [hp] at hw
  obtain ⟨i, -, hi⟩ := List.mem_filterMap.mp hw
  have hm : w ∈ big := by first | exact List.mem_of_getElem? hi | exact List.getElem?_mem hi
  exact ⟨hm, good_of_word h1⟩
theorem goodIn_app {big a b : List Cond} (ha : GoodIn big a) (hb : GoodIn big b) : GoodIn big (a ++ b) := fun w h => (List.mem_append.mp h).elim (ha w) (hb w)
theorem goodIn_ca {big a b : List Cond} {c : Cond} (ha : GoodIn big (c :: a)) (hb : GoodIn big b) : GoodIn big (c :: (a ++ b)) := fun w h => (List.mem_cons.mp h).elim (fun e => ha w (List.mem_cons.mpr (Or.inl e))) (fun h => (List.mem_append.mp h).elim (fun h => ha w (List.mem_cons.mpr (Or.inr h))) (hb w))
theorem goodIn_sub {big ws : List Cond} (hm : ∀ w ∈ ws, w ∈ big) (h : ws.all goodWord = true) : GoodIn big ws := fun w hw => ⟨hm w hw, good_of_word (List.all_eq_true.mp h w hw)⟩
/-! ===== END ===== -/

/-! ===== BEGIN printed: names, fields, word lists, decode rows ===== -/
def RX0 : String := "CoalGrate$Cheese"
def TX0 : u_T := fun k => match k with
  | 0 => ("CoalGrate$Kind", "number", "I", true)
  | 1 => ("CoalGrate$Kind", "thick", "I", true)
  | 2 => ("CoalGrate$Kind", "need", "I", true)
  | _ => ("CoalGrate$Kind", "limit", "I", true)
def tyX0 : Nat → FieldType := fun k => match k with
  | 0 => .int
  | 1 => .int
  | 2 => .int
  | _ => .int
abbrev wsX00 : List Cond := u_ws RX0 TX0 4
theorem nmX0 : ∀ a, a < 4 → ∀ b, b < 4 → a ≠ b → (TX0 a).2.1 ≠ (TX0 b).2.1 := by decide +kernel
theorem tyX0_ok : ∀ k, k < 4 → parseFieldDescriptor (TX0 k).2.2.1 = some (tyX0 k) := by decide +kernel
abbrev cX0_init : ByteArray := prog_2_method_1_code
def yX0_init : MethodName := ⟨RX0, "<init>", "(IIII)V"⟩
abbrev cX0_sizeOf : ByteArray := prog_2_method_2_code
def yX0_sizeOf : MethodName := ⟨RX0, "sizeOf", "(LCoalGrate$Thing;LCoalGrate$Trace;)I"⟩
abbrev cX0_markOf : ByteArray := prog_2_method_3_code
def yX0_markOf : MethodName := ⟨RX0, "markOf", "(LCoalGrate$Thing;LCoalGrate$Trace;)I"⟩
def RX1 : String := "CoalGrate$Chicken"
def TX1 : u_T := fun k => match k with
  | 0 => ("CoalGrate$Kind", "number", "I", true)
  | 1 => ("CoalGrate$Kind", "thick", "I", true)
  | 2 => ("CoalGrate$Kind", "need", "I", true)
  | _ => ("CoalGrate$Kind", "limit", "I", true)
def tyX1 : Nat → FieldType := fun k => match k with
  | 0 => .int
  | 1 => .int
  | 2 => .int
  | _ => .int
abbrev wsX10 : List Cond := u_ws RX1 TX1 4
theorem nmX1 : ∀ a, a < 4 → ∀ b, b < 4 → a ≠ b → (TX1 a).2.1 ≠ (TX1 b).2.1 := by decide +kernel
theorem tyX1_ok : ∀ k, k < 4 → parseFieldDescriptor (TX1 k).2.2.1 = some (tyX1 k) := by decide +kernel
abbrev cX1_init : ByteArray := prog_3_method_1_code
def yX1_init : MethodName := ⟨RX1, "<init>", "(IIII)V"⟩
abbrev cX1_sizeOf : ByteArray := prog_3_method_2_code
def yX1_sizeOf : MethodName := ⟨RX1, "sizeOf", "(LCoalGrate$Thing;LCoalGrate$Trace;)I"⟩
abbrev cX1_markOf : ByteArray := prog_3_method_3_code
def yX1_markOf : MethodName := ⟨RX1, "markOf", "(LCoalGrate$Thing;LCoalGrate$Trace;)I"⟩
def RX2 : String := "CoalGrate$Corn"
def TX2 : u_T := fun k => match k with
  | 0 => ("CoalGrate$Kind", "number", "I", true)
  | 1 => ("CoalGrate$Kind", "thick", "I", true)
  | 2 => ("CoalGrate$Kind", "need", "I", true)
  | _ => ("CoalGrate$Kind", "limit", "I", true)
def tyX2 : Nat → FieldType := fun k => match k with
  | 0 => .int
  | 1 => .int
  | 2 => .int
  | _ => .int
abbrev wsX20 : List Cond := u_ws RX2 TX2 4
theorem nmX2 : ∀ a, a < 4 → ∀ b, b < 4 → a ≠ b → (TX2 a).2.1 ≠ (TX2 b).2.1 := by decide +kernel
theorem tyX2_ok : ∀ k, k < 4 → parseFieldDescriptor (TX2 k).2.2.1 = some (tyX2 k) := by decide +kernel
abbrev cX2_init : ByteArray := prog_4_method_1_code
def yX2_init : MethodName := ⟨RX2, "<init>", "(IIII)V"⟩
abbrev cX2_sizeOf : ByteArray := prog_4_method_2_code
def yX2_sizeOf : MethodName := ⟨RX2, "sizeOf", "(LCoalGrate$Thing;LCoalGrate$Trace;)I"⟩
def RX3 : String := "CoalGrate$Kind"
def TX3 : u_T := fun k => match k with
  | 0 => ("CoalGrate$Kind", "number", "I", true)
  | 1 => ("CoalGrate$Kind", "thick", "I", true)
  | 2 => ("CoalGrate$Kind", "need", "I", true)
  | _ => ("CoalGrate$Kind", "limit", "I", true)
def tyX3 : Nat → FieldType := fun k => match k with
  | 0 => .int
  | 1 => .int
  | 2 => .int
  | _ => .int
abbrev wsX30 : List Cond := u_ws RX3 TX3 4
theorem nmX3 : ∀ a, a < 4 → ∀ b, b < 4 → a ≠ b → (TX3 a).2.1 ≠ (TX3 b).2.1 := by decide +kernel
theorem tyX3_ok : ∀ k, k < 4 → parseFieldDescriptor (TX3 k).2.2.1 = some (tyX3 k) := by decide +kernel
abbrev cX3_init : ByteArray := prog_5_method_1_code
def yX3_init : MethodName := ⟨RX3, "<init>", "(IIII)V"⟩
abbrev cX3_share : ByteArray := prog_5_method_2_code
def yX3_share : MethodName := ⟨RX3, "share", "(I)I"⟩
abbrev cX3_drips : ByteArray := prog_5_method_3_code
def yX3_drips : MethodName := ⟨RX3, "drips", "()Z"⟩
abbrev cX3_sizeOf : ByteArray := prog_5_method_4_code
def yX3_sizeOf : MethodName := ⟨RX3, "sizeOf", "(LCoalGrate$Thing;LCoalGrate$Trace;)I"⟩
abbrev cX3_markOf : ByteArray := prog_5_method_5_code
def yX3_markOf : MethodName := ⟨RX3, "markOf", "(LCoalGrate$Thing;LCoalGrate$Trace;)I"⟩
def RX4 : String := "CoalGrate$Reader"
def TX4 : u_T := fun k => match k with
  | 0 => ("CoalGrate$Reader", "tape", "[I", true)
  | 1 => ("CoalGrate$Reader", "length", "I", false)
  | 2 => ("CoalGrate$Reader", "at", "I", false)
  | 3 => ("CoalGrate$Reader", "failed", "Z", false)
  | 4 => ("CoalGrate$Reader", "faultPlace", "I", false)
  | _ => ("CoalGrate$Reader", "latestFault", "I", false)
def tyX4 : Nat → FieldType := fun k => match k with
  | 0 => .array .int
  | 1 => .int
  | 2 => .int
  | 3 => .boolean
  | 4 => .int
  | _ => .int
abbrev wsX40 : List Cond := u_ws RX4 TX4 6
theorem nmX4 : ∀ a, a < 6 → ∀ b, b < 6 → a ≠ b → (TX4 a).2.1 ≠ (TX4 b).2.1 := by decide +kernel
theorem tyX4_ok : ∀ k, k < 6 → parseFieldDescriptor (TX4 k).2.2.1 = some (tyX4 k) := by decide +kernel
abbrev cX4_init : ByteArray := prog_6_method_1_code
def yX4_init : MethodName := ⟨RX4, "<init>", "()V"⟩
abbrev cX4_take : ByteArray := prog_6_method_2_code
def yX4_take : MethodName := ⟨RX4, "take", "(I)Z"⟩
abbrev cX4_readInto : ByteArray := prog_6_method_3_code
def yX4_readInto : MethodName := ⟨RX4, "readInto", "(LCoalGrate$Yard;)Z"⟩
abbrev cX4_readGrate : ByteArray := prog_6_method_4_code
def yX4_readGrate : MethodName := ⟨RX4, "readGrate", "(LCoalGrate$Yard;)V"⟩
abbrev cX4_readCoal : ByteArray := prog_6_method_5_code
def yX4_readCoal : MethodName := ⟨RX4, "readCoal", "(LCoalGrate$Yard;)V"⟩
abbrev cX4_readThing : ByteArray := prog_6_method_6_code
def yX4_readThing : MethodName := ⟨RX4, "readThing", "(LCoalGrate$Yard;)V"⟩
abbrev cX4_readEater : ByteArray := prog_6_method_7_code
def yX4_readEater : MethodName := ⟨RX4, "readEater", "(LCoalGrate$Yard;)V"⟩
abbrev cX4_next : ByteArray := prog_6_method_8_code
def yX4_next : MethodName := ⟨RX4, "next", "()I"⟩
abbrev cX4_readSign : ByteArray := prog_6_method_9_code
def yX4_readSign : MethodName := ⟨RX4, "readSign", "(I)V"⟩
abbrev cX4_readSort : ByteArray := prog_6_method_10_code
def yX4_readSort : MethodName := ⟨RX4, "readSort", "()I"⟩
abbrev cX4_readNumber : ByteArray := prog_6_method_11_code
def yX4_readNumber : MethodName := ⟨RX4, "readNumber", "(II)I"⟩
abbrev cX4_fail : ByteArray := prog_6_method_12_code
def yX4_fail : MethodName := ⟨RX4, "fail", "(II)V"⟩
abbrev cX4_isFigure : ByteArray := prog_6_method_13_code
def yX4_isFigure : MethodName := ⟨RX4, "isFigure", "(I)Z"⟩
abbrev cX4_sortOf : ByteArray := prog_6_method_14_code
def yX4_sortOf : MethodName := ⟨RX4, "sortOf", "(I)I"⟩
def RX5 : String := "CoalGrate$Rows"
def TX5 : u_T := fun k => match k with
  | 0 => ("CoalGrate$Rows", "items", "[I", true)
  | 1 => ("CoalGrate$Rows", "lanes", "[I", true)
  | _ => ("CoalGrate$Rows", "sizes", "[I", true)
def tyX5 : Nat → FieldType := fun k => match k with
  | 0 => .array .int
  | 1 => .array .int
  | _ => .array .int
abbrev wsX50 : List Cond := u_ws RX5 TX5 3
theorem nmX5 : ∀ a, a < 3 → ∀ b, b < 3 → a ≠ b → (TX5 a).2.1 ≠ (TX5 b).2.1 := by decide +kernel
theorem tyX5_ok : ∀ k, k < 3 → parseFieldDescriptor (TX5 k).2.2.1 = some (tyX5 k) := by decide +kernel
abbrev cX5_init : ByteArray := prog_7_method_1_code
def yX5_init : MethodName := ⟨RX5, "<init>", "()V"⟩
abbrev cX5_isRow : ByteArray := prog_7_method_2_code
def yX5_isRow : MethodName := ⟨RX5, "isRow", "(I)Z"⟩
abbrev cX5_isMissing : ByteArray := prog_7_method_3_code
def yX5_isMissing : MethodName := ⟨RX5, "isMissing", "(I)Z"⟩
abbrev cX5_sameLane : ByteArray := prog_7_method_4_code
def yX5_sameLane : MethodName := ⟨RX5, "sameLane", "(II)Z"⟩
abbrev cX5_hasPlaces : ByteArray := prog_7_method_5_code
def yX5_hasPlaces : MethodName := ⟨RX5, "hasPlaces", "(III)Z"⟩
abbrev cX5_lay : ByteArray := prog_7_method_6_code
def yX5_lay : MethodName := ⟨RX5, "lay", "(III)V"⟩
abbrev cX5_get : ByteArray := prog_7_method_7_code
def yX5_get : MethodName := ⟨RX5, "get", "(II)I"⟩
abbrev cX5_put : ByteArray := prog_7_method_8_code
def yX5_put : MethodName := ⟨RX5, "put", "(III)I"⟩
abbrev cX5_carry : ByteArray := prog_7_method_9_code
def yX5_carry : MethodName := ⟨RX5, "carry", "(IIIII)V"⟩
abbrev cX5_forget : ByteArray := prog_7_method_10_code
def yX5_forget : MethodName := ⟨RX5, "forget", "(I)I"⟩
abbrev cX5_present : ByteArray := prog_7_method_11_code
def yX5_present : MethodName := ⟨RX5, "present", "()I"⟩
def RX6 : String := "CoalGrate$Sausage"
def TX6 : u_T := fun k => match k with
  | 0 => ("CoalGrate$Kind", "number", "I", true)
  | 1 => ("CoalGrate$Kind", "thick", "I", true)
  | 2 => ("CoalGrate$Kind", "need", "I", true)
  | _ => ("CoalGrate$Kind", "limit", "I", true)
def tyX6 : Nat → FieldType := fun k => match k with
  | 0 => .int
  | 1 => .int
  | 2 => .int
  | _ => .int
abbrev wsX60 : List Cond := u_ws RX6 TX6 4
theorem nmX6 : ∀ a, a < 4 → ∀ b, b < 4 → a ≠ b → (TX6 a).2.1 ≠ (TX6 b).2.1 := by decide +kernel
theorem tyX6_ok : ∀ k, k < 4 → parseFieldDescriptor (TX6 k).2.2.1 = some (tyX6 k) := by decide +kernel
abbrev cX6_init : ByteArray := prog_8_method_1_code
def yX6_init : MethodName := ⟨RX6, "<init>", "(IIII)V"⟩
abbrev cX6_drips : ByteArray := prog_8_method_2_code
def yX6_drips : MethodName := ⟨RX6, "drips", "()Z"⟩
abbrev cX6_sizeOf : ByteArray := prog_8_method_3_code
def yX6_sizeOf : MethodName := ⟨RX6, "sizeOf", "(LCoalGrate$Thing;LCoalGrate$Trace;)I"⟩
abbrev cX6_markOf : ByteArray := prog_8_method_4_code
def yX6_markOf : MethodName := ⟨RX6, "markOf", "(LCoalGrate$Thing;LCoalGrate$Trace;)I"⟩
def RX7 : String := "CoalGrate$Thin"
def TX7 : u_T := fun k => match k with
  | 0 => ("CoalGrate$Kind", "number", "I", true)
  | 1 => ("CoalGrate$Kind", "thick", "I", true)
  | 2 => ("CoalGrate$Kind", "need", "I", true)
  | _ => ("CoalGrate$Kind", "limit", "I", true)
def tyX7 : Nat → FieldType := fun k => match k with
  | 0 => .int
  | 1 => .int
  | 2 => .int
  | _ => .int
abbrev wsX70 : List Cond := u_ws RX7 TX7 4
theorem nmX7 : ∀ a, a < 4 → ∀ b, b < 4 → a ≠ b → (TX7 a).2.1 ≠ (TX7 b).2.1 := by decide +kernel
theorem tyX7_ok : ∀ k, k < 4 → parseFieldDescriptor (TX7 k).2.2.1 = some (tyX7 k) := by decide +kernel
abbrev cX7_init : ByteArray := prog_9_method_1_code
def yX7_init : MethodName := ⟨RX7, "<init>", "(IIII)V"⟩
abbrev cX7_markOf : ByteArray := prog_9_method_2_code
def yX7_markOf : MethodName := ⟨RX7, "markOf", "(LCoalGrate$Thing;LCoalGrate$Trace;)I"⟩
def RX8 : String := "CoalGrate$Thing"
def TX8 : u_T := fun k => match k with
  | 0 => ("CoalGrate$Thing", "number", "I", true)
  | 1 => ("CoalGrate$Thing", "kind", "LCoalGrate$Kind;", false)
  | 2 => ("CoalGrate$Thing", "place", "I", false)
  | 3 => ("CoalGrate$Thing", "core", "I", false)
  | 4 => ("CoalGrate$Thing", "lower", "I", false)
  | 5 => ("CoalGrate$Thing", "upper", "I", false)
  | 6 => ("CoalGrate$Thing", "side", "I", false)
  | _ => ("CoalGrate$Thing", "burnt", "Z", false)
def tyX8 : Nat → FieldType := fun k => match k with
  | 0 => .int
  | 1 => .object "CoalGrate$Kind"
  | 2 => .int
  | 3 => .int
  | 4 => .int
  | 5 => .int
  | 6 => .int
  | _ => .boolean
abbrev wsX80 : List Cond := u_ws RX8 TX8 8
theorem nmX8 : ∀ a, a < 8 → ∀ b, b < 8 → a ≠ b → (TX8 a).2.1 ≠ (TX8 b).2.1 := by decide +kernel
theorem tyX8_ok : ∀ k, k < 8 → parseFieldDescriptor (TX8 k).2.2.1 = some (tyX8 k) := by decide +kernel
abbrev cX8_init : ByteArray := prog_10_method_1_code
def yX8_init : MethodName := ⟨RX8, "<init>", "(ILCoalGrate$Kind;)V"⟩
abbrev cX8_layCold : ByteArray := prog_10_method_2_code
def yX8_layCold : MethodName := ⟨RX8, "layCold", "(LCoalGrate$Kind;I)V"⟩
abbrev cX8_become : ByteArray := prog_10_method_3_code
def yX8_become : MethodName := ⟨RX8, "become", "(LCoalGrate$Thing;)V"⟩
abbrev cX8_isServed : ByteArray := prog_10_method_4_code
def yX8_isServed : MethodName := ⟨RX8, "isServed", "()Z"⟩
abbrev cX8_isThrough : ByteArray := prog_10_method_5_code
def yX8_isThrough : MethodName := ⟨RX8, "isThrough", "()Z"⟩
abbrev cX8_isDone : ByteArray := prog_10_method_6_code
def yX8_isDone : MethodName := ⟨RX8, "isDone", "()Z"⟩
abbrev cX8_skinOf : ByteArray := prog_10_method_7_code
def yX8_skinOf : MethodName := ⟨RX8, "skinOf", "(I)I"⟩
abbrev cX8_flip : ByteArray := prog_10_method_8_code
def yX8_flip : MethodName := ⟨RX8, "flip", "()V"⟩
abbrev cX8_heatBy : ByteArray := prog_10_method_9_code
def yX8_heatBy : MethodName := ⟨RX8, "heatBy", "(II)I"⟩
abbrev cX8_roastBy : ByteArray := prog_10_method_10_code
def yX8_roastBy : MethodName := ⟨RX8, "roastBy", "(II)V"⟩
abbrev cX8_rest : ByteArray := prog_10_method_11_code
def yX8_rest : MethodName := ⟨RX8, "rest", "(I)V"⟩
abbrev cX8_saveIn : ByteArray := prog_10_method_12_code
def yX8_saveIn : MethodName := ⟨RX8, "saveIn", "([II)V"⟩
abbrev cX8_loadFrom : ByteArray := prog_10_method_13_code
def yX8_loadFrom : MethodName := ⟨RX8, "loadFrom", "([IILCoalGrate$Kind;)V"⟩
def RX9 : String := "CoalGrate$Trace"
def TX9 : u_T := fun k => match k with
  | 0 => ("CoalGrate$Trace", "numbers", "[I", true)
  | _ => ("CoalGrate$Trace", "length", "I", false)
def tyX9 : Nat → FieldType := fun k => match k with
  | 0 => .array .int
  | _ => .int
abbrev wsX90 : List Cond := u_ws RX9 TX9 2
theorem nmX9 : ∀ a, a < 2 → ∀ b, b < 2 → a ≠ b → (TX9 a).2.1 ≠ (TX9 b).2.1 := by decide +kernel
theorem tyX9_ok : ∀ k, k < 2 → parseFieldDescriptor (TX9 k).2.2.1 = some (tyX9 k) := by decide +kernel
abbrev cX9_init : ByteArray := prog_11_method_1_code
def yX9_init : MethodName := ⟨RX9, "<init>", "()V"⟩
abbrev cX9_leave : ByteArray := prog_11_method_2_code
def yX9_leave : MethodName := ⟨RX9, "leave", "(I)V"⟩
def RX10 : String := "CoalGrate$Yard"
def TX10 : u_T := fun k => match k with
  | 0 => ("CoalGrate$Yard", "kinds", "[LCoalGrate$Kind;", true)
  | 1 => ("CoalGrate$Yard", "sink", "I", false)
  | 2 => ("CoalGrate$Yard", "wind", "I", false)
  | 3 => ("CoalGrate$Yard", "minute", "I", false)
  | 4 => ("CoalGrate$Yard", "coalCount", "I", false)
  | 5 => ("CoalGrate$Yard", "coalCell", "[I", true)
  | 6 => ("CoalGrate$Yard", "coalFire", "[I", true)
  | 7 => ("CoalGrate$Yard", "coalFresh", "[I", true)
  | 8 => ("CoalGrate$Yard", "thingCount", "I", false)
  | 9 => ("CoalGrate$Yard", "things", "[LCoalGrate$Thing;", true)
  | 10 => ("CoalGrate$Yard", "eaterCount", "I", false)
  | 11 => ("CoalGrate$Yard", "eaterKind", "[I", true)
  | 12 => ("CoalGrate$Yard", "eaterMinute", "[I", true)
  | _ => ("CoalGrate$Yard", "eaterThing", "[I", true)
def tyX10 : Nat → FieldType := fun k => match k with
  | 0 => .array (.object "CoalGrate$Kind")
  | 1 => .int
  | 2 => .int
  | 3 => .int
  | 4 => .int
  | 5 => .array .int
  | 6 => .array .int
  | 7 => .array .int
  | 8 => .int
  | 9 => .array (.object "CoalGrate$Thing")
  | 10 => .int
  | 11 => .array .int
  | 12 => .array .int
  | _ => .array .int
abbrev wsX100 : List Cond := u_ws RX10 TX10 14
theorem nmX10 : ∀ a, a < 14 → ∀ b, b < 14 → a ≠ b → (TX10 a).2.1 ≠ (TX10 b).2.1 := by decide +kernel
theorem tyX10_ok : ∀ k, k < 14 → parseFieldDescriptor (TX10 k).2.2.1 = some (tyX10 k) := by decide +kernel
abbrev cX10_init : ByteArray := prog_12_method_1_code
def yX10_init : MethodName := ⟨RX10, "<init>", "([LCoalGrate$Kind;)V"⟩
abbrev cX10_clear : ByteArray := prog_12_method_2_code
def yX10_clear : MethodName := ⟨RX10, "clear", "()V"⟩
abbrev cX10_addCoal : ByteArray := prog_12_method_3_code
def yX10_addCoal : MethodName := ⟨RX10, "addCoal", "(III)V"⟩
abbrev cX10_addThing : ByteArray := prog_12_method_4_code
def yX10_addThing : MethodName := ⟨RX10, "addThing", "(II)V"⟩
abbrev cX10_addEater : ByteArray := prog_12_method_5_code
def yX10_addEater : MethodName := ⟨RX10, "addEater", "(II)V"⟩
abbrev cX10_kindOf : ByteArray := prog_12_method_6_code
def yX10_kindOf : MethodName := ⟨RX10, "kindOf", "(I)LCoalGrate$Kind;"⟩
abbrev cX10_thingAt : ByteArray := prog_12_method_7_code
def yX10_thingAt : MethodName := ⟨RX10, "thingAt", "(I)LCoalGrate$Thing;"⟩
abbrev cX10_isEater : ByteArray := prog_12_method_8_code
def yX10_isEater : MethodName := ⟨RX10, "isEater", "(I)Z"⟩
abbrev cX10_lyingIn : ByteArray := prog_12_method_9_code
def yX10_lyingIn : MethodName := ⟨RX10, "lyingIn", "(I)LCoalGrate$Thing;"⟩
abbrev cX10_isOpenTo : ByteArray := prog_12_method_10_code
def yX10_isOpenTo : MethodName := ⟨RX10, "isOpenTo", "(LCoalGrate$Thing;I)Z"⟩
abbrev cX10_wants : ByteArray := prog_12_method_11_code
def yX10_wants : MethodName := ⟨RX10, "wants", "(ILCoalGrate$Thing;I)Z"⟩
abbrev cX10_sunkBy : ByteArray := prog_12_method_12_code
def yX10_sunkBy : MethodName := ⟨RX10, "sunkBy", "(I)I"⟩
abbrev cX10_warmthIn : ByteArray := prog_12_method_13_code
def yX10_warmthIn : MethodName := ⟨RX10, "warmthIn", "(II)I"⟩
abbrev cX10_isBeside : ByteArray := prog_12_method_14_code
def yX10_isBeside : MethodName := ⟨RX10, "isBeside", "(II)Z"⟩
abbrev cX10_windIn : ByteArray := prog_12_method_15_code
def yX10_windIn : MethodName := ⟨RX10, "windIn", "(I)I"⟩
abbrev cX10_roast : ByteArray := prog_12_method_16_code
def yX10_roast : MethodName := ⟨RX10, "roast", "(LCoalGrate$Thing;I)V"⟩
abbrev cX10_passMinute : ByteArray := prog_12_method_17_code
def yX10_passMinute : MethodName := ⟨RX10, "passMinute", "()V"⟩
abbrev cX10_pourWater : ByteArray := prog_12_method_18_code
def yX10_pourWater : MethodName := ⟨RX10, "pourWater", "()I"⟩
abbrev cX10_fireOfAll : ByteArray := prog_12_method_19_code
def yX10_fireOfAll : MethodName := ⟨RX10, "fireOfAll", "()I"⟩
abbrev cX10_minutesOfFire : ByteArray := prog_12_method_20_code
def yX10_minutesOfFire : MethodName := ⟨RX10, "minutesOfFire", "()I"⟩
abbrev cX10_servedCount : ByteArray := prog_12_method_21_code
def yX10_servedCount : MethodName := ⟨RX10, "servedCount", "()I"⟩
abbrev cX10_hottestBelow : ByteArray := prog_12_method_22_code
def yX10_hottestBelow : MethodName := ⟨RX10, "hottestBelow", "()LCoalGrate$Thing;"⟩
abbrev cX10_burntOnes : ByteArray := prog_12_method_23_code
def yX10_burntOnes : MethodName := ⟨RX10, "burntOnes", "()I"⟩
abbrev cX10_doneOnes : ByteArray := prog_12_method_24_code
def yX10_doneOnes : MethodName := ⟨RX10, "doneOnes", "()I"⟩
abbrev cX10_save : ByteArray := prog_12_method_25_code
def yX10_save : MethodName := ⟨RX10, "save", "([II)V"⟩
abbrev cX10_load : ByteArray := prog_12_method_26_code
def yX10_load : MethodName := ⟨RX10, "load", "([II)V"⟩
def RX11 : String := "CoalGrate"
def TX11 : u_T := fun k => match k with
  | 0 => ("CoalGrate", "rows", "LCoalGrate$Rows;", true)
  | 1 => ("CoalGrate", "reader", "LCoalGrate$Reader;", true)
  | 2 => ("CoalGrate", "path", "LCoalGrate$Trace;", true)
  | 3 => ("CoalGrate", "kinds", "[LCoalGrate$Kind;", true)
  | 4 => ("CoalGrate", "trial", "LCoalGrate$Thing;", true)
  | 5 => ("CoalGrate", "now", "LCoalGrate$Yard;", false)
  | 6 => ("CoalGrate", "spare", "LCoalGrate$Yard;", false)
  | 7 => ("CoalGrate", "stands", "Z", false)
  | 8 => ("CoalGrate", "past", "[I", true)
  | 9 => ("CoalGrate", "pastNext", "I", false)
  | 10 => ("CoalGrate", "pastCount", "I", false)
  | 11 => ("CoalGrate", "images", "[I", true)
  | 12 => ("CoalGrate", "kept", "[Z", true)
  | 13 => ("CoalGrate", "scratch", "[I", true)
  | 14 => ("CoalGrate", "warmth", "[I", true)
  | 15 => ("CoalGrate", "bestFlips", "I", false)
  | _ => ("CoalGrate", "finding", "I", false)
def tyX11 : Nat → FieldType := fun k => match k with
  | 0 => .object "CoalGrate$Rows"
  | 1 => .object "CoalGrate$Reader"
  | 2 => .object "CoalGrate$Trace"
  | 3 => .array (.object "CoalGrate$Kind")
  | 4 => .object "CoalGrate$Thing"
  | 5 => .object "CoalGrate$Yard"
  | 6 => .object "CoalGrate$Yard"
  | 7 => .boolean
  | 8 => .array .int
  | 9 => .int
  | 10 => .int
  | 11 => .array .int
  | 12 => .array .boolean
  | 13 => .array .int
  | 14 => .array .int
  | 15 => .int
  | _ => .int
abbrev wsX110 : List Cond := u_ws RX11 TX11 17
theorem nmX11 : ∀ a, a < 17 → ∀ b, b < 17 → a ≠ b → (TX11 a).2.1 ≠ (TX11 b).2.1 := by decide +kernel
theorem tyX11_ok : ∀ k, k < 17 → parseFieldDescriptor (TX11 k).2.2.1 = some (tyX11 k) := by decide +kernel
abbrev cX11_init : ByteArray := prog_1_method_1_code
def yX11_init : MethodName := ⟨RX11, "<init>", "()V"⟩
abbrev cX11_newKinds : ByteArray := prog_1_method_2_code
def yX11_newKinds : MethodName := ⟨RX11, "newKinds", "()[LCoalGrate$Kind;"⟩
abbrev cX11_row : ByteArray := prog_1_method_3_code
def yX11_row : MethodName := ⟨RX11, "row", "(III)I"⟩
abbrev cX11_set : ByteArray := prog_1_method_4_code
def yX11_set : MethodName := ⟨RX11, "set", "(III)I"⟩
abbrev cX11_copy : ByteArray := prog_1_method_5_code
def yX11_copy : MethodName := ⟨RX11, "copy", "(IIIII)I"⟩
abbrev cX11_drop : ByteArray := prog_1_method_6_code
def yX11_drop : MethodName := ⟨RX11, "drop", "(I)I"⟩
abbrev cX11_found : ByteArray := prog_1_method_7_code
def yX11_found : MethodName := ⟨RX11, "found", "(I)I"⟩
abbrev cX11_answered : ByteArray := prog_1_method_8_code
def yX11_answered : MethodName := ⟨RX11, "answered", "(I)I"⟩
abbrev cX11_feed : ByteArray := prog_1_method_9_code
def yX11_feed : MethodName := ⟨RX11, "feed", "(I)I"⟩
abbrev cX11_yard : ByteArray := prog_1_method_10_code
def yX11_yard : MethodName := ⟨RX11, "yard", "()I"⟩
abbrev cX11_fault : ByteArray := prog_1_method_11_code
def yX11_fault : MethodName := ⟨RX11, "fault", "()I"⟩
abbrev cX11_minutes : ByteArray := prog_1_method_12_code
def yX11_minutes : MethodName := ⟨RX11, "minutes", "(I)I"⟩
abbrev cX11_turn : ByteArray := prog_1_method_13_code
def yX11_turn : MethodName := ⟨RX11, "turn", "(I)I"⟩
abbrev cX11_move : ByteArray := prog_1_method_14_code
def yX11_move : MethodName := ⟨RX11, "move", "(II)I"⟩
abbrev cX11_coal : ByteArray := prog_1_method_15_code
def yX11_coal : MethodName := ⟨RX11, "coal", "(II)I"⟩
abbrev cX11_water : ByteArray := prog_1_method_16_code
def yX11_water : MethodName := ⟨RX11, "water", "()I"⟩
abbrev cX11_serve : ByteArray := prog_1_method_17_code
def yX11_serve : MethodName := ⟨RX11, "serve", "(II)I"⟩
abbrev cX11_undo : ByteArray := prog_1_method_18_code
def yX11_undo : MethodName := ⟨RX11, "undo", "()I"⟩
abbrev cX11_remember : ByteArray := prog_1_method_19_code
def yX11_remember : MethodName := ⟨RX11, "remember", "()V"⟩
abbrev cX11_thing : ByteArray := prog_1_method_20_code
def yX11_thing : MethodName := ⟨RX11, "thing", "(II)I"⟩
abbrev cX11_eater : ByteArray := prog_1_method_21_code
def yX11_eater : MethodName := ⟨RX11, "eater", "(II)I"⟩
abbrev cX11_ember : ByteArray := prog_1_method_22_code
def yX11_ember : MethodName := ⟨RX11, "ember", "(II)I"⟩
abbrev cX11_heat : ByteArray := prog_1_method_23_code
def yX11_heat : MethodName := ⟨RX11, "heat", "(I)I"⟩
abbrev cX11_asBit : ByteArray := prog_1_method_24_code
def yX11_asBit : MethodName := ⟨RX11, "asBit", "(Z)I"⟩
abbrev cX11_isCell : ByteArray := prog_1_method_25_code
def yX11_isCell : MethodName := ⟨RX11, "isCell", "(I)Z"⟩
abbrev cX11_ahead : ByteArray := prog_1_method_26_code
def yX11_ahead : MethodName := ⟨RX11, "ahead", "(III)I"⟩
abbrev cX11_heatAhead : ByteArray := prog_1_method_27_code
def yX11_heatAhead : MethodName := ⟨RX11, "heatAhead", "(II)I"⟩
abbrev cX11_isAhead : ByteArray := prog_1_method_28_code
def yX11_isAhead : MethodName := ⟨RX11, "isAhead", "(II)Z"⟩
abbrev cX11_tryAsItLies : ByteArray := prog_1_method_29_code
def yX11_tryAsItLies : MethodName := ⟨RX11, "tryAsItLies", "(LCoalGrate$Thing;I)V"⟩
abbrev cX11_ready : ByteArray := prog_1_method_30_code
def yX11_ready : MethodName := ⟨RX11, "ready", "(I)I"⟩
abbrev cX11_where : ByteArray := prog_1_method_31_code
def yX11_where : MethodName := ⟨RX11, "where", "(I)I"⟩
abbrev cX11_inTime : ByteArray := prog_1_method_32_code
def yX11_inTime : MethodName := ⟨RX11, "inTime", "(II)I"⟩
abbrev cX11_readyAt : ByteArray := prog_1_method_33_code
def yX11_readyAt : MethodName := ⟨RX11, "readyAt", "(LCoalGrate$Thing;II)I"⟩
abbrev cX11_flips : ByteArray := prog_1_method_34_code
def yX11_flips : MethodName := ⟨RX11, "flips", "(III)I"⟩
abbrev cX11_foretellWarmth : ByteArray := prog_1_method_35_code
def yX11_foretellWarmth : MethodName := ⟨RX11, "foretellWarmth", "(II)V"⟩
abbrev cX11_tryFlips : ByteArray := prog_1_method_36_code
def yX11_tryFlips : MethodName := ⟨RX11, "tryFlips", "(IIIIII)V"⟩
abbrev cX11_tryMinute : ByteArray := prog_1_method_37_code
def yX11_tryMinute : MethodName := ⟨RX11, "tryMinute", "(IIIIII)V"⟩
abbrev cX11_isBetterWay : ByteArray := prog_1_method_38_code
def yX11_isBetterWay : MethodName := ⟨RX11, "isBetterWay", "(I)Z"⟩
abbrev cX11_start : ByteArray := prog_1_method_39_code
def yX11_start : MethodName := ⟨RX11, "start", "(III)I"⟩
abbrev cX11_isDoneStarting : ByteArray := prog_1_method_40_code
def yX11_isDoneStarting : MethodName := ⟨RX11, "isDoneStarting", "(LCoalGrate$Thing;III)Z"⟩
abbrev cX11_fuelFor : ByteArray := prog_1_method_41_code
def yX11_fuelFor : MethodName := ⟨RX11, "fuelFor", "(II)I"⟩
abbrev cX11_isDoneWithCoal : ByteArray := prog_1_method_42_code
def yX11_isDoneWithCoal : MethodName := ⟨RX11, "isDoneWithCoal", "(LCoalGrate$Thing;II)Z"⟩
abbrev cX11_servable : ByteArray := prog_1_method_43_code
def yX11_servable : MethodName := ⟨RX11, "servable", "(II)I"⟩
abbrev cX11_doneAhead : ByteArray := prog_1_method_44_code
def yX11_doneAhead : MethodName := ⟨RX11, "doneAhead", "(I)I"⟩
abbrev cX11_firstFor : ByteArray := prog_1_method_45_code
def yX11_firstFor : MethodName := ⟨RX11, "firstFor", "(III)I"⟩
abbrev cX11_hand : ByteArray := prog_1_method_46_code
def yX11_hand : MethodName := ⟨RX11, "hand", "(II)I"⟩
abbrev cX11_judged : ByteArray := prog_1_method_47_code
def yX11_judged : MethodName := ⟨RX11, "judged", "(III)I"⟩
abbrev cX11_tellsTurns : ByteArray := prog_1_method_48_code
def yX11_tellsTurns : MethodName := ⟨RX11, "tellsTurns", "(III)Z"⟩
abbrev cX11_tryWholeYard : ByteArray := prog_1_method_49_code
def yX11_tryWholeYard : MethodName := ⟨RX11, "tryWholeYard", "()V"⟩
abbrev cX11_fuel : ByteArray := prog_1_method_50_code
def yX11_fuel : MethodName := ⟨RX11, "fuel", "()I"⟩
abbrev cX11_image : ByteArray := prog_1_method_51_code
def yX11_image : MethodName := ⟨RX11, "image", "(I)I"⟩
abbrev cX11_restore : ByteArray := prog_1_method_52_code
def yX11_restore : MethodName := ⟨RX11, "restore", "(I)I"⟩
abbrev cX11_isImage : ByteArray := prog_1_method_53_code
def yX11_isImage : MethodName := ⟨RX11, "isImage", "(I)Z"⟩
abbrev cX11_kind : ByteArray := prog_1_method_54_code
def yX11_kind : MethodName := ⟨RX11, "kind", "(I)I"⟩
abbrev cX11_as : ByteArray := prog_1_method_55_code
def yX11_as : MethodName := ⟨RX11, "as", "(II)I"⟩
abbrev cX11_isOneOf : ByteArray := prog_1_method_56_code
def yX11_isOneOf : MethodName := ⟨RX11, "isOneOf", "(LCoalGrate$Kind;I)Z"⟩
abbrev cX11_ask : ByteArray := prog_1_method_57_code
def yX11_ask : MethodName := ⟨RX11, "ask", "(II)I"⟩
abbrev cX11_trace : ByteArray := prog_1_method_58_code
def yX11_trace : MethodName := ⟨RX11, "trace", "(I)I"⟩
abbrev cX11_count : ByteArray := prog_1_method_59_code
def yX11_count : MethodName := ⟨RX11, "count", "(I)I"⟩
abbrev cX11_status : ByteArray := prog_1_method_60_code
def yX11_status : MethodName := ⟨RX11, "status", "()I"⟩
def RX12 : String := "CoalGrateModel"
def TX12 : u_T := fun k => match k with
  | 0 => ("CoalGrateModel", "st", "[I", true)
  | 1 => ("CoalGrateModel", "kept", "[I", true)
  | 2 => ("CoalGrateModel", "isKept", "[Z", true)
  | 3 => ("CoalGrateModel", "was", "[I", true)
  | 4 => ("CoalGrateModel", "acts", "I", false)
  | 5 => ("CoalGrateModel", "lanes", "[I", true)
  | 6 => ("CoalGrateModel", "sizes", "[I", true)
  | 7 => ("CoalGrateModel", "items", "[I", true)
  | 8 => ("CoalGrateModel", "status", "I", false)
  | 9 => ("CoalGrateModel", "tape", "[I", true)
  | 10 => ("CoalGrateModel", "taped", "I", false)
  | 11 => ("CoalGrateModel", "cursor", "I", false)
  | 12 => ("CoalGrateModel", "start", "I", false)
  | 13 => ("CoalGrateModel", "token", "I", false)
  | 14 => ("CoalGrateModel", "value", "I", false)
  | 15 => ("CoalGrateModel", "fault", "I", false)
  | 16 => ("CoalGrateModel", "latestFault", "I", false)
  | 17 => ("CoalGrateModel", "read", "[I", true)
  | 18 => ("CoalGrateModel", "heats", "[I", true)
  | 19 => ("CoalGrateModel", "hold", "[I", true)
  | 20 => ("CoalGrateModel", "canBe", "[Z", true)
  | 21 => ("CoalGrateModel", "gets", "[I", true)
  | 22 => ("CoalGrateModel", "trace", "[I", true)
  | _ => ("CoalGrateModel", "traced", "I", false)
def tyX12 : Nat → FieldType := fun k => match k with
  | 0 => .array .int
  | 1 => .array .int
  | 2 => .array .boolean
  | 3 => .array .int
  | 4 => .int
  | 5 => .array .int
  | 6 => .array .int
  | 7 => .array .int
  | 8 => .int
  | 9 => .array .int
  | 10 => .int
  | 11 => .int
  | 12 => .int
  | 13 => .int
  | 14 => .int
  | 15 => .int
  | 16 => .int
  | 17 => .array .int
  | 18 => .array .int
  | 19 => .array .int
  | 20 => .array .boolean
  | 21 => .array .int
  | 22 => .array .int
  | _ => .int
abbrev wsX120 : List Cond := u_ws RX12 TX12 24
theorem nmX12 : ∀ a, a < 24 → ∀ b, b < 24 → a ≠ b → (TX12 a).2.1 ≠ (TX12 b).2.1 := by decide +kernel
theorem tyX12_ok : ∀ k, k < 24 → parseFieldDescriptor (TX12 k).2.2.1 = some (tyX12 k) := by decide +kernel
abbrev cX12_init : ByteArray := prog_14_method_1_code
def yX12_init : MethodName := ⟨RX12, "<init>", "()V"⟩
abbrev cX12_in : ByteArray := prog_14_method_3_code
def yX12_in : MethodName := ⟨RX12, "in", "(III)Z"⟩
abbrev cX12_has : ByteArray := prog_14_method_4_code
def yX12_has : MethodName := ⟨RX12, "has", "(II)Z"⟩
abbrev cX12_found : ByteArray := prog_14_method_5_code
def yX12_found : MethodName := ⟨RX12, "found", "(I)I"⟩
abbrev cX12_well : ByteArray := prog_14_method_6_code
def yX12_well : MethodName := ⟨RX12, "well", "(I)I"⟩
abbrev cX12_isRow : ByteArray := prog_14_method_7_code
def yX12_isRow : MethodName := ⟨RX12, "isRow", "(I)Z"⟩
abbrev cX12_row : ByteArray := prog_14_method_8_code
def yX12_row : MethodName := ⟨RX12, "row", "(III)I"⟩
abbrev cX12_set : ByteArray := prog_14_method_9_code
def yX12_set : MethodName := ⟨RX12, "set", "(III)I"⟩
abbrev cX12_isSpan : ByteArray := prog_14_method_10_code
def yX12_isSpan : MethodName := ⟨RX12, "isSpan", "(III)Z"⟩
abbrev cX12_copy : ByteArray := prog_14_method_11_code
def yX12_copy : MethodName := ⟨RX12, "copy", "(IIIII)I"⟩
abbrev cX12_drop : ByteArray := prog_14_method_12_code
def yX12_drop : MethodName := ⟨RX12, "drop", "(I)I"⟩
abbrev cX12_feed : ByteArray := prog_14_method_13_code
def yX12_feed : MethodName := ⟨RX12, "feed", "(I)I"⟩
abbrev cX12_byteAt : ByteArray := prog_14_method_14_code
def yX12_byteAt : MethodName := ⟨RX12, "byteAt", "(I)I"⟩
abbrev cX12_next : ByteArray := prog_14_method_15_code
def yX12_next : MethodName := ⟨RX12, "next", "()V"⟩
abbrev cX12_must : ByteArray := prog_14_method_16_code
def yX12_must : MethodName := ⟨RX12, "must", "(ZI)V"⟩
abbrev cX12_goesOn : ByteArray := prog_14_method_17_code
def yX12_goesOn : MethodName := ⟨RX12, "goesOn", "()V"⟩
abbrev cX12_isLetter : ByteArray := prog_14_method_18_code
def yX12_isLetter : MethodName := ⟨RX12, "isLetter", "(I)Z"⟩
abbrev cX12_readSign : ByteArray := prog_14_method_19_code
def yX12_readSign : MethodName := ⟨RX12, "readSign", "(I)V"⟩
abbrev cX12_readNumber : ByteArray := prog_14_method_20_code
def yX12_readNumber : MethodName := ⟨RX12, "readNumber", "(II)I"⟩
abbrev cX12_sortOf : ByteArray := prog_14_method_21_code
def yX12_sortOf : MethodName := ⟨RX12, "sortOf", "(I)I"⟩
abbrev cX12_isSort : ByteArray := prog_14_method_22_code
def yX12_isSort : MethodName := ⟨RX12, "isSort", "()Z"⟩
abbrev cX12_readGrate : ByteArray := prog_14_method_23_code
def yX12_readGrate : MethodName := ⟨RX12, "readGrate", "()V"⟩
abbrev cX12_readCoal : ByteArray := prog_14_method_24_code
def yX12_readCoal : MethodName := ⟨RX12, "readCoal", "()V"⟩
abbrev cX12_isTold : ByteArray := prog_14_method_25_code
def yX12_isTold : MethodName := ⟨RX12, "isTold", "(I)Z"⟩
abbrev cX12_readThing : ByteArray := prog_14_method_26_code
def yX12_readThing : MethodName := ⟨RX12, "readThing", "()V"⟩
abbrev cX12_readEater : ByteArray := prog_14_method_27_code
def yX12_readEater : MethodName := ⟨RX12, "readEater", "()V"⟩
abbrev cX12_yard : ByteArray := prog_14_method_28_code
def yX12_yard : MethodName := ⟨RX12, "yard", "()I"⟩
abbrev cX12_fault : ByteArray := prog_14_method_29_code
def yX12_fault : MethodName := ⟨RX12, "fault", "()I"⟩
abbrev cX12_isYard : ByteArray := prog_14_method_30_code
def yX12_isYard : MethodName := ⟨RX12, "isYard", "()Z"⟩
abbrev cX12_isThing : ByteArray := prog_14_method_31_code
def yX12_isThing : MethodName := ⟨RX12, "isThing", "(I)Z"⟩
abbrev cX12_isOn : ByteArray := prog_14_method_32_code
def yX12_isOn : MethodName := ⟨RX12, "isOn", "(I)Z"⟩
abbrev cX12_isGone : ByteArray := prog_14_method_33_code
def yX12_isGone : MethodName := ⟨RX12, "isGone", "(I)Z"⟩
abbrev cX12_isA : ByteArray := prog_14_method_34_code
def yX12_isA : MethodName := ⟨RX12, "isA", "(II)Z"⟩
abbrev cX12_below : ByteArray := prog_14_method_35_code
def yX12_below : MethodName := ⟨RX12, "below", "(I)I"⟩
abbrev cX12_above : ByteArray := prog_14_method_36_code
def yX12_above : MethodName := ⟨RX12, "above", "(I)I"⟩
abbrev cX12_size : ByteArray := prog_14_method_37_code
def yX12_size : MethodName := ⟨RX12, "size", "(I)I"⟩
abbrev cX12_areBeside : ByteArray := prog_14_method_38_code
def yX12_areBeside : MethodName := ⟨RX12, "areBeside", "(II)Z"⟩
abbrev cX12_heatOf : ByteArray := prog_14_method_39_code
def yX12_heatOf : MethodName := ⟨RX12, "heatOf", "(I)I"⟩
abbrev cX12_thick : ByteArray := prog_14_method_40_code
def yX12_thick : MethodName := ⟨RX12, "thick", "(I)I"⟩
abbrev cX12_need : ByteArray := prog_14_method_41_code
def yX12_need : MethodName := ⟨RX12, "need", "(I)I"⟩
abbrev cX12_limit : ByteArray := prog_14_method_42_code
def yX12_limit : MethodName := ⟨RX12, "limit", "(I)I"⟩
abbrev cX12_least : ByteArray := prog_14_method_43_code
def yX12_least : MethodName := ⟨RX12, "least", "(I)I"⟩
abbrev cX12_goThing : ByteArray := prog_14_method_44_code
def yX12_goThing : MethodName := ⟨RX12, "goThing", "(I)V"⟩
abbrev cX12_goMinute : ByteArray := prog_14_method_45_code
def yX12_goMinute : MethodName := ⟨RX12, "goMinute", "()V"⟩
abbrev cX12_remembers : ByteArray := prog_14_method_46_code
def yX12_remembers : MethodName := ⟨RX12, "remembers", "()V"⟩
abbrev cX12_minutes : ByteArray := prog_14_method_47_code
def yX12_minutes : MethodName := ⟨RX12, "minutes", "(I)I"⟩
abbrev cX12_turn : ByteArray := prog_14_method_48_code
def yX12_turn : MethodName := ⟨RX12, "turn", "(I)I"⟩
abbrev cX12_isTaken : ByteArray := prog_14_method_49_code
def yX12_isTaken : MethodName := ⟨RX12, "isTaken", "(II)Z"⟩
abbrev cX12_move : ByteArray := prog_14_method_50_code
def yX12_move : MethodName := ⟨RX12, "move", "(II)I"⟩
abbrev cX12_adds : ByteArray := prog_14_method_51_code
def yX12_adds : MethodName := ⟨RX12, "adds", "(II)V"⟩
abbrev cX12_coal : ByteArray := prog_14_method_52_code
def yX12_coal : MethodName := ⟨RX12, "coal", "(II)I"⟩
abbrev cX12_water : ByteArray := prog_14_method_53_code
def yX12_water : MethodName := ⟨RX12, "water", "()I"⟩
abbrev cX12_isThrough : ByteArray := prog_14_method_54_code
def yX12_isThrough : MethodName := ⟨RX12, "isThrough", "(I)Z"⟩
abbrev cX12_isWell : ByteArray := prog_14_method_55_code
def yX12_isWell : MethodName := ⟨RX12, "isWell", "(I)Z"⟩
abbrev cX12_servedNow : ByteArray := prog_14_method_56_code
def yX12_servedNow : MethodName := ⟨RX12, "servedNow", "()I"⟩
abbrev cX12_serve : ByteArray := prog_14_method_57_code
def yX12_serve : MethodName := ⟨RX12, "serve", "(II)I"⟩
abbrev cX12_undo : ByteArray := prog_14_method_58_code
def yX12_undo : MethodName := ⟨RX12, "undo", "()I"⟩
abbrev cX12_thing : ByteArray := prog_14_method_59_code
def yX12_thing : MethodName := ⟨RX12, "thing", "(II)I"⟩
abbrev cX12_eater : ByteArray := prog_14_method_60_code
def yX12_eater : MethodName := ⟨RX12, "eater", "(II)I"⟩
abbrev cX12_ember : ByteArray := prog_14_method_61_code
def yX12_ember : MethodName := ⟨RX12, "ember", "(II)I"⟩
abbrev cX12_heat : ByteArray := prog_14_method_62_code
def yX12_heat : MethodName := ⟨RX12, "heat", "(I)I"⟩
abbrev cX12_holds : ByteArray := prog_14_method_63_code
def yX12_holds : MethodName := ⟨RX12, "holds", "()V"⟩
abbrev cX12_putsBack : ByteArray := prog_14_method_64_code
def yX12_putsBack : MethodName := ⟨RX12, "putsBack", "()V"⟩
abbrev cX12_go : ByteArray := prog_14_method_65_code
def yX12_go : MethodName := ⟨RX12, "go", "(I)V"⟩
abbrev cX12_ahead : ByteArray := prog_14_method_66_code
def yX12_ahead : MethodName := ⟨RX12, "ahead", "(III)I"⟩
abbrev cX12_heatAhead : ByteArray := prog_14_method_67_code
def yX12_heatAhead : MethodName := ⟨RX12, "heatAhead", "(II)I"⟩
abbrev cX12_readyIn : ByteArray := prog_14_method_68_code
def yX12_readyIn : MethodName := ⟨RX12, "readyIn", "(II)I"⟩
abbrev cX12_ready : ByteArray := prog_14_method_69_code
def yX12_ready : MethodName := ⟨RX12, "ready", "(I)I"⟩
abbrev cX12_where : ByteArray := prog_14_method_70_code
def yX12_where : MethodName := ⟨RX12, "where", "(I)I"⟩
abbrev cX12_inTime : ByteArray := prog_14_method_71_code
def yX12_inTime : MethodName := ⟨RX12, "inTime", "(II)I"⟩
abbrev cX12_bits : ByteArray := prog_14_method_72_code
def yX12_bits : MethodName := ⟨RX12, "bits", "(I)I"⟩
abbrev cX12_isWellBy : ByteArray := prog_14_method_73_code
def yX12_isWellBy : MethodName := ⟨RX12, "isWellBy", "(III)Z"⟩
abbrev cX12_flips : ByteArray := prog_14_method_74_code
def yX12_flips : MethodName := ⟨RX12, "flips", "(III)I"⟩
abbrev cX12_start : ByteArray := prog_14_method_75_code
def yX12_start : MethodName := ⟨RX12, "start", "(III)I"⟩
abbrev cX12_fuelFor : ByteArray := prog_14_method_76_code
def yX12_fuelFor : MethodName := ⟨RX12, "fuelFor", "(II)I"⟩
abbrev cX12_mayGet : ByteArray := prog_14_method_77_code
def yX12_mayGet : MethodName := ⟨RX12, "mayGet", "(III)Z"⟩
abbrev cX12_most : ByteArray := prog_14_method_78_code
def yX12_most : MethodName := ⟨RX12, "most", "(III)I"⟩
abbrev cX12_servable : ByteArray := prog_14_method_79_code
def yX12_servable : MethodName := ⟨RX12, "servable", "(II)I"⟩
abbrev cX12_setOf : ByteArray := prog_14_method_80_code
def yX12_setOf : MethodName := ⟨RX12, "setOf", "(Z)I"⟩
abbrev cX12_handles : ByteArray := prog_14_method_81_code
def yX12_handles : MethodName := ⟨RX12, "handles", "()I"⟩
abbrev cX12_hand : ByteArray := prog_14_method_82_code
def yX12_hand : MethodName := ⟨RX12, "hand", "(II)I"⟩
abbrev cX12_areItems : ByteArray := prog_14_method_83_code
def yX12_areItems : MethodName := ⟨RX12, "areItems", "(III)Z"⟩
abbrev cX12_judged : ByteArray := prog_14_method_84_code
def yX12_judged : MethodName := ⟨RX12, "judged", "(III)I"⟩
abbrev cX12_fireNow : ByteArray := prog_14_method_85_code
def yX12_fireNow : MethodName := ⟨RX12, "fireNow", "()I"⟩
abbrev cX12_fuel : ByteArray := prog_14_method_86_code
def yX12_fuel : MethodName := ⟨RX12, "fuel", "()I"⟩
abbrev cX12_image : ByteArray := prog_14_method_87_code
def yX12_image : MethodName := ⟨RX12, "image", "(I)I"⟩
abbrev cX12_restore : ByteArray := prog_14_method_88_code
def yX12_restore : MethodName := ⟨RX12, "restore", "(I)I"⟩
abbrev cX12_kind : ByteArray := prog_14_method_89_code
def yX12_kind : MethodName := ⟨RX12, "kind", "(I)I"⟩
abbrev cX12_as : ByteArray := prog_14_method_90_code
def yX12_as : MethodName := ⟨RX12, "as", "(II)I"⟩
abbrev cX12_begins : ByteArray := prog_14_method_91_code
def yX12_begins : MethodName := ⟨RX12, "begins", "(I)V"⟩
abbrev cX12_lentSize : ByteArray := prog_14_method_92_code
def yX12_lentSize : MethodName := ⟨RX12, "lentSize", "(I)I"⟩
abbrev cX12_lentMark : ByteArray := prog_14_method_93_code
def yX12_lentMark : MethodName := ⟨RX12, "lentMark", "(I)I"⟩
abbrev cX12_sausageMark : ByteArray := prog_14_method_94_code
def yX12_sausageMark : MethodName := ⟨RX12, "sausageMark", "(I)I"⟩
abbrev cX12_markOfSausages : ByteArray := prog_14_method_95_code
def yX12_markOfSausages : MethodName := ⟨RX12, "markOfSausages", "(I)I"⟩
abbrev cX12_sausageSize : ByteArray := prog_14_method_96_code
def yX12_sausageSize : MethodName := ⟨RX12, "sausageSize", "(I)I"⟩
abbrev cX12_cheeseSize : ByteArray := prog_14_method_97_code
def yX12_cheeseSize : MethodName := ⟨RX12, "cheeseSize", "(I)I"⟩
abbrev cX12_sizeOfCheese : ByteArray := prog_14_method_98_code
def yX12_sizeOfCheese : MethodName := ⟨RX12, "sizeOfCheese", "(I)I"⟩
abbrev cX12_sizeOf : ByteArray := prog_14_method_99_code
def yX12_sizeOf : MethodName := ⟨RX12, "sizeOf", "(I)I"⟩
abbrev cX12_markOf : ByteArray := prog_14_method_100_code
def yX12_markOf : MethodName := ⟨RX12, "markOf", "(I)I"⟩
abbrev cX12_ask : ByteArray := prog_14_method_101_code
def yX12_ask : MethodName := ⟨RX12, "ask", "(II)I"⟩
abbrev cX12_trace : ByteArray := prog_14_method_102_code
def yX12_trace : MethodName := ⟨RX12, "trace", "(I)I"⟩
abbrev cX12_count : ByteArray := prog_14_method_103_code
def yX12_count : MethodName := ⟨RX12, "count", "(I)I"⟩
abbrev cX12_status : ByteArray := prog_14_method_104_code
def yX12_status : MethodName := ⟨RX12, "status", "()I"⟩
def RJ6 : String := "java/lang/Integer"
def TJ6 : u_T := fun k => match k with
  | _ => ("", "", "", false)
def tyJ6 : Nat → FieldType := fun k => match k with
  | _ => .int
abbrev wsJ60 : List Cond := u_ws RJ6 TJ6 0
theorem nmJ6 : ∀ a, a < 0 → ∀ b, b < 0 → a ≠ b → (TJ6 a).2.1 ≠ (TJ6 b).2.1 := by decide +kernel
theorem tyJ6_ok : ∀ k, k < 0 → parseFieldDescriptor (TJ6 k).2.2.1 = some (tyJ6 k) := by decide +kernel
abbrev cJ6_bitCount_0f7a4 : ByteArray := prog_15_method_49_code
def yJ6_bitCount_0f7a4 : MethodName := ⟨RJ6, "bitCount", "(I)I"⟩
def RJ9 : String := "java/lang/Math"
def TJ9 : u_T := fun k => match k with
  | _ => ("", "", "", false)
def tyJ9 : Nat → FieldType := fun k => match k with
  | _ => .int
abbrev wsJ90 : List Cond := u_ws RJ9 TJ9 0
theorem nmJ9 : ∀ a, a < 0 → ∀ b, b < 0 → a ≠ b → (TJ9 a).2.1 ≠ (TJ9 b).2.1 := by decide +kernel
theorem tyJ9_ok : ∀ k, k < 0 → parseFieldDescriptor (TJ9 k).2.2.1 = some (tyJ9 k) := by decide +kernel
abbrev cJ9_abs_0f7a4 : ByteArray := prog_16_method_59_code
def yJ9_abs_0f7a4 : MethodName := ⟨RJ9, "abs", "(I)I"⟩
abbrev cJ9_max_7cf53 : ByteArray := prog_16_method_65_code
def yJ9_max_7cf53 : MethodName := ⟨RJ9, "max", "(II)I"⟩
abbrev cJ9_min_7cf53 : ByteArray := prog_16_method_69_code
def yJ9_min_7cf53 : MethodName := ⟨RJ9, "min", "(II)I"⟩
def RJ10 : String := "java/lang/System"
def TJ10 : u_T := fun k => match k with
  | _ => ("", "", "", false)
def tyJ10 : Nat → FieldType := fun k => match k with
  | _ => .int
abbrev wsJ100 : List Cond := u_ws RJ10 TJ10 0
theorem nmJ10 : ∀ a, a < 0 → ∀ b, b < 0 → a ≠ b → (TJ10 a).2.1 ≠ (TJ10 b).2.1 := by decide +kernel
theorem tyJ10_ok : ∀ k, k < 0 → parseFieldDescriptor (TJ10 k).2.2.1 = some (tyJ10 k) := by decide +kernel
def RL : String := "CoalGrateLaw"
abbrev cL_law : ByteArray := code
def yL_law : MethodName := ⟨RL, "law", "([I)Z"⟩
end
section
/-! tables of mine, printed by wip/whole/p02.py: methods by number, classes, shapes of the places -/
def ymL_0 : List (MethodName) := [yX0_init, yX0_sizeOf, yX0_markOf, yX1_init, yX1_sizeOf, yX1_markOf, yX2_init, yX2_sizeOf, yX3_init, yX3_share, yX3_drips, yX3_sizeOf, yX3_markOf, yX4_init, yX4_take, yX4_readInto, yX4_readGrate, yX4_readCoal, yX4_readThing, yX4_readEater, yX4_next, yX4_readSign, yX4_readSort, yX4_readNumber, yX4_fail, yX4_isFigure, yX4_sortOf, yX5_init, yX5_isRow, yX5_isMissing, yX5_sameLane, yX5_hasPlaces, yX5_lay, yX5_get, yX5_put, yX5_carry, yX5_forget, yX5_present, yX6_init, yX6_drips]
def ymL_1 : List (MethodName) := [yX6_sizeOf, yX6_markOf, yX7_init, yX7_markOf, yX8_init, yX8_layCold, yX8_become, yX8_isServed, yX8_isThrough, yX8_isDone, yX8_skinOf, yX8_flip, yX8_heatBy, yX8_roastBy, yX8_rest, yX8_saveIn, yX8_loadFrom, yX9_init, yX9_leave, yX10_init, yX10_clear, yX10_addCoal, yX10_addThing, yX10_addEater, yX10_kindOf, yX10_thingAt, yX10_isEater, yX10_lyingIn, yX10_isOpenTo, yX10_wants, yX10_sunkBy, yX10_warmthIn, yX10_isBeside, yX10_windIn, yX10_roast, yX10_passMinute, yX10_pourWater, yX10_fireOfAll, yX10_minutesOfFire, yX10_servedCount]
def ymL_2 : List (MethodName) := [yX10_hottestBelow, yX10_burntOnes, yX10_doneOnes, yX10_save, yX10_load, yX11_init, yX11_newKinds, yX11_row, yX11_set, yX11_copy, yX11_drop, yX11_found, yX11_answered, yX11_feed, yX11_yard, yX11_fault, yX11_minutes, yX11_turn, yX11_move, yX11_coal, yX11_water, yX11_serve, yX11_undo, yX11_remember, yX11_thing, yX11_eater, yX11_ember, yX11_heat, yX11_asBit, yX11_isCell, yX11_ahead, yX11_heatAhead, yX11_isAhead, yX11_tryAsItLies, yX11_ready, yX11_where, yX11_inTime, yX11_readyAt, yX11_flips, yX11_foretellWarmth]
def ymL_3 : List (MethodName) := [yX11_tryFlips, yX11_tryMinute, yX11_isBetterWay, yX11_start, yX11_isDoneStarting, yX11_fuelFor, yX11_isDoneWithCoal, yX11_servable, yX11_doneAhead, yX11_firstFor, yX11_hand, yX11_judged, yX11_tellsTurns, yX11_tryWholeYard, yX11_fuel, yX11_image, yX11_restore, yX11_isImage, yX11_kind, yX11_as, yX11_isOneOf, yX11_ask, yX11_trace, yX11_count, yX11_status, yX12_init, yX12_in, yX12_has, yX12_found, yX12_well, yX12_isRow, yX12_row, yX12_set, yX12_isSpan, yX12_copy, yX12_drop, yX12_feed, yX12_byteAt, yX12_next, yX12_must]
def ymL_4 : List (MethodName) := [yX12_goesOn, yX12_isLetter, yX12_readSign, yX12_readNumber, yX12_sortOf, yX12_isSort, yX12_readGrate, yX12_readCoal, yX12_isTold, yX12_readThing, yX12_readEater, yX12_yard, yX12_fault, yX12_isYard, yX12_isThing, yX12_isOn, yX12_isGone, yX12_isA, yX12_below, yX12_above, yX12_size, yX12_areBeside, yX12_heatOf, yX12_thick, yX12_need, yX12_limit, yX12_least, yX12_goThing, yX12_goMinute, yX12_remembers, yX12_minutes, yX12_turn, yX12_isTaken, yX12_move, yX12_adds, yX12_coal, yX12_water, yX12_isThrough, yX12_isWell, yX12_servedNow]
def ymL_5 : List (MethodName) := [yX12_serve, yX12_undo, yX12_thing, yX12_eater, yX12_ember, yX12_heat, yX12_holds, yX12_putsBack, yX12_go, yX12_ahead, yX12_heatAhead, yX12_readyIn, yX12_ready, yX12_where, yX12_inTime, yX12_bits, yX12_isWellBy, yX12_flips, yX12_start, yX12_fuelFor, yX12_mayGet, yX12_most, yX12_servable, yX12_setOf, yX12_handles, yX12_hand, yX12_areItems, yX12_judged, yX12_fireNow, yX12_fuel, yX12_image, yX12_restore, yX12_kind, yX12_as, yX12_begins, yX12_lentSize, yX12_lentMark, yX12_sausageMark, yX12_markOfSausages, yX12_sausageSize]
def ymL_6 : List (MethodName) := [yX12_cheeseSize, yX12_sizeOfCheese, yX12_sizeOf, yX12_markOf, yX12_ask, yX12_trace, yX12_count, yX12_status, yJ6_bitCount_0f7a4, yJ9_abs_0f7a4, yJ9_max_7cf53, yJ9_min_7cf53, yL_law]
def ymL : List (MethodName) := ymL_0 ++ (ymL_1 ++ (ymL_2 ++ (ymL_3 ++ (ymL_4 ++ (ymL_5 ++ (ymL_6))))))
def btL_0 : List (ByteArray) := [cX0_init, cX0_sizeOf, cX0_markOf, cX1_init, cX1_sizeOf, cX1_markOf, cX2_init, cX2_sizeOf, cX3_init, cX3_share, cX3_drips, cX3_sizeOf, cX3_markOf, cX4_init, cX4_take, cX4_readInto, cX4_readGrate, cX4_readCoal, cX4_readThing, cX4_readEater, cX4_next, cX4_readSign, cX4_readSort, cX4_readNumber, cX4_fail, cX4_isFigure, cX4_sortOf, cX5_init, cX5_isRow, cX5_isMissing, cX5_sameLane, cX5_hasPlaces, cX5_lay, cX5_get, cX5_put, cX5_carry, cX5_forget, cX5_present, cX6_init, cX6_drips]
def btL_1 : List (ByteArray) := [cX6_sizeOf, cX6_markOf, cX7_init, cX7_markOf, cX8_init, cX8_layCold, cX8_become, cX8_isServed, cX8_isThrough, cX8_isDone, cX8_skinOf, cX8_flip, cX8_heatBy, cX8_roastBy, cX8_rest, cX8_saveIn, cX8_loadFrom, cX9_init, cX9_leave, cX10_init, cX10_clear, cX10_addCoal, cX10_addThing, cX10_addEater, cX10_kindOf, cX10_thingAt, cX10_isEater, cX10_lyingIn, cX10_isOpenTo, cX10_wants, cX10_sunkBy, cX10_warmthIn, cX10_isBeside, cX10_windIn, cX10_roast, cX10_passMinute, cX10_pourWater, cX10_fireOfAll, cX10_minutesOfFire, cX10_servedCount]
def btL_2 : List (ByteArray) := [cX10_hottestBelow, cX10_burntOnes, cX10_doneOnes, cX10_save, cX10_load, cX11_init, cX11_newKinds, cX11_row, cX11_set, cX11_copy, cX11_drop, cX11_found, cX11_answered, cX11_feed, cX11_yard, cX11_fault, cX11_minutes, cX11_turn, cX11_move, cX11_coal, cX11_water, cX11_serve, cX11_undo, cX11_remember, cX11_thing, cX11_eater, cX11_ember, cX11_heat, cX11_asBit, cX11_isCell, cX11_ahead, cX11_heatAhead, cX11_isAhead, cX11_tryAsItLies, cX11_ready, cX11_where, cX11_inTime, cX11_readyAt, cX11_flips, cX11_foretellWarmth]
def btL_3 : List (ByteArray) := [cX11_tryFlips, cX11_tryMinute, cX11_isBetterWay, cX11_start, cX11_isDoneStarting, cX11_fuelFor, cX11_isDoneWithCoal, cX11_servable, cX11_doneAhead, cX11_firstFor, cX11_hand, cX11_judged, cX11_tellsTurns, cX11_tryWholeYard, cX11_fuel, cX11_image, cX11_restore, cX11_isImage, cX11_kind, cX11_as, cX11_isOneOf, cX11_ask, cX11_trace, cX11_count, cX11_status, cX12_init, cX12_in, cX12_has, cX12_found, cX12_well, cX12_isRow, cX12_row, cX12_set, cX12_isSpan, cX12_copy, cX12_drop, cX12_feed, cX12_byteAt, cX12_next, cX12_must]
def btL_4 : List (ByteArray) := [cX12_goesOn, cX12_isLetter, cX12_readSign, cX12_readNumber, cX12_sortOf, cX12_isSort, cX12_readGrate, cX12_readCoal, cX12_isTold, cX12_readThing, cX12_readEater, cX12_yard, cX12_fault, cX12_isYard, cX12_isThing, cX12_isOn, cX12_isGone, cX12_isA, cX12_below, cX12_above, cX12_size, cX12_areBeside, cX12_heatOf, cX12_thick, cX12_need, cX12_limit, cX12_least, cX12_goThing, cX12_goMinute, cX12_remembers, cX12_minutes, cX12_turn, cX12_isTaken, cX12_move, cX12_adds, cX12_coal, cX12_water, cX12_isThrough, cX12_isWell, cX12_servedNow]
def btL_5 : List (ByteArray) := [cX12_serve, cX12_undo, cX12_thing, cX12_eater, cX12_ember, cX12_heat, cX12_holds, cX12_putsBack, cX12_go, cX12_ahead, cX12_heatAhead, cX12_readyIn, cX12_ready, cX12_where, cX12_inTime, cX12_bits, cX12_isWellBy, cX12_flips, cX12_start, cX12_fuelFor, cX12_mayGet, cX12_most, cX12_servable, cX12_setOf, cX12_handles, cX12_hand, cX12_areItems, cX12_judged, cX12_fireNow, cX12_fuel, cX12_image, cX12_restore, cX12_kind, cX12_as, cX12_begins, cX12_lentSize, cX12_lentMark, cX12_sausageMark, cX12_markOfSausages, cX12_sausageSize]
def btL_6 : List (ByteArray) := [cX12_cheeseSize, cX12_sizeOfCheese, cX12_sizeOf, cX12_markOf, cX12_ask, cX12_trace, cX12_count, cX12_status, cJ6_bitCount_0f7a4, cJ9_abs_0f7a4, cJ9_max_7cf53, cJ9_min_7cf53, cL_law]
def btL : List (ByteArray) := btL_0 ++ (btL_1 ++ (btL_2 ++ (btL_3 ++ (btL_4 ++ (btL_5 ++ (btL_6))))))
def mlL_0 : List (Nat) := [5, 3, 3, 5, 3, 3, 5, 3, 5, 2, 1, 3, 3, 1, 2, 3, 2, 4, 5, 4, 1, 2, 2, 6, 3, 1, 1, 2, 2, 2, 3, 4, 5, 3, 5, 6, 2, 3, 5, 1]
def mlL_1 : List (Nat) := [3, 3, 5, 3, 3, 3, 2, 1, 1, 1, 2, 2, 4, 3, 2, 3, 4, 1, 2, 3, 1, 4, 3, 3, 2, 2, 2, 3, 4, 4, 2, 7, 2, 2, 3, 3, 3, 3, 3, 3]
def mlL_2 : List (Nat) := [4, 3, 3, 6, 7, 1, 1, 4, 4, 6, 2, 2, 2, 2, 3, 1, 3, 3, 5, 3, 1, 4, 1, 1, 4, 3, 3, 2, 1, 1, 5, 5, 2, 4, 3, 7, 6, 5, 5, 4]
def mlL_3 : List (Nat) := [7, 7, 3, 6, 6, 5, 6, 7, 4, 5, 6, 6, 7, 1, 2, 2, 2, 1, 3, 4, 2, 4, 2, 2, 1, 2, 3, 2, 2, 2, 1, 5, 5, 4, 8, 2, 2, 2, 2, 3]
def mlL_4 : List (Nat) := [1, 2, 2, 4, 2, 1, 1, 3, 4, 3, 3, 3, 1, 1, 2, 2, 2, 2, 2, 2, 1, 2, 5, 2, 2, 2, 1, 4, 3, 2, 3, 2, 5, 4, 4, 3, 4, 2, 2, 3]
def mlL_5 : List (Nat) := [4, 2, 3, 3, 3, 2, 2, 2, 3, 5, 4, 5, 2, 7, 6, 3, 5, 7, 6, 5, 4, 9, 10, 5, 4, 6, 7, 6, 3, 3, 3, 3, 2, 3, 2, 2, 2, 2, 3, 3]
def mlL_6 : List (Nat) := [2, 2, 2, 3, 3, 2, 4, 1, 1, 1, 2, 2, 4]
def mlL : List (Nat) := mlL_0 ++ (mlL_1 ++ (mlL_2 ++ (mlL_3 ++ (mlL_4 ++ (mlL_5 ++ (mlL_6))))))
def rtL_0 : List (Option FieldType) := [none, (some .int), (some .int), none, (some .int), (some .int), none, (some .int), none, (some .int), (some .boolean), (some .int), (some .int), none, (some .boolean), (some .boolean), none, none, none, none, (some .int), none, (some .int), (some .int), none, (some .boolean), (some .int), none, (some .boolean), (some .boolean), (some .boolean), (some .boolean), none, (some .int), (some .int), none, (some .int), (some .int), none, (some .boolean)]
def rtL_1 : List (Option FieldType) := [(some .int), (some .int), none, (some .int), none, none, none, (some .boolean), (some .boolean), (some .boolean), (some .int), none, (some .int), none, none, none, none, none, none, none, none, none, none, none, (some (.object "CoalGrate$Kind")), (some (.object "CoalGrate$Thing")), (some .boolean), (some (.object "CoalGrate$Thing")), (some .boolean), (some .boolean), (some .int), (some .int), (some .boolean), (some .int), none, none, (some .int), (some .int), (some .int), (some .int)]
def rtL_2 : List (Option FieldType) := [(some (.object "CoalGrate$Thing")), (some .int), (some .int), none, none, none, (some (.array (.object "CoalGrate$Kind"))), (some .int), (some .int), (some .int), (some .int), (some .int), (some .int), (some .int), (some .int), (some .int), (some .int), (some .int), (some .int), (some .int), (some .int), (some .int), (some .int), none, (some .int), (some .int), (some .int), (some .int), (some .int), (some .boolean), (some .int), (some .int), (some .boolean), none, (some .int), (some .int), (some .int), (some .int), (some .int), none]
def rtL_3 : List (Option FieldType) := [none, none, (some .boolean), (some .int), (some .boolean), (some .int), (some .boolean), (some .int), (some .int), (some .int), (some .int), (some .int), (some .boolean), none, (some .int), (some .int), (some .int), (some .boolean), (some .int), (some .int), (some .boolean), (some .int), (some .int), (some .int), (some .int), none, (some .boolean), (some .boolean), (some .int), (some .int), (some .boolean), (some .int), (some .int), (some .boolean), (some .int), (some .int), (some .int), (some .int), none, none]
def rtL_4 : List (Option FieldType) := [none, (some .boolean), none, (some .int), (some .int), (some .boolean), none, none, (some .boolean), none, none, (some .int), (some .int), (some .boolean), (some .boolean), (some .boolean), (some .boolean), (some .boolean), (some .int), (some .int), (some .int), (some .boolean), (some .int), (some .int), (some .int), (some .int), (some .int), none, none, none, (some .int), (some .int), (some .boolean), (some .int), none, (some .int), (some .int), (some .boolean), (some .boolean), (some .int)]
def rtL_5 : List (Option FieldType) := [(some .int), (some .int), (some .int), (some .int), (some .int), (some .int), none, none, none, (some .int), (some .int), (some .int), (some .int), (some .int), (some .int), (some .int), (some .boolean), (some .int), (some .int), (some .int), (some .boolean), (some .int), (some .int), (some .int), (some .int), (some .int), (some .boolean), (some .int), (some .int), (some .int), (some .int), (some .int), (some .int), (some .int), none, (some .int), (some .int), (some .int), (some .int), (some .int)]
def rtL_6 : List (Option FieldType) := [(some .int), (some .int), (some .int), (some .int), (some .int), (some .int), (some .int), (some .int), (some .int), (some .int), (some .int), (some .int), (some .boolean)]
def rtL : List (Option FieldType) := rtL_0 ++ (rtL_1 ++ (rtL_2 ++ (rtL_3 ++ (rtL_4 ++ (rtL_5 ++ (rtL_6))))))
def naL_0 : List (Nat) := [4, 2, 2, 4, 2, 2, 4, 2, 4, 1, 0, 2, 2, 0, 1, 1, 1, 1, 1, 1, 0, 1, 0, 2, 2, 1, 1, 0, 1, 1, 2, 3, 3, 2, 3, 5, 1, 0, 4, 0]
def naL_1 : List (Nat) := [2, 2, 4, 2, 2, 2, 1, 0, 0, 0, 1, 0, 2, 2, 1, 2, 3, 0, 1, 1, 0, 3, 2, 2, 1, 1, 1, 1, 2, 3, 1, 2, 2, 1, 2, 0, 0, 0, 0, 0]
def naL_2 : List (Nat) := [0, 0, 0, 2, 2, 0, 0, 3, 3, 5, 1, 1, 1, 1, 0, 0, 1, 1, 2, 2, 0, 2, 0, 0, 2, 2, 2, 1, 1, 1, 3, 2, 2, 2, 1, 1, 2, 3, 3, 2]
def naL_3 : List (Nat) := [6, 6, 1, 3, 4, 2, 3, 2, 1, 3, 2, 3, 3, 0, 0, 1, 1, 1, 1, 2, 2, 2, 1, 1, 0, 0, 3, 2, 1, 1, 1, 3, 3, 3, 5, 1, 1, 1, 0, 2]
def naL_4 : List (Nat) := [0, 1, 1, 2, 1, 0, 0, 0, 1, 0, 0, 0, 0, 0, 1, 1, 1, 2, 1, 1, 1, 2, 1, 1, 1, 1, 1, 1, 0, 0, 1, 1, 2, 2, 2, 2, 0, 1, 1, 0]
def naL_5 : List (Nat) := [2, 0, 2, 2, 2, 1, 0, 0, 1, 3, 2, 2, 1, 1, 2, 1, 3, 3, 3, 2, 3, 3, 2, 1, 0, 2, 3, 3, 0, 0, 1, 1, 1, 2, 1, 1, 1, 1, 1, 1]
def naL_6 : List (Nat) := [1, 1, 1, 1, 2, 1, 1, 0, 1, 1, 2, 2, 1]
def naL : List (Nat) := naL_0 ++ (naL_1 ++ (naL_2 ++ (naL_3 ++ (naL_4 ++ (naL_5 ++ (naL_6))))))
def ym (M : Nat) : MethodName := ymL.getD M yL_law
def bt (M : Nat) : ByteArray := btL.getD M code
def ml (M : Nat) : Nat := mlL.getD M 4
def rt (M : Nat) : Option FieldType := rtL.getD M none
def na (M : Nat) : Nat := naL.getD M 0
def mcL_0 : List (Nat) := [0, 0, 0, 0, 0, 0, 0, 0, 0, 0, 0, 0, 0, 1, 0, 0, 0, 0, 0, 0, 0, 0, 0, 0, 0, 0, 0, 3, 0, 0, 0, 0, 0, 0, 0, 0, 0, 0, 0, 0]
def mcL_1 : List (Nat) := [0, 0, 0, 0, 0, 0, 0, 0, 0, 0, 0, 0, 0, 0, 0, 0, 0, 1, 0, 13, 0, 0, 0, 0, 0, 0, 0, 0, 0, 0, 0, 0, 0, 0, 0, 0, 0, 0, 0, 0]
def mcL_2 : List (Nat) := [0, 0, 0, 0, 0, 49, 7, 0, 0, 0, 0, 0, 0, 0, 0, 0, 0, 0, 0, 0, 0, 0, 0, 0, 0, 0, 0, 0, 0, 0, 0, 0, 0, 0, 0, 0, 0, 0, 0, 0]
def mcL_3 : List (Nat) := [0, 0, 0, 0, 0, 0, 0, 0, 0, 0, 0, 0, 0, 0, 0, 0, 0, 0, 0, 0, 0, 0, 0, 0, 0, 14, 0, 0, 0, 0, 0, 0, 0, 0, 0, 0, 0, 0, 0, 0]
def mcL_4 : List (Nat) := [0, 0, 0, 0, 0, 0, 0, 0, 0, 0, 0, 0, 0, 0, 0, 0, 0, 0, 0, 0, 0, 0, 0, 0, 0, 0, 0, 0, 0, 0, 0, 0, 0, 0, 0, 0, 0, 0, 0, 0]
def mcL_5 : List (Nat) := [0, 0, 0, 0, 0, 0, 0, 0, 0, 0, 0, 0, 0, 0, 0, 0, 0, 0, 0, 0, 0, 0, 0, 0, 0, 0, 0, 0, 0, 0, 0, 0, 0, 0, 0, 0, 0, 0, 0, 0]
def mcL_6 : List (Nat) := [0, 0, 0, 0, 0, 0, 0, 0, 0, 0, 0, 0, 600000]
def mcL : List (Nat) := mcL_0 ++ (mcL_1 ++ (mcL_2 ++ (mcL_3 ++ (mcL_4 ++ (mcL_5 ++ (mcL_6))))))
def msL_0 : List (Nat) := [0, 0, 0, 0, 0, 0, 0, 0, 0, 0, 0, 0, 0, 160, 0, 0, 0, 0, 0, 0, 0, 0, 0, 0, 0, 0, 0, 336, 0, 0, 0, 0, 0, 0, 0, 0, 0, 0, 0, 0]
def msL_1 : List (Nat) := [0, 0, 0, 0, 0, 0, 0, 0, 0, 0, 0, 0, 0, 0, 0, 0, 0, 16, 0, 90, 0, 0, 0, 0, 0, 0, 0, 0, 0, 0, 0, 0, 0, 0, 0, 0, 0, 0, 0, 0]
def msL_2 : List (Nat) := [0, 0, 0, 0, 0, 3099, 30, 0, 0, 0, 0, 0, 0, 0, 0, 0, 0, 0, 0, 0, 0, 0, 0, 0, 0, 0, 0, 0, 0, 0, 0, 0, 0, 0, 0, 0, 0, 0, 0, 0]
def msL_3 : List (Nat) := [0, 0, 0, 0, 0, 0, 0, 0, 0, 0, 0, 0, 0, 0, 0, 0, 0, 0, 0, 0, 0, 0, 0, 0, 0, 2520, 0, 0, 0, 0, 0, 0, 0, 0, 0, 0, 0, 0, 0, 0]
def msL_4 : List (Nat) := [0, 0, 0, 0, 0, 0, 0, 0, 0, 0, 0, 0, 0, 0, 0, 0, 0, 0, 0, 0, 0, 0, 0, 0, 0, 0, 0, 0, 0, 0, 0, 0, 0, 0, 0, 0, 0, 0, 0, 0]
def msL_5 : List (Nat) := [0, 0, 0, 0, 0, 0, 0, 0, 0, 0, 0, 0, 0, 0, 0, 0, 0, 0, 0, 0, 0, 0, 0, 0, 0, 0, 0, 0, 0, 0, 0, 0, 0, 0, 0, 0, 0, 0, 0, 0]
def msL_6 : List (Nat) := [0, 0, 0, 0, 0, 0, 0, 0, 0, 0, 0, 0, 7302250]
def msL : List (Nat) := msL_0 ++ (msL_1 ++ (msL_2 ++ (msL_3 ++ (msL_4 ++ (msL_5 ++ (msL_6))))))
def mc (M : Nat) : Nat := mcL.getD M 0
def ms (M : Nat) : Nat := msL.getD M 0
abbrev classes : List vw_C := [(RX0, TX0, 4), (RX1, TX1, 4), (RX2, TX2, 4), (RX3, TX3, 4), (RX4, TX4, 6), (RX5, TX5, 3), (RX6, TX6, 4), (RX7, TX7, 4), (RX8, TX8, 8), (RX9, TX9, 2), (RX10, TX10, 14), (RX11, TX11, 17), (RX12, TX12, 24)]
def FKL : List (List Bool) := [[true, true, true, true], [true, true, true, true], [true, true, true, true], [true, true, true, true], [false, true, true, true, true, true], [false, false, false], [true, true, true, true], [true, true, true, true], [true, false, true, true, true, true, true, true], [false, true], [false, true, true, true, true, false, false, false, true, false, true, false, false, false], [false, false, false, false, false, false, false, true, false, true, true, false, false, false, false, true, true], [false, false, false, false, true, false, false, false, true, false, true, true, true, true, true, true, true, false, false, false, false, false, false, true]]
def FK (c : Nat) : List Bool := FKL.getD c []
def SHL : List (Nat × Nat) := [(0, 11), (0, 5), (1, 320), (1, 8), (1, 8), (0, 4), (1, 160), (0, 9), (1, 16), (3, 6), (0, 3), (0, 6), (0, 1), (0, 7), (0, 0), (0, 2), (0, 8), (0, 10), (1, 8), (1, 8), (1, 8), (4, 6), (1, 4), (1, 4), (1, 4), (0, 8), (0, 8), (0, 8), (0, 8), (0, 8), (0, 8), (0, 10), (1, 8), (1, 8), (1, 8), (4, 6), (1, 4), (1, 4), (1, 4), (0, 8), (0, 8), (0, 8), (0, 8), (0, 8), (0, 8), (1, 2016), (1, 168), (2, 2), (1, 84), (1, 60), (0, 12), (1, 85), (1, 170), (2, 2), (1, 1584), (1, 8), (1, 8), (1, 320), (1, 160), (1, 85), (1, 6), (1, 66), (2, 6), (1, 4), (1, 16)]
def SH (k : Nat) : Nat × Nat := SHL.getD k (9, 0)
def fet (M pc : Nat) : Except DecodeError (Instr × Nat) := decode (bt M) pc
def nestL : List (String × Nat × MethodName × String) := [("CoalGrate", 18, ⟨"CoalGrate$Reader", "<init>", "()V"⟩, "CoalGrate"), ("CoalGrate", 25, ⟨"CoalGrate$Trace", "<init>", "()V"⟩, "CoalGrate"), ("CoalGrate$Yard", 68, ⟨"CoalGrate", "isCell", "(I)Z"⟩, "CoalGrate"), ("CoalGrate$Thing", 67, ⟨"CoalGrate", "asBit", "(Z)I"⟩, "CoalGrate"), ("CoalGrate$Yard", 134, ⟨"CoalGrate", "asBit", "(Z)I"⟩, "CoalGrate"), ("CoalGrate$Rows", 29, ⟨"CoalGrate", "asBit", "(Z)I"⟩, "CoalGrate")]
def castL : List (String × String) := [("CoalGrate$Chicken", "CoalGrate$Sausage"), ("CoalGrate$Thin", "CoalGrate$Sausage"), ("CoalGrate$Corn", "CoalGrate$Cheese"), ("CoalGrate$Sausage", "CoalGrate$Kind"), ("CoalGrate$Chicken", "CoalGrate$Kind"), ("CoalGrate$Thin", "CoalGrate$Kind"), ("CoalGrate$Cheese", "CoalGrate$Kind"), ("CoalGrate$Corn", "CoalGrate$Kind")]
def nocastL : List (String × String) := [("CoalGrate$Kind", "CoalGrate$Sausage"), ("CoalGrate$Cheese", "CoalGrate$Sausage"), ("CoalGrate$Corn", "CoalGrate$Sausage"), ("CoalGrate$Kind", "CoalGrate$Chicken"), ("CoalGrate$Sausage", "CoalGrate$Chicken"), ("CoalGrate$Thin", "CoalGrate$Chicken"), ("CoalGrate$Cheese", "CoalGrate$Chicken"), ("CoalGrate$Corn", "CoalGrate$Chicken"), ("CoalGrate$Kind", "CoalGrate$Thin"), ("CoalGrate$Sausage", "CoalGrate$Thin"), ("CoalGrate$Chicken", "CoalGrate$Thin"), ("CoalGrate$Cheese", "CoalGrate$Thin"), ("CoalGrate$Corn", "CoalGrate$Thin"), ("CoalGrate$Kind", "CoalGrate$Cheese"), ("CoalGrate$Sausage", "CoalGrate$Cheese"), ("CoalGrate$Chicken", "CoalGrate$Cheese"), ("CoalGrate$Thin", "CoalGrate$Cheese"), ("CoalGrate$Kind", "CoalGrate$Corn"), ("CoalGrate$Sausage", "CoalGrate$Corn"), ("CoalGrate$Chicken", "CoalGrate$Corn"), ("CoalGrate$Thin", "CoalGrate$Corn"), ("CoalGrate$Cheese", "CoalGrate$Corn")]
def overL : List String := ["CoalGrate$Kind", "CoalGrate$Thing"]
end
section
/-! the machine seen from afar: places instead of addresses; one heap of ints and of references, by place and slot -/
abbrev AV : Type := Int32 ⊕ (Int64 ⊕ Option Nat)
abbrev vI (x : Int32) : AV := Sum.inl x
abbrev vL (x : Int64) : AV := Sum.inr (Sum.inl x)
abbrev vR (o : Option Nat) : AV := Sum.inr (Sum.inr o)
abbrev Hp : Type := Nat × (Nat → Nat → Int32) × (Nat → Nat → Option Nat)
abbrev hn (h : Hp) : Nat := h.1
def hi (h : Hp) : Nat → Nat → Int32 := h.2.1
def hr (h : Hp) : Nat → Nat → Option Nat := h.2.2
def seti (h : Hp) (k j : Nat) (v : Int32) : Hp := (h.1, fun a => if a = k then upd (h.2.1 k) j v else h.2.1 a, h.2.2)
def setr (h : Hp) (k j : Nat) (v : Option Nat) : Hp := (h.1, h.2.1, fun a => if a = k then va_up (h.2.2 k) j v else h.2.2 a)
def setw (h : Hp) (k : Nat) (f : Nat → Int32) : Hp := (h.1, fun a => if a = k then f else h.2.1 a, h.2.2)
def grow (h : Hp) : Hp := (h.1 + 1, fun a => if a = h.1 then (fun _ => 0) else h.2.1 a, fun a => if a = h.1 then (fun _ => none) else h.2.2 a)
def cv (ad : Nat → Nat) : AV → Value
  | .inl x => .int x
  | .inr (.inl x) => .long x
  | .inr (.inr o) => va_rf (o.map ad)
def isL : AV → Bool
  | .inr (.inl _) => true
  | _ => false
def wt : AV → Nat
  | .inr (.inl _) => 2
  | _ => 1
def lc (ad : Nat → Nat) (ls : List (Nat × AV)) : List (Nat × Value) := ls.map (fun q => (q.1, cv ad q.2))
def stL (i : Nat) (v : AV) (ls : List (Nat × AV)) : List (Nat × AV) := (i, v) :: ls.filter (fun q => !(q.1 == i) && !(q.1 + 1 == i && isL q.2))
def lk : List (Nat × AV) → Nat → Option AV
  | [], _ => none
  | (j, v) :: t, i => if j == i then some v else lk t i
def la : Nat → List AV → List (Nat × AV)
  | _, [] => []
  | i, v :: t => (i, v) :: la (i + 1) t
theorem cv_cat (ad : Nat → Nat) (v : AV) : (cv ad v).category = wt v := by
  rcases v with x | x | o
  · rfl
  · rfl
  · cases o <;> rfl
theorem wt_isL (v : AV) : (wt v == 2) = isL v := by
  rcases v with x | x | o <;> rfl
theorem lk_mem {ls : List (Nat × AV)} {i : Nat} {v : AV} (h : lk ls i = some v) : (i, v) ∈ ls := by
  induction ls with
  | nil => cases h
  | cons q t ih =>
    obtain ⟨j, w⟩ := q
    unfold lk at h
    by_cases hj : (j == i) = true
    · rw [if_pos hj] at h
      have : j = i := by simpa using hj
      subst this
      cases h
      exact List.mem_cons_self
    · rw [if_neg hj] at h
      exact List.mem_cons_of_mem _ (ih h)
theorem lc_lk {ad : Nat → Nat} {lsC : Array Slot} {nL : Nat} {ls : List (Nat × AV)} {i : Nat} {v : AV} (hl : lv_has lsC nL (lc ad ls)) (h : lk ls i = some v) : lsC[i]? = some (.val (cv ad v)) :=
  hl.2.2 (i, cv ad v) (List.mem_map.mpr ⟨(i, v), lk_mem h, rfl⟩)
theorem lc_st (ad : Nat → Nat) (i : Nat) (v : AV) (ls : List (Nat × AV)) : (i, cv ad v) :: (lc ad ls).filter (fun q => !(q.1 == i) && !(q.1 + 1 == i && q.2.category == 2)) = lc ad (stL i v ls) := by
  unfold lc stL
  rw [List.filter_map, List.map_cons]
  congr 2
  apply List.filter_congr
  intro q _
  simp [Function.comp, cv_cat, ← wt_isL]
theorem la_args (ad : Nat → Nat) (args : List AV) (hnl : args.all (fun v => !isL v) = true) : ∀ i, lv_args i (args.map (cv ad)) = lc ad (la i args) := by
  induction args with
  | nil => intro i; rfl
  | cons v t ih =>
    intro i
    simp only [List.all_cons, Bool.and_eq_true] at hnl
    have hc : (cv ad v).category ≠ 2 := by
      rw [cv_cat]
      rcases v with x | x | o
      · show (1 : Nat) ≠ 2; decide
      · simp [isL] at hnl
      · show (1 : Nat) ≠ 2; decide
    simp only [List.map_cons, lv_args, if_neg hc, la, lc]
    congr 1
    exact ih hnl.2 (i + 1)
theorem la_len (ad : Nat → Nat) (args : List AV) (hnl : args.all (fun v => !isL v) = true) : (lg_sl (args.map (cv ad))).length = args.length := by
  induction args with
  | nil => rfl
  | cons v t ih =>
    simp only [List.all_cons, Bool.and_eq_true] at hnl
    have hc : (cv ad v).category ≠ 2 := by
      rw [cv_cat]
      rcases v with x | x | o
      · show (1 : Nat) ≠ 2; decide
      · simp [isL] at hnl
      · show (1 : Nat) ≠ 2; decide
    have e : lg_sl ((v :: t).map (cv ad)) = .val (cv ad v) :: lg_sl (t.map (cv ad)) := by
      simp [lg_sl, hc]
    rw [e, List.length_cons, ih hnl.2, List.length_cons]
/-! the cells -/
abbrev En : Type := va_G × ClassId × ClassId × ClassId × ClassId
def tysE (E : En) : List (ClassId × FieldType) := [(E.2.1, .int), (E.2.2.1, .boolean), (E.2.2.2.1, .object RX3), (E.2.2.2.2, .object RX8)]
def fv (ad : Nat → Nat) (f : Nat → Int32) (g : Nat → Option Nat) : Nat → List Bool → List Value
  | _, [] => []
  | j, true :: t => .int (f j) :: fv ad f g (j + 1) t
  | j, false :: t => va_rf ((g j).map ad) :: fv ad f g (j + 1) t
def rrow (g : Nat → Option Nat) (ad : Nat → Nat) : Nat → Option Nat := fun j => (g j).map ad
def cell (E : En) (ad : Nat → Nat) (h : Hp) (k : Nat) : va_E :=
  match SH k with
  | (0, ci) => .inr (ci, fv ad (hi h k) (hr h k) 0 (FK ci))
  | (1, n) => .inl (E.2.1, n, .inl (hi h k))
  | (2, n) => .inl (E.2.2.1, n, .inl (hi h k))
  | (3, n) => .inl (E.2.2.2.1, n, .inr (.inr (.inr (.inr (rrow (hr h k) ad)))))
  | (_, n) => .inl (E.2.2.2.2, n, .inr (.inr (.inr (.inr (rrow (hr h k) ad)))))
def toW (E : En) (ad : Nat → Nat) (h : Hp) : va_W := (List.range (hn h)).map (fun k => (ad k, cell E ad h k))
theorem fv_len (ad : Nat → Nat) (f : Nat → Int32) (g : Nat → Option Nat) (l : List Bool) : ∀ j, (fv ad f g j l).length = l.length := by
  induction l with
  | nil => intro j; rfl
  | cons b t ih => intro j; cases b <;> simp [fv, ih]
theorem fv_get {ad : Nat → Nat} {f : Nat → Int32} {g : Nat → Option Nat} : ∀ (l : List Bool) (j i : Nat) (b : Bool), l[i]? = some b → (fv ad f g j l)[i]? = some (if b then .int (f (j + i)) else va_rf ((g (j + i)).map ad)) := by
  intro l
  induction l with
  | nil => intro j i b h; simp at h
  | cons c t ih =>
    intro j i b h
    cases i with
    | zero =>
      simp at h
      subst h
      cases c <;> simp [fv]
    | succ i =>
      simp only [List.getElem?_cons_succ] at h
      have e := ih (j + 1) i b h
      rw [show j + 1 + i = j + (i + 1) by omega] at e
      cases c <;> simp [fv, e]
theorem fv_above {ad : Nat → Nat} {f f' : Nat → Int32} {g g' : Nat → Option Nat} : ∀ (l : List Bool) (j : Nat), (∀ q, j ≤ q → f' q = f q) → (∀ q, j ≤ q → g' q = g q) → fv ad f' g' j l = fv ad f g j l := by
  intro l
  induction l with
  | nil => intro j _ _; rfl
  | cons c t ih =>
    intro j h1 h2
    have e := ih (j + 1) (fun q hq => h1 q (by omega)) (fun q hq => h2 q (by omega))
    cases c <;> simp [fv, e, h1 j (Nat.le_refl j), h2 j (Nat.le_refl j)]
theorem fv_setI {ad : Nat → Nat} {f : Nat → Int32} {g : Nat → Option Nat} {v : Int32} : ∀ (l : List Bool) (j i : Nat), l[i]? = some true → (fv ad f g j l).set i (.int v) = fv ad (upd f (j + i) v) g j l := by
  intro l
  induction l with
  | nil => intro j i h; simp at h
  | cons c t ih =>
    intro j i h
    cases i with
    | zero =>
      simp at h
      subst h
      have e := fv_above (ad := ad) (f := f) (f' := upd f j v) (g := g) (g' := g) t (j + 1) (fun q hq => by have hne : q ≠ j := by omega
                                                                                                            simp [upd, hne]) (fun _ _ => rfl)
      simp only [fv, Nat.add_zero, List.set_cons_zero]
      rw [e]
      simp [upd]
    | succ i =>
      simp only [List.getElem?_cons_succ] at h
      have e := ih (j + 1) i h
      rw [show j + 1 + i = j + (i + 1) by omega] at e
      cases c <;> simp [fv, e, upd] <;> omega
theorem fv_setR {ad : Nat → Nat} {f : Nat → Int32} {g : Nat → Option Nat} {v : Option Nat} : ∀ (l : List Bool) (j i : Nat), l[i]? = some false → (fv ad f g j l).set i (va_rf (v.map ad)) = fv ad f (va_up g (j + i) v) j l := by
  intro l
  induction l with
  | nil => intro j i h; simp at h
  | cons c t ih =>
    intro j i h
    cases i with
    | zero =>
      simp at h
      subst h
      have hg : ∀ q, j + 1 ≤ q → va_up g j v q = g q := by
        intro q hq
        have hne : q ≠ j := by omega
        simp [va_up, hne]
      have e := fv_above (ad := ad) (f := f) (f' := f) (g := g) (g' := va_up g j v) t (j + 1) (fun _ _ => rfl) hg
      simp only [fv, Nat.add_zero, List.set_cons_zero]
      rw [e]
      simp [va_up]
    | succ i =>
      simp only [List.getElem?_cons_succ] at h
      have e := ih (j + 1) i h
      rw [show j + 1 + i = j + (i + 1) by omega] at e
      cases c <;> simp [fv, e, va_up] <;> omega
theorem toW_at {E : En} {ad : Nat → Nat} {h : Hp} {k : Nat} (hk : k < hn h) : (toW E ad h)[k]? = some (ad k, cell E ad h k) := by
  simp [toW, hk]
theorem toW_len (E : En) (ad : Nat → Nat) (h : Hp) : (toW E ad h).length = hn h := by simp [toW]
theorem cell_congr {E : En} {ad : Nat → Nat} {h h' : Hp} {k : Nat} (h1 : hi h' k = hi h k) (h2 : hr h' k = hr h k) : cell E ad h' k = cell E ad h k := by
  unfold cell
  rw [h1, h2]
theorem toW_set {E : En} {ad : Nat → Nat} {h h' : Hp} {k : Nat} {e : va_E} (hl : hn h' = hn h) (hc : e = cell E ad h' k) (h1 : ∀ a, a ≠ k → hi h' a = hi h a) (h2 : ∀ a, a ≠ k → hr h' a = hr h a) : (toW E ad h).set k (ad k, e) = toW E ad h' := by
  subst hc
  apply List.ext_getElem?
  intro i
  rw [List.getElem?_set]
  by_cases hik : k = i
  · subst hik
    rw [if_pos rfl]
    by_cases hlt : k < hn h
    · rw [toW_at (h := h') (by rw [hl]; exact hlt)]
      simp [toW_len, hlt]
    · simp [toW, hl, hlt]
  · rw [if_neg hik]
    by_cases hlt : i < hn h
    · rw [toW_at hlt, toW_at (h := h') (by rw [hl]; exact hlt), cell_congr (h1 i (fun q => hik q.symm)) (h2 i (fun q => hik q.symm))]
    · simp [toW, hl, hlt]
theorem hi_seti (h : Hp) (k j : Nat) (v : Int32) (a b : Nat) : hi (seti h k j v) a b = if a = k ∧ b = j then v else hi h a b := by
  unfold hi seti upd
  by_cases ha : a = k
  · subst ha
    by_cases hb : b = j <;> simp [hb]
  · simp [ha]
theorem hr_seti (h : Hp) (k j : Nat) (v : Int32) : hr (seti h k j v) = hr h := rfl
theorem hi_setr (h : Hp) (k j : Nat) (v : Option Nat) : hi (setr h k j v) = hi h := rfl
theorem hr_setr (h : Hp) (k j : Nat) (v : Option Nat) (a b : Nat) : hr (setr h k j v) a b = if a = k ∧ b = j then v else hr h a b := by
  unfold hr setr va_up
  by_cases ha : a = k
  · subst ha
    by_cases hb : b = j <;> simp [hb]
  · simp [ha]
theorem hi_setw (h : Hp) (k : Nat) (f : Nat → Int32) (a b : Nat) : hi (setw h k f) a b = if a = k then f b else hi h a b := by
  unfold hi setw
  by_cases ha : a = k <;> simp [ha]
theorem hr_setw (h : Hp) (k : Nat) (f : Nat → Int32) : hr (setw h k f) = hr h := rfl
theorem hi_seti_row (h : Hp) (k j : Nat) (v : Int32) : hi (seti h k j v) k = upd (hi h k) j v := by simp [hi, seti]
theorem hi_seti_ne (h : Hp) (k j : Nat) (v : Int32) (a : Nat) (ha : a ≠ k) : hi (seti h k j v) a = hi h a := by simp [hi, seti, ha]
theorem hr_setr_row (h : Hp) (k j : Nat) (v : Option Nat) : hr (setr h k j v) k = va_up (hr h k) j v := by simp [hr, setr]
theorem hr_setr_ne (h : Hp) (k j : Nat) (v : Option Nat) (a : Nat) (ha : a ≠ k) : hr (setr h k j v) a = hr h a := by simp [hr, setr, ha]
theorem hi_setw_row (h : Hp) (k : Nat) (f : Nat → Int32) : hi (setw h k f) k = f := by simp [hi, setw]
theorem hi_setw_ne (h : Hp) (k : Nat) (f : Nat → Int32) (a : Nat) (ha : a ≠ k) : hi (setw h k f) a = hi h a := by simp [hi, setw, ha]
theorem rrow_up (g : Nat → Option Nat) (ad : Nat → Nat) (j : Nat) (v : Option Nat) : rrow (va_up g j v) ad = va_up (rrow g ad) j (v.map ad) := by
  funext q
  by_cases hq : q = j <;> simp [rrow, va_up, hq]
end
section
/-! judgements: OKX (what a frame stands on), WD (the world), RT (how it ends), wp (from here on), Spec (a method) -/
def TBL : List Cond := lw_tbl.filter goodWord
theorem tb {w : Cond} (i : Nat) (h : lw_tbl[i]? = some w) (hg : goodWord w = true) : w ∈ TBL := List.mem_filter.mpr ⟨List.mem_of_getElem? h, hg⟩
theorem tbl_good {w : Cond} (h : w ∈ TBL) : (w.onTables && w.keeps) = true ∨ ∃ ty, w = .arrayClass ty := good_of_word (List.mem_filter.mp h).2
def own (M : Nat) : String := (ym M).cls
def WS (M : Nat) : List Cond := .code (ym M) (bt M) (ml M) (rt M) :: TBL
theorem good_ws {M : Nat} (hc : Cond.code (ym M) (bt M) (ml M) (rt M) ∈ TBL) : GoodIn TBL (WS M) := by
  intro w hw
  rcases List.mem_cons.mp hw with rfl | h
  · exact ⟨hc, tbl_good hc⟩
  · exact ⟨h, tbl_good h⟩
theorem good_app {a b : List Cond} (ha : ∀ w ∈ a, w ∈ TBL) (hb : GoodIn TBL b) : GoodIn TBL (a ++ b) := by
  intro w hw
  rcases List.mem_append.mp hw with h | h
  · exact ⟨ha w h, tbl_good (ha w h)⟩
  · exact hb w h
def NC (s : State) : Prop := (∀ q ∈ nestL, va_Nw (.methodLinkNest q.1 q.2.1 q.2.2.1 q.2.2.2) s) ∧ (∀ q ∈ castL, va_Nw (.castable q.1 q.2) s) ∧ (∀ q ∈ nocastL, va_Nc q.1 q.2 s) ∧ (∀ C ∈ overL, va_AO C s)
def rmD (d M : Nat) : Room := { frames := d, cells := mc M, slots := ms M, locals := 40 * d }
def OKX (p : Program) (R : Room) (s : State) (m : MethodId) (args : Array Value) (meth : Method) (c : Code) (A : Nat → Prop) (E : En) (d M : Nat) : Prop :=
  p.tables.exec = Jvm.exec ∧ c.code = bt M ∧ c.maxLocals = ml M ∧ s.vm.findClass (own M) = some m.cls ∧ (∀ w ∈ TBL, w.before args s = true) ∧ va_K E.1 classes (tysE E) s ∧ (∀ q, s.heap.size ≤ q → A q) ∧ NC s ∧ d ≤ R.frames ∧ 40 * d ≤ R.locals ∧ mc M ≤ R.cells ∧ ms M ≤ R.slots ∧ meth.name = (ym M).name
def WD (E : En) (A : Nat → Prop) (ad : Nat → Nat) (h : Hp) (H0 H : Heap) (locs : List Loc) : Prop := va_P E.1 classes (toW E ad h) H ∧ va_D A (toW E ad h) ∧ va_S A H0 H locs
def RI (M pc : Nat) (r : Option AV) : Prop := match r with
  | none => fet M pc = .ok (.return_, 1) ∧ rt M = none
  | some (.inl x) => fet M pc = .ok (.ireturn, 1) ∧ ∃ t, rt M = some t ∧ narrow t (.int x) = .int x
  | some (.inr (.inr _)) => fet M pc = .ok (.areturn, 1) ∧ ∃ t, rt M = some t ∧ ((∃ n, t = .object n) ∨ ∃ u, t = .array u)
  | _ => False
def RT (p : Program) (l : Launch) (e : Env) (R : Room) (s : State) (m : MethodId) (args : Array Value) (below : List Frame) (meth : Method) (c : Code) (A : Nat → Prop) (Z : State → Prop) (E : En) (ad : Nat → Nat) (n M : Nat) (Q : Option AV → Hp → Prop) : Prop :=
  ∀ (ad' : Nat → Nat) (r : Option AV) (h1 : Hp) (H : Heap) (locs : List Loc) (kc ks pc : Nat) (lsC : Array Slot), (∀ k, k < n → ad' k = ad k) → n ≤ hn h1 → (mc M = 0 → ad' = ad ∧ hn h1 = n) → Q r h1 → WD E A ad' h1 s.heap H locs → kc ≤ mc M → ks ≤ ms M → RI M pc r → W p l e R s m args below meth c H locs kc ks Z (F0 m pc lsC (r.toList.map (cv ad')))
def wp (d M : Nat) (Q : Option AV → Hp → Prop) (kc ks pc : Nat) (ls : List (Nat × AV)) (st : List AV) (h : Hp) : Prop :=
  ∀ (p : Program) (l : Launch) (e : Env) (R : Room) (s : State) (m : MethodId) (args : Array Value) (below : List Frame) (meth : Method) (c : Code) (A : Nat → Prop) (Z : State → Prop) (E : En) (ad : Nat → Nat) (H : Heap) (locs : List Loc) (lsC : Array Slot),
    OKX p R s m args meth c A E d M → RT p l e R s m args below meth c A Z E ad (hn h) M Q → WD E A ad h s.heap H locs → lv_has lsC (ml M) (lc ad ls) → kc ≤ mc M → ks ≤ ms M → W p l e R s m args below meth c H locs kc ks Z (F0 m pc lsC (st.map (cv ad)))
def World (E : En) (ad : Nat → Nat) (h : Hp) (U : State) : Prop := va_P E.1 classes (toW E ad h) U.heap ∧ va_K E.1 classes (tysE E) U ∧ NC U
def PreC (E : En) (ad : Nat → Nat) (h : Hp) (av : List AV) (sz : Nat) : Array Value → State → Prop := va_Pc (av.map (cv ad)) (fun U => U.heap.size = sz ∧ World E ad h U ∧ va_D (fun _ => True) (toW E ad h))
def PostC (E : En) (ad : Nat → Nat) (h : Hp) (Q : Option AV → Hp → Prop) (M sz : Nat) : Array Value → State → Outcome → State → Prop := fun _ st oc t =>
  (∃ (r : Option AV) (h1 : Hp) (ad' : Nat → Nat), (∀ k, k < hn h → ad' k = ad k) ∧ hn h ≤ hn h1 ∧ (mc M = 0 → ad' = ad ∧ hn h1 = hn h) ∧ oc = .returned (r.map (cv ad')) ∧ Q r h1 ∧ va_P E.1 classes (toW E ad' h1) t.heap ∧ va_D (va_A (toW E ad h) sz) (toW E ad' h1)) ∧ va_F (va_A (toW E ad h) sz) st t
def Spec (d M : Nat) (av : List AV) (h : Hp) (Q : Option AV → Hp → Prop) : Prop := ∀ (l : Launch) (E : En) (ad : Nat → Nat) (sz : Nat), Met l (ym M) (WS M) (rmD d M) (PreC E ad h av sz) (PostC E ad h Q M sz) (mc M) (ms M) (va_A (toW E ad h) sz)
theorem NC.warm {s U : State} (hW : s.WarmedH U.vm) (h : NC s) : NC U :=
  ⟨fun q hq => va_Nw.warmM hW (h.1 q hq), fun q hq => va_Nw.warmC hW (h.2.1 q hq), fun q hq => (h.2.2.1 q hq).moved hW.alike, fun C hC => va_AO.moved hW.alike (h.2.2.2 C hC)⟩
theorem NC.same {s U : State} (hv : s.vm = U.vm) (h : NC s) : NC U :=
  ⟨fun q hq => va_Nw.same rfl hv (h.1 q hq), fun q hq => va_Nw.same rfl hv (h.2.1 q hq), fun q hq => (h.2.2.1 q hq).moved (by rw [hv]; exact Vm.Alike.refl _), fun C hC => va_AO.moved (by rw [hv]; exact Vm.Alike.refl _) (h.2.2.2 C hC)⟩
theorem PreC.blind {E : En} {ad : Nat → Nat} {h : Hp} {av : List AV} {sz : Nat} : FrameBlind (PreC E ad h av sz) := by
  intro a U g mk q
  obtain ⟨q0, q1, ⟨qP, qK, qN⟩, qD⟩ := q
  exact ⟨q0, q1, ⟨qP, va_K.moved (u := U) (U := U.calling g mk a) (Vm.Alike.refl U.vm) qK, NC.same (s := U) (U := U.calling g mk a) rfl qN⟩, qD⟩
end
section
/-! rules of wp, an instruction each (printed by wip/whole/p05.py) -/
section Rules
variable {d M : Nat} {Q : Option AV → Hp → Prop} {kc ks pc pc' : Nat} {ls ls' : List (Nat × AV)} {st : List AV} {h : Hp}
theorem r_iconst {n : Int} {v : Int32} (hd : fet M pc = .ok (.iconst n, 1)) (hp : pc + 1 = pc') (hv : Int32.ofInt n = v) (kk : wp d M Q kc ks pc' ls (vI v :: st) h) : wp d M Q kc ks pc ls (st) h := by
  subst hp
  intro p l e R s m args below meth c A Z E ad H locs lsC K G D hl g1 g2
  exact lv_iconst K.1 K.2.1 hd hv (kk p l e R s m args below meth c A Z E ad H locs lsC K G D hl g1 g2)
theorem r_bipush {n : Int} {v : Int32} (hd : fet M pc = .ok (.bipush n, 2)) (hp : pc + 2 = pc') (hv : (Int8.ofInt n).toInt32 = v) (kk : wp d M Q kc ks pc' ls (vI v :: st) h) : wp d M Q kc ks pc ls (st) h := by
  subst hp
  intro p l e R s m args below meth c A Z E ad H locs lsC K G D hl g1 g2
  exact lv_bipush K.1 K.2.1 hd hv (kk p l e R s m args below meth c A Z E ad H locs lsC K G D hl g1 g2)
theorem r_sipush {n : Int} {v : Int32} (hd : fet M pc = .ok (.sipush n, 3)) (hp : pc + 3 = pc') (hv : (Int16.ofInt n).toInt32 = v) (kk : wp d M Q kc ks pc' ls (vI v :: st) h) : wp d M Q kc ks pc ls (st) h := by
  subst hp
  intro p l e R s m args below meth c A Z E ad H locs lsC K G D hl g1 g2
  exact lv_sipush K.1 K.2.1 hd hv (kk p l e R s m args below meth c A Z E ad H locs lsC K G D hl g1 g2)
theorem r_ldc {n : Nat} {v : Int32} (hd : fet M pc = .ok (.ldc n, 2)) (hp : pc + 2 = pc') {on : String} (hon : own M = on) (hc : Cond.constant on n v ∈ TBL) (kk : wp d M Q kc ks pc' ls (vI v :: st) h) : wp d M Q kc ks pc ls (st) h := by
  subst hp
  intro p l e R s m args below meth c A Z E ad H locs lsC K G D hl g1 g2
  exact lv_ldc K.1 K.2.1 (hon ▸ K.2.2.2.1) (K.2.2.2.2.1 _ hc) hd (kk p l e R s m args below meth c A Z E ad H locs lsC K G D hl g1 g2)
theorem r_ldcw {n : Nat} {v : Int32} (hd : fet M pc = .ok (.ldc_w n, 3)) (hp : pc + 3 = pc') {on : String} (hon : own M = on) (hc : Cond.constant on n v ∈ TBL) (kk : wp d M Q kc ks pc' ls (vI v :: st) h) : wp d M Q kc ks pc ls (st) h := by
  subst hp
  intro p l e R s m args below meth c A Z E ad H locs lsC K G D hl g1 g2
  exact lv_ldcw K.1 K.2.1 (hon ▸ K.2.2.2.1) (K.2.2.2.2.1 _ hc) hd (kk p l e R s m args below meth c A Z E ad H locs lsC K G D hl g1 g2)
theorem r_null  (hd : fet M pc = .ok (.aconst_null, 1)) (hp : pc + 1 = pc')  (kk : wp d M Q kc ks pc' ls (vR none :: st) h) : wp d M Q kc ks pc ls (st) h := by
  subst hp
  intro p l e R s m args below meth c A Z E ad H locs lsC K G D hl g1 g2
  exact lv_null K.1 K.2.1 hd (kk p l e R s m args below meth c A Z E ad H locs lsC K G D hl g1 g2)
theorem r_iload_n {k : Fin 4} {i : Nat} {x : Int32} (hd : fet M pc = .ok (.iload_n k, 1)) (hp : pc + 1 = pc') (hi0 : (k : Nat) = i) (hk : lk ls i = some (vI x)) (kk : wp d M Q kc ks pc' ls (vI x :: st) h) : wp d M Q kc ks pc ls (st) h := by
  subst hp
  intro p l e R s m args below meth c A Z E ad H locs lsC K G D hl g1 g2
  exact lv_iload_n K.1 K.2.1 hd hi0 (lc_lk hl hk) (kk p l e R s m args below meth c A Z E ad H locs lsC K G D hl g1 g2)
theorem r_iload {i : Nat} {x : Int32} (hd : fet M pc = .ok (.iload i, 2)) (hp : pc + 2 = pc') (hk : lk ls i = some (vI x)) (kk : wp d M Q kc ks pc' ls (vI x :: st) h) : wp d M Q kc ks pc ls (st) h := by
  subst hp
  intro p l e R s m args below meth c A Z E ad H locs lsC K G D hl g1 g2
  exact lv_iload K.1 K.2.1 hd (lc_lk hl hk) (kk p l e R s m args below meth c A Z E ad H locs lsC K G D hl g1 g2)
theorem r_aload_n {k : Fin 4} {i : Nat} {x : Nat} (hd : fet M pc = .ok (.aload_n k, 1)) (hp : pc + 1 = pc') (hi0 : (k : Nat) = i) (hk : lk ls i = some (vR (some x))) (kk : wp d M Q kc ks pc' ls (vR (some x) :: st) h) : wp d M Q kc ks pc ls (st) h := by
  subst hp
  intro p l e R s m args below meth c A Z E ad H locs lsC K G D hl g1 g2
  exact lv_aload_n K.1 K.2.1 hd hi0 (lc_lk hl hk) (kk p l e R s m args below meth c A Z E ad H locs lsC K G D hl g1 g2)
theorem r_aload {i : Nat} {x : Nat} (hd : fet M pc = .ok (.aload i, 2)) (hp : pc + 2 = pc') (hk : lk ls i = some (vR (some x))) (kk : wp d M Q kc ks pc' ls (vR (some x) :: st) h) : wp d M Q kc ks pc ls (st) h := by
  subst hp
  intro p l e R s m args below meth c A Z E ad H locs lsC K G D hl g1 g2
  exact lv_aload K.1 K.2.1 hd (lc_lk hl hk) (kk p l e R s m args below meth c A Z E ad H locs lsC K G D hl g1 g2)
theorem r_aload_nN {k : Fin 4} {i : Nat} (hd : fet M pc = .ok (.aload_n k, 1)) (hp : pc + 1 = pc') (hi0 : (k : Nat) = i) (hk : lk ls i = some (vR none)) (kk : wp d M Q kc ks pc' ls (vR none :: st) h) : wp d M Q kc ks pc ls (st) h := by
  subst hp
  intro p l e R s m args below meth c A Z E ad H locs lsC K G D hl g1 g2
  exact lv_aload_nN K.1 K.2.1 hd hi0 (lc_lk hl hk) (kk p l e R s m args below meth c A Z E ad H locs lsC K G D hl g1 g2)
theorem r_aloadN {i : Nat} (hd : fet M pc = .ok (.aload i, 2)) (hp : pc + 2 = pc') (hk : lk ls i = some (vR none)) (kk : wp d M Q kc ks pc' ls (vR none :: st) h) : wp d M Q kc ks pc ls (st) h := by
  subst hp
  intro p l e R s m args below meth c A Z E ad H locs lsC K G D hl g1 g2
  exact lv_aloadN K.1 K.2.1 hd (lc_lk hl hk) (kk p l e R s m args below meth c A Z E ad H locs lsC K G D hl g1 g2)
theorem r_iadd {x y : Int32} (hd : fet M pc = .ok (.iadd, 1)) (hp : pc + 1 = pc')  (kk : wp d M Q kc ks pc' ls (vI (x + y) :: st) h) : wp d M Q kc ks pc ls (vI y :: vI x :: st) h := by
  subst hp
  intro p l e R s m args below meth c A Z E ad H locs lsC K G D hl g1 g2
  exact lv_iadd K.1 K.2.1 hd (kk p l e R s m args below meth c A Z E ad H locs lsC K G D hl g1 g2)
theorem r_isub {x y : Int32} (hd : fet M pc = .ok (.isub, 1)) (hp : pc + 1 = pc')  (kk : wp d M Q kc ks pc' ls (vI (x - y) :: st) h) : wp d M Q kc ks pc ls (vI y :: vI x :: st) h := by
  subst hp
  intro p l e R s m args below meth c A Z E ad H locs lsC K G D hl g1 g2
  exact lv_isub K.1 K.2.1 hd (kk p l e R s m args below meth c A Z E ad H locs lsC K G D hl g1 g2)
theorem r_imul {x y : Int32} (hd : fet M pc = .ok (.imul, 1)) (hp : pc + 1 = pc')  (kk : wp d M Q kc ks pc' ls (vI (x * y) :: st) h) : wp d M Q kc ks pc ls (vI y :: vI x :: st) h := by
  subst hp
  intro p l e R s m args below meth c A Z E ad H locs lsC K G D hl g1 g2
  exact lv_imul K.1 K.2.1 hd (kk p l e R s m args below meth c A Z E ad H locs lsC K G D hl g1 g2)
theorem r_iand {x y : Int32} (hd : fet M pc = .ok (.iand, 1)) (hp : pc + 1 = pc')  (kk : wp d M Q kc ks pc' ls (vI (x &&& y) :: st) h) : wp d M Q kc ks pc ls (vI y :: vI x :: st) h := by
  subst hp
  intro p l e R s m args below meth c A Z E ad H locs lsC K G D hl g1 g2
  exact lv_iand K.1 K.2.1 hd (kk p l e R s m args below meth c A Z E ad H locs lsC K G D hl g1 g2)
theorem r_ior {x y : Int32} (hd : fet M pc = .ok (.ior, 1)) (hp : pc + 1 = pc')  (kk : wp d M Q kc ks pc' ls (vI (x ||| y) :: st) h) : wp d M Q kc ks pc ls (vI y :: vI x :: st) h := by
  subst hp
  intro p l e R s m args below meth c A Z E ad H locs lsC K G D hl g1 g2
  exact lv_ior K.1 K.2.1 hd (kk p l e R s m args below meth c A Z E ad H locs lsC K G D hl g1 g2)
theorem r_ixor {x y : Int32} (hd : fet M pc = .ok (.ixor, 1)) (hp : pc + 1 = pc')  (kk : wp d M Q kc ks pc' ls (vI (x ^^^ y) :: st) h) : wp d M Q kc ks pc ls (vI y :: vI x :: st) h := by
  subst hp
  intro p l e R s m args below meth c A Z E ad H locs lsC K G D hl g1 g2
  exact lv_ixor K.1 K.2.1 hd (kk p l e R s m args below meth c A Z E ad H locs lsC K G D hl g1 g2)
theorem r_ishl {x y : Int32} (hd : fet M pc = .ok (.ishl, 1)) (hp : pc + 1 = pc')  (kk : wp d M Q kc ks pc' ls (vI (x <<< (y &&& 31)) :: st) h) : wp d M Q kc ks pc ls (vI y :: vI x :: st) h := by
  subst hp
  intro p l e R s m args below meth c A Z E ad H locs lsC K G D hl g1 g2
  exact lv_ishl K.1 K.2.1 hd (kk p l e R s m args below meth c A Z E ad H locs lsC K G D hl g1 g2)
theorem r_ishr {x y : Int32} (hd : fet M pc = .ok (.ishr, 1)) (hp : pc + 1 = pc')  (kk : wp d M Q kc ks pc' ls (vI (x >>> (y &&& 31)) :: st) h) : wp d M Q kc ks pc ls (vI y :: vI x :: st) h := by
  subst hp
  intro p l e R s m args below meth c A Z E ad H locs lsC K G D hl g1 g2
  exact lv_ishr K.1 K.2.1 hd (kk p l e R s m args below meth c A Z E ad H locs lsC K G D hl g1 g2)
theorem r_iushr {x y : Int32} (hd : fet M pc = .ok (.iushr, 1)) (hp : pc + 1 = pc')  (kk : wp d M Q kc ks pc' ls (vI ((x.toUInt32 >>> (y.toUInt32 &&& Int32.toUInt32 31)).toInt32) :: st) h) : wp d M Q kc ks pc ls (vI y :: vI x :: st) h := by
  subst hp
  intro p l e R s m args below meth c A Z E ad H locs lsC K G D hl g1 g2
  exact lv_iushr K.1 K.2.1 hd rfl (kk p l e R s m args below meth c A Z E ad H locs lsC K G D hl g1 g2)
theorem r_idiv {x y : Int32} (hd : fet M pc = .ok (.idiv, 1)) (hp : pc + 1 = pc') (hne : ¬ y = 0) (kk : wp d M Q kc ks pc' ls (vI (x / y) :: st) h) : wp d M Q kc ks pc ls (vI y :: vI x :: st) h := by
  subst hp
  intro p l e R s m args below meth c A Z E ad H locs lsC K G D hl g1 g2
  exact lv_idiv K.1 K.2.1 hd hne (kk p l e R s m args below meth c A Z E ad H locs lsC K G D hl g1 g2)
theorem r_irem {x y : Int32} (hd : fet M pc = .ok (.irem, 1)) (hp : pc + 1 = pc') (hne : ¬ y = 0) (kk : wp d M Q kc ks pc' ls (vI (x - x / y * y) :: st) h) : wp d M Q kc ks pc ls (vI y :: vI x :: st) h := by
  subst hp
  intro p l e R s m args below meth c A Z E ad H locs lsC K G D hl g1 g2
  exact lv_irem K.1 K.2.1 hd hne (kk p l e R s m args below meth c A Z E ad H locs lsC K G D hl g1 g2)
theorem r_ineg {x : Int32} (hd : fet M pc = .ok (.ineg, 1)) (hp : pc + 1 = pc')  (kk : wp d M Q kc ks pc' ls (vI (-x) :: st) h) : wp d M Q kc ks pc ls (vI x :: st) h := by
  subst hp
  intro p l e R s m args below meth c A Z E ad H locs lsC K G D hl g1 g2
  exact lv_ineg K.1 K.2.1 hd (kk p l e R s m args below meth c A Z E ad H locs lsC K G D hl g1 g2)
theorem r_i2l {x : Int32} (hd : fet M pc = .ok (.i2l, 1)) (hp : pc + 1 = pc')  (kk : wp d M Q kc ks pc' ls (vL x.toInt64 :: st) h) : wp d M Q kc ks pc ls (vI x :: st) h := by
  subst hp
  intro p l e R s m args below meth c A Z E ad H locs lsC K G D hl g1 g2
  exact lv_i2l K.1 K.2.1 hd rfl (kk p l e R s m args below meth c A Z E ad H locs lsC K G D hl g1 g2)
theorem r_i2b {x : Int32} (hd : fet M pc = .ok (.i2b, 1)) (hp : pc + 1 = pc')  (kk : wp d M Q kc ks pc' ls (vI x.toInt8.toInt32 :: st) h) : wp d M Q kc ks pc ls (vI x :: st) h := by
  subst hp
  intro p l e R s m args below meth c A Z E ad H locs lsC K G D hl g1 g2
  exact lv_i2b K.1 K.2.1 hd rfl (kk p l e R s m args below meth c A Z E ad H locs lsC K G D hl g1 g2)
theorem r_i2s {x : Int32} (hd : fet M pc = .ok (.i2s, 1)) (hp : pc + 1 = pc')  (kk : wp d M Q kc ks pc' ls (vI x.toInt16.toInt32 :: st) h) : wp d M Q kc ks pc ls (vI x :: st) h := by
  subst hp
  intro p l e R s m args below meth c A Z E ad H locs lsC K G D hl g1 g2
  exact lv_i2s K.1 K.2.1 hd rfl (kk p l e R s m args below meth c A Z E ad H locs lsC K G D hl g1 g2)
theorem r_ladd {x y : Int64} (hd : fet M pc = .ok (.ladd, 1)) (hp : pc + 1 = pc')  (kk : wp d M Q kc ks pc' ls (vL (x + y) :: st) h) : wp d M Q kc ks pc ls (vL y :: vL x :: st) h := by
  subst hp
  intro p l e R s m args below meth c A Z E ad H locs lsC K G D hl g1 g2
  exact lv_ladd K.1 K.2.1 hd (kk p l e R s m args below meth c A Z E ad H locs lsC K G D hl g1 g2)
theorem r_lcmp {x y : Int64} (hd : fet M pc = .ok (.lcmp, 1)) (hp : pc + 1 = pc')  (kk : wp d M Q kc ks pc' ls (vI (lg_cmp x y) :: st) h) : wp d M Q kc ks pc ls (vL y :: vL x :: st) h := by
  subst hp
  intro p l e R s m args below meth c A Z E ad H locs lsC K G D hl g1 g2
  exact W.lcmp K.1 K.2.1 hd (kk p l e R s m args below meth c A Z E ad H locs lsC K G D hl g1 g2)
theorem r_dupI {x : Int32} (hd : fet M pc = .ok (.dup, 1)) (hp : pc + 1 = pc')  (kk : wp d M Q kc ks pc' ls (vI x :: vI x :: st) h) : wp d M Q kc ks pc ls (vI x :: st) h := by
  subst hp
  intro p l e R s m args below meth c A Z E ad H locs lsC K G D hl g1 g2
  exact lv_dup K.1 K.2.1 hd rfl (kk p l e R s m args below meth c A Z E ad H locs lsC K G D hl g1 g2)
theorem r_dupR {x : Nat} (hd : fet M pc = .ok (.dup, 1)) (hp : pc + 1 = pc')  (kk : wp d M Q kc ks pc' ls (vR (some x) :: vR (some x) :: st) h) : wp d M Q kc ks pc ls (vR (some x) :: st) h := by
  subst hp
  intro p l e R s m args below meth c A Z E ad H locs lsC K G D hl g1 g2
  exact lv_dup K.1 K.2.1 hd rfl (kk p l e R s m args below meth c A Z E ad H locs lsC K G D hl g1 g2)
theorem r_dup2 {x : Int32} {y : Nat} (hd : fet M pc = .ok (.dup2, 1)) (hp : pc + 1 = pc')  (kk : wp d M Q kc ks pc' ls (vI x :: vR (some y) :: vI x :: vR (some y) :: st) h) : wp d M Q kc ks pc ls (vI x :: vR (some y) :: st) h := by
  subst hp
  intro p l e R s m args below meth c A Z E ad H locs lsC K G D hl g1 g2
  exact lv_dup2_11 K.1 K.2.1 hd rfl rfl (kk p l e R s m args below meth c A Z E ad H locs lsC K G D hl g1 g2)
theorem r_istore_n {k : Fin 4} {i : Nat} {x : Int32} (hd : fet M pc = .ok (.istore_n k, 1)) (hp : pc + 1 = pc') (hi0 : (k : Nat) = i) (hlt : i < ml M) (hst : stL i (vI x) ls = ls') (kk : wp d M Q kc ks pc' ls' st h) : wp d M Q kc ks pc ls (vI x :: st) h := by
  subst hp
  subst hst
  intro p l e R s m args below meth c A Z E ad H locs lsC K G D hl g1 g2
  exact lv_istore_n K.1 K.2.1 hd hi0 hl hlt (lc_st ad i (vI x) ls) (fun lsC' hl' => kk p l e R s m args below meth c A Z E ad H locs lsC' K G D hl' g1 g2)
theorem r_istore {i : Nat} {x : Int32} (hd : fet M pc = .ok (.istore i, 2)) (hp : pc + 2 = pc')  (hlt : i < ml M) (hst : stL i (vI x) ls = ls') (kk : wp d M Q kc ks pc' ls' st h) : wp d M Q kc ks pc ls (vI x :: st) h := by
  subst hp
  subst hst
  intro p l e R s m args below meth c A Z E ad H locs lsC K G D hl g1 g2
  exact lv_istore K.1 K.2.1 hd hl hlt (lc_st ad i (vI x) ls) (fun lsC' hl' => kk p l e R s m args below meth c A Z E ad H locs lsC' K G D hl' g1 g2)
theorem r_astore_n {k : Fin 4} {i : Nat} {x : Nat} (hd : fet M pc = .ok (.astore_n k, 1)) (hp : pc + 1 = pc') (hi0 : (k : Nat) = i) (hlt : i < ml M) (hst : stL i (vR (some x)) ls = ls') (kk : wp d M Q kc ks pc' ls' st h) : wp d M Q kc ks pc ls (vR (some x) :: st) h := by
  subst hp
  subst hst
  intro p l e R s m args below meth c A Z E ad H locs lsC K G D hl g1 g2
  exact lv_astore_n K.1 K.2.1 hd hi0 hl hlt (lc_st ad i (vR (some x)) ls) (fun lsC' hl' => kk p l e R s m args below meth c A Z E ad H locs lsC' K G D hl' g1 g2)
theorem r_astore {i : Nat} {x : Nat} (hd : fet M pc = .ok (.astore i, 2)) (hp : pc + 2 = pc')  (hlt : i < ml M) (hst : stL i (vR (some x)) ls = ls') (kk : wp d M Q kc ks pc' ls' st h) : wp d M Q kc ks pc ls (vR (some x) :: st) h := by
  subst hp
  subst hst
  intro p l e R s m args below meth c A Z E ad H locs lsC K G D hl g1 g2
  exact lv_astore K.1 K.2.1 hd hl hlt (lc_st ad i (vR (some x)) ls) (fun lsC' hl' => kk p l e R s m args below meth c A Z E ad H locs lsC' K G D hl' g1 g2)
theorem r_astore_nN {k : Fin 4} {i : Nat} (hd : fet M pc = .ok (.astore_n k, 1)) (hp : pc + 1 = pc') (hi0 : (k : Nat) = i) (hlt : i < ml M) (hst : stL i (vR none) ls = ls') (kk : wp d M Q kc ks pc' ls' st h) : wp d M Q kc ks pc ls (vR none :: st) h := by
  subst hp
  subst hst
  intro p l e R s m args below meth c A Z E ad H locs lsC K G D hl g1 g2
  exact lv_astore_nN K.1 K.2.1 hd hi0 hl hlt (lc_st ad i (vR none) ls) (fun lsC' hl' => kk p l e R s m args below meth c A Z E ad H locs lsC' K G D hl' g1 g2)
theorem r_astoreN {i : Nat} (hd : fet M pc = .ok (.astore i, 2)) (hp : pc + 2 = pc')  (hlt : i < ml M) (hst : stL i (vR none) ls = ls') (kk : wp d M Q kc ks pc' ls' st h) : wp d M Q kc ks pc ls (vR none :: st) h := by
  subst hp
  subst hst
  intro p l e R s m args below meth c A Z E ad H locs lsC K G D hl g1 g2
  exact lv_astoreN K.1 K.2.1 hd hl hlt (lc_st ad i (vR none) ls) (fun lsC' hl' => kk p l e R s m args below meth c A Z E ad H locs lsC' K G D hl' g1 g2)
theorem lc_ix {ad : Nat → Nat} {ls : List (Nat × AV)} {i : Nat} {v : AV} (h : lk ls i = some v) : ∃ k : Nat, (lc ad ls)[k]? = some (i, cv ad v) := List.getElem?_of_mem (List.mem_map.mpr ⟨(i, v), lk_mem h, rfl⟩)
theorem r_iinc {i : Nat} {n : Int} {x v : Int32} (hd : fet M pc = .ok (.iinc i n, 3)) (hp : pc + 3 = pc') (hk : lk ls i = some (vI x)) (hv : x + Int32.ofInt n = v) (hlt : i < ml M) (hst : stL i (vI v) ls = ls') (kk : wp d M Q kc ks pc' ls' st h) : wp d M Q kc ks pc ls st h := by
  subst hp
  subst hst
  intro p l e R s m args below meth c A Z E ad H locs lsC K G D hl g1 g2
  obtain ⟨k, hk2⟩ := lc_ix (ad := ad) hk
  exact lv_iinc K.1 K.2.1 hd hl hk2 hv hlt (lc_st ad i (vI v) ls) (fun lsC' hl' => kk p l e R s m args below meth c A Z E ad H locs lsC' K G D hl' g1 g2)
theorem tgt_eq {pc tgt : Nat} {off : Int} (h : (pc : Int) + off = (tgt : Int)) : (pc : Int) + off = (tgt : Int) := h
theorem r_if_eq {x : Int32} {off : Int} (tgt : Nat) (hd : fet M pc = .ok (.ifCond .eq off, 3)) (hp : pc + 3 = pc') (ht : (pc : Int) + off = (tgt : Int)) (kt : x = 0 → wp d M Q kc ks tgt ls st h) (kf : ¬ x = 0 → wp d M Q kc ks pc' ls st h) : wp d M Q kc ks pc ls (vI x :: st) h := by
  subst hp
  intro p l e R s m args below meth c A Z E ad H locs lsC K G D hl g1 g2
  exact lv_if_eq K.1 K.2.1 hd ht (fun q => kt q p l e R s m args below meth c A Z E ad H locs lsC K G D hl g1 g2) (fun q => kf q p l e R s m args below meth c A Z E ad H locs lsC K G D hl g1 g2)
theorem r_icmp_eq {x y : Int32} {off : Int} (tgt : Nat) (hd : fet M pc = .ok (.if_icmp .eq off, 3)) (hp : pc + 3 = pc') (ht : (pc : Int) + off = (tgt : Int)) (kt : x = y → wp d M Q kc ks tgt ls st h) (kf : ¬ x = y → wp d M Q kc ks pc' ls st h) : wp d M Q kc ks pc ls (vI y :: vI x :: st) h := by
  subst hp
  intro p l e R s m args below meth c A Z E ad H locs lsC K G D hl g1 g2
  exact lv_icmp_eq K.1 K.2.1 hd ht (fun q => kt q p l e R s m args below meth c A Z E ad H locs lsC K G D hl g1 g2) (fun q => kf q p l e R s m args below meth c A Z E ad H locs lsC K G D hl g1 g2)
theorem r_if_ne {x : Int32} {off : Int} (tgt : Nat) (hd : fet M pc = .ok (.ifCond .ne off, 3)) (hp : pc + 3 = pc') (ht : (pc : Int) + off = (tgt : Int)) (kt : ¬ x = 0 → wp d M Q kc ks tgt ls st h) (kf : x = 0 → wp d M Q kc ks pc' ls st h) : wp d M Q kc ks pc ls (vI x :: st) h := by
  subst hp
  intro p l e R s m args below meth c A Z E ad H locs lsC K G D hl g1 g2
  exact lv_if_ne K.1 K.2.1 hd ht (fun q => kt q p l e R s m args below meth c A Z E ad H locs lsC K G D hl g1 g2) (fun q => kf q p l e R s m args below meth c A Z E ad H locs lsC K G D hl g1 g2)
theorem r_icmp_ne {x y : Int32} {off : Int} (tgt : Nat) (hd : fet M pc = .ok (.if_icmp .ne off, 3)) (hp : pc + 3 = pc') (ht : (pc : Int) + off = (tgt : Int)) (kt : ¬ x = y → wp d M Q kc ks tgt ls st h) (kf : x = y → wp d M Q kc ks pc' ls st h) : wp d M Q kc ks pc ls (vI y :: vI x :: st) h := by
  subst hp
  intro p l e R s m args below meth c A Z E ad H locs lsC K G D hl g1 g2
  exact lv_icmp_ne K.1 K.2.1 hd ht (fun q => kt q p l e R s m args below meth c A Z E ad H locs lsC K G D hl g1 g2) (fun q => kf q p l e R s m args below meth c A Z E ad H locs lsC K G D hl g1 g2)
theorem r_if_lt {x : Int32} {off : Int} (tgt : Nat) (hd : fet M pc = .ok (.ifCond .lt off, 3)) (hp : pc + 3 = pc') (ht : (pc : Int) + off = (tgt : Int)) (kt : x < 0 → wp d M Q kc ks tgt ls st h) (kf : ¬ x < 0 → wp d M Q kc ks pc' ls st h) : wp d M Q kc ks pc ls (vI x :: st) h := by
  subst hp
  intro p l e R s m args below meth c A Z E ad H locs lsC K G D hl g1 g2
  exact lv_if_lt K.1 K.2.1 hd ht (fun q => kt q p l e R s m args below meth c A Z E ad H locs lsC K G D hl g1 g2) (fun q => kf q p l e R s m args below meth c A Z E ad H locs lsC K G D hl g1 g2)
theorem r_icmp_lt {x y : Int32} {off : Int} (tgt : Nat) (hd : fet M pc = .ok (.if_icmp .lt off, 3)) (hp : pc + 3 = pc') (ht : (pc : Int) + off = (tgt : Int)) (kt : x < y → wp d M Q kc ks tgt ls st h) (kf : ¬ x < y → wp d M Q kc ks pc' ls st h) : wp d M Q kc ks pc ls (vI y :: vI x :: st) h := by
  subst hp
  intro p l e R s m args below meth c A Z E ad H locs lsC K G D hl g1 g2
  exact lv_icmp_lt K.1 K.2.1 hd ht (fun q => kt q p l e R s m args below meth c A Z E ad H locs lsC K G D hl g1 g2) (fun q => kf q p l e R s m args below meth c A Z E ad H locs lsC K G D hl g1 g2)
theorem r_if_ge {x : Int32} {off : Int} (tgt : Nat) (hd : fet M pc = .ok (.ifCond .ge off, 3)) (hp : pc + 3 = pc') (ht : (pc : Int) + off = (tgt : Int)) (kt : 0 ≤ x → wp d M Q kc ks tgt ls st h) (kf : ¬ 0 ≤ x → wp d M Q kc ks pc' ls st h) : wp d M Q kc ks pc ls (vI x :: st) h := by
  subst hp
  intro p l e R s m args below meth c A Z E ad H locs lsC K G D hl g1 g2
  exact lv_if_ge K.1 K.2.1 hd ht (fun q => kt q p l e R s m args below meth c A Z E ad H locs lsC K G D hl g1 g2) (fun q => kf q p l e R s m args below meth c A Z E ad H locs lsC K G D hl g1 g2)
theorem r_icmp_ge {x y : Int32} {off : Int} (tgt : Nat) (hd : fet M pc = .ok (.if_icmp .ge off, 3)) (hp : pc + 3 = pc') (ht : (pc : Int) + off = (tgt : Int)) (kt : y ≤ x → wp d M Q kc ks tgt ls st h) (kf : ¬ y ≤ x → wp d M Q kc ks pc' ls st h) : wp d M Q kc ks pc ls (vI y :: vI x :: st) h := by
  subst hp
  intro p l e R s m args below meth c A Z E ad H locs lsC K G D hl g1 g2
  exact lv_icmp_ge K.1 K.2.1 hd ht (fun q => kt q p l e R s m args below meth c A Z E ad H locs lsC K G D hl g1 g2) (fun q => kf q p l e R s m args below meth c A Z E ad H locs lsC K G D hl g1 g2)
theorem r_if_gt {x : Int32} {off : Int} (tgt : Nat) (hd : fet M pc = .ok (.ifCond .gt off, 3)) (hp : pc + 3 = pc') (ht : (pc : Int) + off = (tgt : Int)) (kt : 0 < x → wp d M Q kc ks tgt ls st h) (kf : ¬ 0 < x → wp d M Q kc ks pc' ls st h) : wp d M Q kc ks pc ls (vI x :: st) h := by
  subst hp
  intro p l e R s m args below meth c A Z E ad H locs lsC K G D hl g1 g2
  exact lv_if_gt K.1 K.2.1 hd ht (fun q => kt q p l e R s m args below meth c A Z E ad H locs lsC K G D hl g1 g2) (fun q => kf q p l e R s m args below meth c A Z E ad H locs lsC K G D hl g1 g2)
theorem r_icmp_gt {x y : Int32} {off : Int} (tgt : Nat) (hd : fet M pc = .ok (.if_icmp .gt off, 3)) (hp : pc + 3 = pc') (ht : (pc : Int) + off = (tgt : Int)) (kt : y < x → wp d M Q kc ks tgt ls st h) (kf : ¬ y < x → wp d M Q kc ks pc' ls st h) : wp d M Q kc ks pc ls (vI y :: vI x :: st) h := by
  subst hp
  intro p l e R s m args below meth c A Z E ad H locs lsC K G D hl g1 g2
  exact lv_icmp_gt K.1 K.2.1 hd ht (fun q => kt q p l e R s m args below meth c A Z E ad H locs lsC K G D hl g1 g2) (fun q => kf q p l e R s m args below meth c A Z E ad H locs lsC K G D hl g1 g2)
theorem r_if_le {x : Int32} {off : Int} (tgt : Nat) (hd : fet M pc = .ok (.ifCond .le off, 3)) (hp : pc + 3 = pc') (ht : (pc : Int) + off = (tgt : Int)) (kt : x ≤ 0 → wp d M Q kc ks tgt ls st h) (kf : ¬ x ≤ 0 → wp d M Q kc ks pc' ls st h) : wp d M Q kc ks pc ls (vI x :: st) h := by
  subst hp
  intro p l e R s m args below meth c A Z E ad H locs lsC K G D hl g1 g2
  exact lv_if_le K.1 K.2.1 hd ht (fun q => kt q p l e R s m args below meth c A Z E ad H locs lsC K G D hl g1 g2) (fun q => kf q p l e R s m args below meth c A Z E ad H locs lsC K G D hl g1 g2)
theorem r_icmp_le {x y : Int32} {off : Int} (tgt : Nat) (hd : fet M pc = .ok (.if_icmp .le off, 3)) (hp : pc + 3 = pc') (ht : (pc : Int) + off = (tgt : Int)) (kt : x ≤ y → wp d M Q kc ks tgt ls st h) (kf : ¬ x ≤ y → wp d M Q kc ks pc' ls st h) : wp d M Q kc ks pc ls (vI y :: vI x :: st) h := by
  subst hp
  intro p l e R s m args below meth c A Z E ad H locs lsC K G D hl g1 g2
  exact lv_icmp_le K.1 K.2.1 hd ht (fun q => kt q p l e R s m args below meth c A Z E ad H locs lsC K G D hl g1 g2) (fun q => kf q p l e R s m args below meth c A Z E ad H locs lsC K G D hl g1 g2)
theorem r_goto {off : Int} (tgt : Nat) (hd : fet M pc = .ok (.goto off, 3)) (ht : (pc : Int) + off = (tgt : Int)) (kk : wp d M Q kc ks tgt ls st h) : wp d M Q kc ks pc ls st h := by
  intro p l e R s m args below meth c A Z E ad H locs lsC K G D hl g1 g2
  exact lv_goto K.1 K.2.1 hd ht (kk p l e R s m args below meth c A Z E ad H locs lsC K G D hl g1 g2)
theorem r_ifnull {o : Option Nat} {off : Int} (tgt : Nat) (hd : fet M pc = .ok (.ifnull off, 3)) (hp : pc + 3 = pc') (ht : (pc : Int) + off = (tgt : Int)) (kt : o = none → wp d M Q kc ks tgt ls st h) (kf : ∀ x, o = some x → wp d M Q kc ks pc' ls st h) : wp d M Q kc ks pc ls (vR o :: st) h := by
  subst hp
  intro p l e R s m args below meth c A Z E ad H locs lsC K G D hl g1 g2
  cases o with
  | none => exact lv_ifnullN K.1 K.2.1 hd ht (kt rfl p l e R s m args below meth c A Z E ad H locs lsC K G D hl g1 g2)
  | some x => exact lv_ifnull K.1 K.2.1 hd (kf x rfl p l e R s m args below meth c A Z E ad H locs lsC K G D hl g1 g2)
theorem r_ifnonnull {o : Option Nat} {off : Int} (tgt : Nat) (hd : fet M pc = .ok (.ifnonnull off, 3)) (hp : pc + 3 = pc') (ht : (pc : Int) + off = (tgt : Int)) (kt : ∀ x, o = some x → wp d M Q kc ks tgt ls st h) (kf : o = none → wp d M Q kc ks pc' ls st h) : wp d M Q kc ks pc ls (vR o :: st) h := by
  subst hp
  intro p l e R s m args below meth c A Z E ad H locs lsC K G D hl g1 g2
  cases o with
  | none => exact lv_ifnonnullN K.1 K.2.1 hd (kf rfl p l e R s m args below meth c A Z E ad H locs lsC K G D hl g1 g2)
  | some x => exact lv_ifnonnull K.1 K.2.1 hd ht (kt x rfl p l e R s m args below meth c A Z E ad H locs lsC K G D hl g1 g2)
theorem ad_inj {E : En} {A : Nat → Prop} {ad : Nat → Nat} {h : Hp} (hD : va_D A (toW E ad h)) {a b : Nat} (ha : a < hn h) (hb : b < hn h) (hab : ad a = ad b) : a = b := hD.1 a b _ _ (toW_at ha) (toW_at hb) hab
theorem r_acmpne {a b : Option Nat} {off : Int} (tgt : Nat) (hd : fet M pc = .ok (.if_acmp .ne off, 3)) (hp : pc + 3 = pc') (ht : (pc : Int) + off = (tgt : Int)) (ha : ∀ x, a = some x → x < hn h) (hb : ∀ x, b = some x → x < hn h) (kt : ¬ a = b → wp d M Q kc ks tgt ls st h) (kf : a = b → wp d M Q kc ks pc' ls st h) : wp d M Q kc ks pc ls (vR b :: vR a :: st) h := by
  subst hp
  intro p l e R s m args below meth c A Z E ad H locs lsC K G D hl g1 g2
  have hinj : a.map ad = b.map ad → a = b := by
    intro q
    cases a with
    | none => cases b with
      | none => rfl
      | some y => cases q
    | some x => cases b with
      | none => cases q
      | some y => exact congrArg some (ad_inj D.2.1 (ha x rfl) (hb y rfl) (Option.some.inj q))
  exact lv_acmp_ne (rx := a.map ad) (ry := b.map ad) K.1 K.2.1 hd ht (fun q => kt (fun w => q (by rw [w])) p l e R s m args below meth c A Z E ad H locs lsC K G D hl g1 g2) (fun q => kf (hinj q) p l e R s m args below meth c A Z E ad H locs lsC K G D hl g1 g2)
theorem r_tableOut {dflt lo hi0 : Int} {offs : Array Int} {len : Nat} {x : Int32} (tgt : Nat) (hd : fet M pc = .ok (.tableswitch dflt lo hi0 offs, len)) (hx : x.toInt < lo ∨ hi0 < x.toInt) (ht : (pc : Int) + dflt = (tgt : Int)) (kk : wp d M Q kc ks tgt ls st h) : wp d M Q kc ks pc ls (vI x :: st) h := by
  intro p l e R s m args below meth c A Z E ad H locs lsC K G D hl g1 g2
  exact lv_tableOut K.1 K.2.1 hd hx ht (kk p l e R s m args below meth c A Z E ad H locs lsC K G D hl g1 g2)
theorem r_tableIn {dflt lo hi0 : Int} {offs : Array Int} {len : Nat} {x : Int32} {off : Int} (tgt : Nat) (hd : fet M pc = .ok (.tableswitch dflt lo hi0 offs, len)) (h1 : ¬ x.toInt < lo) (h2 : ¬ hi0 < x.toInt) (ho : offs[(x.toInt - lo).toNat]? = some off) (ht : (pc : Int) + off = (tgt : Int)) (kk : wp d M Q kc ks tgt ls st h) : wp d M Q kc ks pc ls (vI x :: st) h := by
  intro p l e R s m args below meth c A Z E ad H locs lsC K G D hl g1 g2
  exact lv_tableIn K.1 K.2.1 hd h1 h2 ho ht (kk p l e R s m args below meth c A Z E ad H locs lsC K G D hl g1 g2)
theorem r_lookup {dflt : Int} {ps : Array (Int × Int)} {len : Nat} {x : Int32} {off : Int} (tgt : Nat) (hd : fet M pc = .ok (.lookupswitch dflt ps, len)) (hp : (ps.toList.zip (ps.toList.drop 1)).all (fun (a, next) => a.1 < next.1) = true) (ho : Op.lookupswitch.offset ps.toList dflt x.toInt = off) (ht : (pc : Int) + off = (tgt : Int)) (kk : wp d M Q kc ks tgt ls st h) : wp d M Q kc ks pc ls (vI x :: st) h := by
  intro p l e R s m args below meth c A Z E ad H locs lsC K G D hl g1 g2
  exact lv_lookup K.1 K.2.1 hd hp ho ht (kk p l e R s m args below meth c A Z E ad H locs lsC K G D hl g1 g2)
theorem r_iret {x : Int32} {t : FieldType} (hd : fet M pc = .ok (.ireturn, 1)) (hr0 : rt M = some t) (hn0 : narrow t (.int x) = .int x) (kk : Q (some (vI x)) h) : wp d M Q kc ks pc ls [vI x] h := by
  intro p l e R s m args below meth c A Z E ad H locs lsC K G D hl g1 g2
  exact G ad (some (vI x)) h H locs kc ks pc lsC (fun _ _ => rfl) (Nat.le_refl _) (fun _ => ⟨rfl, rfl⟩) kk D g1 g2 ⟨hd, t, hr0, hn0⟩
theorem r_aret {o : Option Nat} {t : FieldType} (hd : fet M pc = .ok (.areturn, 1)) (hr0 : rt M = some t) (ht : (∃ n, t = .object n) ∨ ∃ u, t = .array u) (kk : Q (some (vR o)) h) : wp d M Q kc ks pc ls [vR o] h := by
  intro p l e R s m args below meth c A Z E ad H locs lsC K G D hl g1 g2
  exact G ad (some (vR o)) h H locs kc ks pc lsC (fun _ _ => rfl) (Nat.le_refl _) (fun _ => ⟨rfl, rfl⟩) kk D g1 g2 ⟨hd, t, hr0, ht⟩
theorem r_ret (hd : fet M pc = .ok (.return_, 1)) (hr0 : rt M = none) (kk : Q none h) : wp d M Q kc ks pc ls [] h := by
  intro p l e R s m args below meth c A Z E ad H locs lsC K G D hl g1 g2
  exact G ad none h H locs kc ks pc lsC (fun _ _ => rfl) (Nat.le_refl _) (fun _ => ⟨rfl, rfl⟩) kk D g1 g2 ⟨hd, hr0⟩
def SiteF (o : String) (idx ci k : Nat) (b : Bool) : Prop := (FK ci)[k]? = some b ∧ ∃ q : vw_C, classes[ci]? = some q ∧ k < q.2.2 ∧ (∀ w ∈ u_ws q.1 q.2.1 q.2.2, w ∈ TBL) ∧ Cond.fieldLink o idx (q.2.1 k).1 (q.2.1 k).2.1 (q.2.1 k).2.2.1 ∈ TBL
def ClsOK (q : vw_C) : Prop := (∃ ty : Nat → FieldType, ∀ k, k < q.2.2 → parseFieldDescriptor (q.2.1 k).2.2.1 = some (ty k)) ∧ ∀ a, a < q.2.2 → ∀ b, b < q.2.2 → a ≠ b → (q.2.1 a).2.1 ≠ (q.2.1 b).2.1
def SiteP (o : String) (idx ci k : Nat) (b : Bool) (ty : FieldType) (fin : Bool) : Prop := (FK ci)[k]? = some b ∧ ∃ q : vw_C, classes[ci]? = some q ∧ k < q.2.2 ∧ (∀ w ∈ u_ws q.1 q.2.1 q.2.2, w ∈ TBL) ∧ Cond.fieldLink o idx (q.2.1 k).1 (q.2.1 k).2.1 (q.2.1 k).2.2.1 ∈ TBL ∧ ClsOK q ∧ parseFieldDescriptor (q.2.1 k).2.2.1 = some ty ∧ ((fin = false ∧ (q.2.1 k).2.2.2 = false) ∨ fin = true ∧ (q.2.1 k).2.2.2 = true ∧ (q.2.1 k).1 = o)
theorem cell_obj {E : En} {ad : Nat → Nat} {h : Hp} {o ci : Nat} (hsh : SH o = (0, ci)) : cell E ad h o = .inr (ci, fv ad (hi h o) (hr h o) 0 (FK ci)) := by
  unfold cell; rw [hsh]; rfl
theorem cell_int {E : En} {ad : Nat → Nat} {h : Hp} {o n : Nat} (hsh : SH o = (1, n)) : cell E ad h o = .inl (E.2.1, n, .inl (hi h o)) := by
  unfold cell; rw [hsh]; rfl
theorem cell_bool {E : En} {ad : Nat → Nat} {h : Hp} {o n : Nat} (hsh : SH o = (2, n)) : cell E ad h o = .inl (E.2.2.1, n, .inl (hi h o)) := by
  unfold cell; rw [hsh]; rfl
theorem cell_kinds {E : En} {ad : Nat → Nat} {h : Hp} {o n : Nat} (hsh : SH o = (3, n)) : cell E ad h o = .inl (E.2.2.2.1, n, .inr (.inr (.inr (.inr (rrow (hr h o) ad))))) := by
  unfold cell; rw [hsh]; rfl
theorem cell_things {E : En} {ad : Nat → Nat} {h : Hp} {o n : Nat} (hsh : SH o = (4, n)) : cell E ad h o = .inl (E.2.2.2.2, n, .inr (.inr (.inr (.inr (rrow (hr h o) ad))))) := by
  unfold cell; rw [hsh]; rfl
theorem r_getI {o ci k idx : Nat} (hd : fet M pc = .ok (.getfield idx, 3)) (hp : pc + 3 = pc') {on : String} (hon : own M = on) (hs : SiteF on idx ci k true) (hsh : SH o = (0, ci)) (ho : o < hn h) (kk : wp d M Q kc ks pc' ls (vI (hi h o k) :: st) h) : wp d M Q kc ks pc ls (vR (some o) :: st) h := by
  subst hp
  intro p l e R s m args below meth c A Z E ad H locs lsC K G D hl g1 g2
  subst hon
  obtain ⟨hb, q, q1, q2, q3, q4⟩ := hs
  have hv := fv_get (ad := ad) (f := hi h o) (g := hr h o) (FK ci) 0 k _ hb
  rw [Nat.zero_add] at hv
  exact va_get (D := E.1) (T := q.2.1) (a := ad o) K.1 K.2.1 K.2.2.2.2.1 q3 K.2.2.2.1 K.2.2.2.2.2.1 D.1 o (by rw [toW_at ho, cell_obj hsh]) q1 k q2 (K.2.2.2.2.1 _ q4) (fun _ w => w) hv hd (kk p l e R s m args below meth c A Z E ad H locs lsC K G D hl g1 g2)
theorem r_getR {o ci k idx : Nat} (hd : fet M pc = .ok (.getfield idx, 3)) (hp : pc + 3 = pc') {on : String} (hon : own M = on) (hs : SiteF on idx ci k false) (hsh : SH o = (0, ci)) (ho : o < hn h) (kk : wp d M Q kc ks pc' ls (vR (hr h o k) :: st) h) : wp d M Q kc ks pc ls (vR (some o) :: st) h := by
  subst hp
  intro p l e R s m args below meth c A Z E ad H locs lsC K G D hl g1 g2
  subst hon
  obtain ⟨hb, q, q1, q2, q3, q4⟩ := hs
  have hv := fv_get (ad := ad) (f := hi h o) (g := hr h o) (FK ci) 0 k _ hb
  rw [Nat.zero_add] at hv
  exact va_get (D := E.1) (T := q.2.1) (a := ad o) K.1 K.2.1 K.2.2.2.2.1 q3 K.2.2.2.1 K.2.2.2.2.2.1 D.1 o (by rw [toW_at ho, cell_obj hsh]) q1 k q2 (K.2.2.2.2.1 _ q4) (fun _ w => w) hv hd (kk p l e R s m args below meth c A Z E ad H locs lsC K G D hl g1 g2)
theorem r_putI {x : Int32} {o ci k idx : Nat} {ty : FieldType} (hd : fet M pc = .ok (.putfield idx, 3)) (hp : pc + 3 = pc') {on : String} {fin : Bool} (hon : own M = on) (hs : SiteP on idx ci k true ty fin) (hsh : SH o = (0, ci)) (hfin : fin = true → (ym M).name = "<init>") (hty : ty = .int ∨ ty = .boolean ∧ (x = 0 ∨ x = 1)) (ho : o < hn h) (kk : wp d M Q kc ks pc' ls st (seti h o k x)) : wp d M Q kc ks pc ls (vI x :: vR (some o) :: st) h := by
  subst hp
  intro p l e R s m args below meth c A Z E ad H locs lsC K G D hl g1 g2
  subst hon
  obtain ⟨hb, q, q1, q2, q3, q4, ⟨⟨ty0, q5⟩, q6⟩, q7, q8⟩ := hs
  have hv := fv_setI (ad := ad) (f := hi h o) (g := hr h o) (v := x) (FK ci) 0 k hb
  rw [Nat.zero_add] at hv
  have hnar : narrow ty (.int x) = .int x ∧ fits ty (.int x) = true := by
    rcases hty with rfl | ⟨rfl, rfl | rfl⟩
    · exact ⟨vp_nar_int x, rfl⟩
    · exact ⟨rfl, rfl⟩
    · exact ⟨rfl, rfl⟩
  have hset : (toW E ad h).set o (ad o, .inr (ci, (fv ad (hi h o) (hr h o) 0 (FK ci)).set k (.int x))) = toW E ad (seti h o k x) := by
    refine toW_set rfl ?_ (fun a ha => hi_seti_ne h o k x a ha) (fun a _ => by rw [hr_seti])
    rw [cell_obj hsh, hv, hi_seti_row, hr_seti]
  have hlen : k < (fv ad (hi h o) (hr h o) 0 (FK ci)).length := by rw [fv_len]; exact (List.getElem?_eq_some_iff.mp hb).1
  rcases q8 with w | w
  · refine va_put (D := E.1) (T := q.2.1) (a := ad o) (v := .int x) K.1 K.2.1 K.2.2.2.2.1 q3 ty0 q5 q6 K.2.2.2.1 K.2.2.2.2.2.1 D.1 D.2.1 D.2.2 o (by rw [toW_at ho, cell_obj hsh]) q1 k q2 (K.2.2.2.2.1 _ q4) (fun _ w => w) w.2 q7 hnar.1 hnar.2 hlen hd (fun H1 locs1 e1 e2 e3 => ?_)
    rw [hset] at e1 e2
    exact kk p l e R s m args below meth c A Z E ad H1 locs1 lsC K G ⟨e1, e2, e3⟩ hl g1 g2
  · refine va_putF (D := E.1) (T := q.2.1) (a := ad o) (v := .int x) K.1 K.2.1 K.2.2.2.2.1 q3 ty0 q5 q6 K.2.2.2.1 K.2.2.2.2.2.1 D.1 D.2.1 D.2.2 o (by rw [toW_at ho, cell_obj hsh]) q1 k q2 (K.2.2.2.2.1 _ q4) (fun _ w => w) w.2.1 (K.2.2.2.2.2.2.2.2.2.2.2.2.trans (hfin w.1)) w.2.2 q7 hnar.1 hnar.2 hlen hd (fun H1 locs1 e1 e2 e3 => ?_)
    rw [hset] at e1 e2
    exact kk p l e R s m args below meth c A Z E ad H1 locs1 lsC K G ⟨e1, e2, e3⟩ hl g1 g2
theorem r_putR {x : Option Nat} {o ci k idx : Nat} {ty : FieldType} (hd : fet M pc = .ok (.putfield idx, 3)) (hp : pc + 3 = pc') {on : String} {fin : Bool} (hon : own M = on) (hs : SiteP on idx ci k false ty fin) (hsh : SH o = (0, ci)) (hfin : fin = true → (ym M).name = "<init>") (hty : (∃ n, ty = .object n) ∨ ∃ u, ty = .array u) (ho : o < hn h) (kk : wp d M Q kc ks pc' ls st (setr h o k x)) : wp d M Q kc ks pc ls (vR x :: vR (some o) :: st) h := by
  subst hp
  intro p l e R s m args below meth c A Z E ad H locs lsC K G D hl g1 g2
  subst hon
  obtain ⟨hb, q, q1, q2, q3, q4, ⟨⟨ty0, q5⟩, q6⟩, q7, q8⟩ := hs
  have hv := fv_setR (ad := ad) (f := hi h o) (g := hr h o) (v := x) (FK ci) 0 k hb
  rw [Nat.zero_add] at hv
  have hnar : narrow ty (va_rf (x.map ad)) = va_rf (x.map ad) ∧ fits ty (va_rf (x.map ad)) = true := by
    rcases hty with ⟨n, rfl⟩ | ⟨n, rfl⟩ <;> cases x <;> exact ⟨rfl, rfl⟩
  have hset : (toW E ad h).set o (ad o, .inr (ci, (fv ad (hi h o) (hr h o) 0 (FK ci)).set k (va_rf (x.map ad)))) = toW E ad (setr h o k x) := by
    refine toW_set rfl ?_ (fun a _ => by rw [hi_setr]) (fun a ha => hr_setr_ne h o k x a ha)
    rw [cell_obj hsh, hv, hr_setr_row, hi_setr]
  have hlen : k < (fv ad (hi h o) (hr h o) 0 (FK ci)).length := by rw [fv_len]; exact (List.getElem?_eq_some_iff.mp hb).1
  rcases q8 with w | w
  · refine va_put (D := E.1) (T := q.2.1) (a := ad o) (v := va_rf (x.map ad)) K.1 K.2.1 K.2.2.2.2.1 q3 ty0 q5 q6 K.2.2.2.1 K.2.2.2.2.2.1 D.1 D.2.1 D.2.2 o (by rw [toW_at ho, cell_obj hsh]) q1 k q2 (K.2.2.2.2.1 _ q4) (fun _ w => w) w.2 q7 hnar.1 hnar.2 hlen hd (fun H1 locs1 e1 e2 e3 => ?_)
    rw [hset] at e1 e2
    exact kk p l e R s m args below meth c A Z E ad H1 locs1 lsC K G ⟨e1, e2, e3⟩ hl g1 g2
  · refine va_putF (D := E.1) (T := q.2.1) (a := ad o) (v := va_rf (x.map ad)) K.1 K.2.1 K.2.2.2.2.1 q3 ty0 q5 q6 K.2.2.2.1 K.2.2.2.2.2.1 D.1 D.2.1 D.2.2 o (by rw [toW_at ho, cell_obj hsh]) q1 k q2 (K.2.2.2.2.1 _ q4) (fun _ w => w) w.2.1 (K.2.2.2.2.2.2.2.2.2.2.2.2.trans (hfin w.1)) w.2.2 q7 hnar.1 hnar.2 hlen hd (fun H1 locs1 e1 e2 e3 => ?_)
    rw [hset] at e1 e2
    exact kk p l e R s m args below meth c A Z E ad H1 locs1 lsC K G ⟨e1, e2, e3⟩ hl g1 g2
theorem r_iald {o n : Nat} {i : Int32} (hd : fet M pc = .ok (.iaload, 1)) (hp : pc + 1 = pc') (hsh : SH o = (1, n)) (ho : o < hn h) (hin : vp_in i n) (kk : wp d M Q kc ks pc' ls (vI (hi h o i.toNatClampNeg) :: st) h) : wp d M Q kc ks pc ls (vI i :: vR (some o) :: st) h := by
  subst hp
  intro p l e R s m args below meth c A Z E ad H locs lsC K G D hl g1 g2
  exact va_iald (D := E.1) (a := ad o) K.1 K.2.1 K.2.2.2.2.2.1 D.1 o 0 (by rw [toW_at ho, cell_int hsh]) rfl hin hd (kk p l e R s m args below meth c A Z E ad H locs lsC K G D hl g1 g2)
theorem r_bald {o n : Nat} {i : Int32} (hd : fet M pc = .ok (.baload, 1)) (hp : pc + 1 = pc') (hsh : SH o = (2, n)) (ho : o < hn h) (hin : vp_in i n) (kk : wp d M Q kc ks pc' ls (vI (hi h o i.toNatClampNeg) :: st) h) : wp d M Q kc ks pc ls (vI i :: vR (some o) :: st) h := by
  subst hp
  intro p l e R s m args below meth c A Z E ad H locs lsC K G D hl g1 g2
  exact va_zald (D := E.1) (a := ad o) K.1 K.2.1 K.2.2.2.2.2.1 D.1 o 1 (by rw [toW_at ho, cell_bool hsh]) rfl hin hd (kk p l e R s m args below meth c A Z E ad H locs lsC K G D hl g1 g2)
theorem r_iast {o n : Nat} {i x : Int32} (hd : fet M pc = .ok (.iastore, 1)) (hp : pc + 1 = pc') (hsh : SH o = (1, n)) (ho : o < hn h) (hin : vp_in i n) (kk : wp d M Q kc ks pc' ls st (seti h o i.toNatClampNeg x)) : wp d M Q kc ks pc ls (vI x :: vI i :: vR (some o) :: st) h := by
  subst hp
  intro p l e R s m args below meth c A Z E ad H locs lsC K G D hl g1 g2
  have hset : (toW E ad h).set o (ad o, .inl (E.2.1, n, .inl (upd (hi h o) i.toNatClampNeg x))) = toW E ad (seti h o i.toNatClampNeg x) := by
    refine toW_set rfl ?_ (fun a ha => hi_seti_ne h o _ x a ha) (fun a _ => by rw [hr_seti])
    rw [cell_int hsh, hi_seti_row]
  refine va_iast (D := E.1) (a := ad o) K.1 K.2.1 K.2.2.2.2.2.1 D.1 D.2.1 D.2.2 o 0 (by rw [toW_at ho, cell_int hsh]) rfl hin hd (fun H1 locs1 e1 e2 e3 => ?_)
  rw [hset] at e1 e2
  exact kk p l e R s m args below meth c A Z E ad H1 locs1 lsC K G ⟨e1, e2, e3⟩ hl g1 g2
theorem r_bast {o n : Nat} {i x : Int32} (hd : fet M pc = .ok (.bastore, 1)) (hp : pc + 1 = pc') (hsh : SH o = (2, n)) (ho : o < hn h) (hin : vp_in i n) (kk : wp d M Q kc ks pc' ls st (seti h o i.toNatClampNeg (vp_nar .boolean x))) : wp d M Q kc ks pc ls (vI x :: vI i :: vR (some o) :: st) h := by
  subst hp
  intro p l e R s m args below meth c A Z E ad H locs lsC K G D hl g1 g2
  have hset : (toW E ad h).set o (ad o, .inl (E.2.2.1, n, .inl (upd (hi h o) i.toNatClampNeg (vp_nar .boolean x)))) = toW E ad (seti h o i.toNatClampNeg (vp_nar .boolean x)) := by
    refine toW_set rfl ?_ (fun a ha => hi_seti_ne h o _ _ a ha) (fun a _ => by rw [hr_seti])
    rw [cell_bool hsh, hi_seti_row]
  refine va_zast (D := E.1) (a := ad o) K.1 K.2.1 K.2.2.2.2.2.1 D.1 D.2.1 D.2.2 o 1 (by rw [toW_at ho, cell_bool hsh]) rfl hin hd (fun H1 locs1 e1 e2 e3 => ?_)
  rw [hset] at e1 e2
  exact kk p l e R s m args below meth c A Z E ad H1 locs1 lsC K G ⟨e1, e2, e3⟩ hl g1 g2
theorem r_aaldK {o n : Nat} {i : Int32} (hd : fet M pc = .ok (.aaload, 1)) (hp : pc + 1 = pc') (hsh : SH o = (3, n)) (ho : o < hn h) (hin : vp_in i n) (kk : wp d M Q kc ks pc' ls (vR (hr h o i.toNatClampNeg) :: st) h) : wp d M Q kc ks pc ls (vI i :: vR (some o) :: st) h := by
  subst hp
  intro p l e R s m args below meth c A Z E ad H locs lsC K G D hl g1 g2
  exact va_aldq (D := E.1) (a := ad o) (f := rrow (hr h o) ad) K.1 K.2.1 K.2.2.2.2.2.1 D.1 o 2 (by rw [toW_at ho, cell_kinds hsh]) rfl hin hd (kk p l e R s m args below meth c A Z E ad H locs lsC K G D hl g1 g2)
theorem r_aaldT {o n : Nat} {i : Int32} (hd : fet M pc = .ok (.aaload, 1)) (hp : pc + 1 = pc') (hsh : SH o = (4, n)) (ho : o < hn h) (hin : vp_in i n) (kk : wp d M Q kc ks pc' ls (vR (hr h o i.toNatClampNeg) :: st) h) : wp d M Q kc ks pc ls (vI i :: vR (some o) :: st) h := by
  subst hp
  intro p l e R s m args below meth c A Z E ad H locs lsC K G D hl g1 g2
  exact va_aldq (D := E.1) (a := ad o) (f := rrow (hr h o) ad) K.1 K.2.1 K.2.2.2.2.2.1 D.1 o 3 (by rw [toW_at ho, cell_things hsh]) rfl hin hd (kk p l e R s m args below meth c A Z E ad H locs lsC K G D hl g1 g2)
theorem r_alen {o n t : Nat} (hd : fet M pc = .ok (.arraylength, 1)) (hp : pc + 1 = pc') (hsh : SH o = (t, n)) (ht : 0 < t ∧ t < 5) (ho : o < hn h) (kk : wp d M Q kc ks pc' ls (vI (nI n) :: st) h) : wp d M Q kc ks pc ls (vR (some o) :: st) h := by
  subst hp
  intro p l e R s m args below meth c A Z E ad H locs lsC K G D hl g1 g2
  rcases (show t = 1 ∨ t = 2 ∨ t = 3 ∨ t = 4 by omega) with rfl | rfl | rfl | rfl
  · exact va_alen (D := E.1) (a := ad o) (x := (n, .inl (hi h o))) K.1 K.2.1 K.2.2.2.2.2.1 D.1 o 0 (by rw [toW_at ho, cell_int hsh]) rfl rfl hd (kk p l e R s m args below meth c A Z E ad H locs lsC K G D hl g1 g2)
  · exact va_alen (D := E.1) (a := ad o) (x := (n, .inl (hi h o))) K.1 K.2.1 K.2.2.2.2.2.1 D.1 o 1 (by rw [toW_at ho, cell_bool hsh]) rfl rfl hd (kk p l e R s m args below meth c A Z E ad H locs lsC K G D hl g1 g2)
  · exact va_alen (D := E.1) (a := ad o) (x := (n, .inr (.inr (.inr (.inr (rrow (hr h o) ad)))))) K.1 K.2.1 K.2.2.2.2.2.1 D.1 o 2 (by rw [toW_at ho, cell_kinds hsh]) rfl rfl hd (kk p l e R s m args below meth c A Z E ad H locs lsC K G D hl g1 g2)
  · exact va_alen (D := E.1) (a := ad o) (x := (n, .inr (.inr (.inr (.inr (rrow (hr h o) ad)))))) K.1 K.2.1 K.2.2.2.2.2.1 D.1 o 3 (by rw [toW_at ho, cell_things hsh]) rfl rfl hd (kk p l e R s m args below meth c A Z E ad H locs lsC K G D hl g1 g2)
end Rules
end
section
/-! a method's contract out of wp; calls -/
theorem spec_intro {d M : Nat} {av : List AV} {h : Hp} {Q : Option AV → Hp → Prop} (hy : plainName (own M) = true) (hnl : av.all (fun v => !isL v) = true) (hlen : av.length ≤ ml M) (hwp : wp d M Q 0 0 0 (la 0 av) [] h) : Spec d M av h Q := by
  intro l E ad sz
  refine Met.ofW (cc := bt M) (maxL := ml M) (ret := rt M) hy rfl ?_
  intro p e s m args below meth c s₁ B hml hv
  obtain ⟨rfl, hsz, ⟨hP, hK, hN⟩, hD0⟩ := hv
  have hts := atoms_spec (ws := WS M) B.pre
  have hown : s.vm.findClass (own M) = some m.cls := findClass_of_methodNamed B.named
  have hlocks := B.notSynchronized
  subst hsz
  have hD := hD0.self (sz := s.heap.size)
  have hl := lv_entry (av.map (cv ad)) (n := ml M) (by rw [la_len _ _ hnl]; exact hlen)
  rw [la_args ad av hnl 0] at hl
  rw [lg_entry_eq]
  refine hwp p l e _ s m _ below meth c (va_A (toW E ad h) s.heap.size) _ E ad s.heap [] _ ⟨B.exec, B.bytes, hml, hown, fun w hw => hts w (List.mem_cons_of_mem _ hw), hK, fun q hq => Or.inr hq, hN, Nat.le_refl _, Nat.le_refl _, Nat.le_refl _, Nat.le_refl _, (name_of_methodNamed B.named B.method).1⟩ ?_ ⟨hP, hD, va_S.rf⟩ hl (Nat.zero_le _) (Nat.zero_le _)
  intro ad' r h1 H locs kc ks pc lsC a1 a2 a3 a4 a5 a6 a7 a8
  refine W.widen a6 a7 ?_
  have hq : ∀ t : State, t.heap = H → s.WarmedH t.vm → PostC E ad h Q M s.heap.size (av.map (cv ad)).toArray s (.returned (r.map (cv ad'))) t := fun t ht hW => ⟨⟨r, h1, ad', a1, a2, a3, rfl, a4, by rw [ht]; exact a5.1, a5.2.1⟩, a5.2.2.F ht⟩
  rcases r with _ | x | x | o
  · exact W.vret B.exec B.bytes (B.returns.trans a8.2) hq a5.2.2.2.2 a8.1
  · obtain ⟨hd, t, hr0, hn0⟩ := a8
    exact W.zret B.exec B.bytes (B.returns.trans hr0) hn0 hq a5.2.2.2.2 hd
  · exact a8.elim
  · obtain ⟨hd, t, hr0, ht⟩ := a8
    exact W.aret B.exec B.bytes (B.returns.trans hr0) ht (by cases o with
      | none => exact Or.inl rfl
      | some q => exact Or.inr ⟨_, rfl⟩) hq a5.2.2.2.2 hd
theorem run_W {p : Program} {l : Launch} {e : Env} {R : Room} {s : State} {m : MethodId} {args : Array Value} {below : List Frame} {meth : Method} {c : Code} {H : Heap} {locs : List Loc} {kc ks : Nat} {Z : State → Prop} {E : En} {ad : Nat → Nat} {h : Hp} {Q : Option AV → Hp → Prop} {M' pc : Nat} {A : Nat → Prop} {lsC : Array Slot} {st0 rest : List Value} {av : Array Value}
    (hr : va_Run p l e R s m args below meth c H locs kc ks (mc M') (ms M') (F0 m pc lsC st0) rest (PostC E ad h Q M' H.size av) (va_A (toW E ad h) H.size)) (hD : va_D A (toW E ad h)) (hS : va_S A s.heap H locs) (hA : ∀ q, s.heap.size ≤ q → A q)
    (kk : ∀ (r : Option AV) (h1 : Hp) (ad' : Nat → Nat) (H1 : Heap) (locs1 : List Loc), (∀ k, k < hn h → ad' k = ad k) → hn h ≤ hn h1 → (mc M' = 0 → ad' = ad ∧ hn h1 = hn h) → Q r h1 → WD E A ad' h1 s.heap H1 locs1 → W p l e R s m args below meth c H1 locs1 (kc + mc M') (ks + ms M') Z (F0 m (pc + 3) lsC ((r.map (cv ad')).toList ++ rest))) : W p l e R s m args below meth c H locs kc ks Z (F0 m pc lsC st0) := by
  have hF : ∀ q, va_A (toW E ad h) H.size q → A q := by
    intro q hq
    rcases hq with ⟨k, e0, hk⟩ | hq
    · exact hD.2 k _ hk
    · exact hA q (Nat.le_trans hS.1 hq)
  intro T hT X
  obtain ⟨v, st₀, t, T', L, h0, X', hL, e1, e2, ⟨⟨r, h1, ad', a1, a2, a3, hv, a4, a5, a6⟩, hz, hk⟩, st⟩ := hr T hT X
  have hv := Outcome.returned.inj hv
  subst hv
  rw [h0] at hz hk
  obtain ⟨t2, b1, b2⟩ := kk r h1 ad' T'.heap (locs ++ L) a1 a2 a3 a4 ⟨by rw [e1]; exact a5, a6.weaken (fun k q _ w => hF _ w), ⟨Nat.le_trans hS.1 (by rw [e1]; exact hz), fun q h1 h2 => by rw [e1, hk q (Nat.lt_of_lt_of_le h1 hS.1) (fun z => h2 (hF q z))]; exact hS.2.1 q h1 h2, fun q hq => by
      rcases List.mem_append.mp hq with w | w
      · exact hS.2.2 q w
      · exact hF _ (hL q w)⟩⟩ T' rfl X'
  exact ⟨t2, st t2 b1, b2⟩
/-- what a call site gives: the tables' words of the call are there -/
def Site (o : String) (ins : Instr) (cr : Option Nat) (M' : Nat) : Prop :=
  ∀ (p : Program) (l : Launch) (e : Env) (R : Room) (s : State) (m : MethodId) (args : Array Value) (below : List Frame) (meth : Method) (c : Code) (H : Heap) (locs : List Loc) (kc ks : Nat) (cc : ByteArray) (nL : Nat) (Pc : Array Value → State → Prop) (Qc : Array Value → State → Outcome → State → Prop) (free : Addr → Prop) (rm : Room) (As rest : List Value) (g : JFrame) (E : En),
    CallFix p m c cc nL s args TBL o → NC s → va_K E.1 classes (tysE E) s → Met l (ym M') (WS M') rm Pc Qc (mc M') (ms M') free → rm.cells = mc M' → rm.slots = ms M' → (rm.frames + 1 ≤ R.frames ∧ 8 + (ml M' + 11) + rm.locals ≤ R.locals) → FrameBlind Pc → (∀ U : State, U.heap = H → s.WarmedH U.vm → Pc As.toArray U) →
    (∀ ci, cr = some ci → ∃ (b : Addr) (As' : List Value) (q : vw_C) (cl : Cell), As = .ref b :: As' ∧ classes[ci]? = some q ∧ H[b]? = some cl ∧ cl.vm.isStatics = false ∧ s.vm.findClass q.1 = some cl.cls) →
    As.length = na M' + (if cr.isSome then 1 else 0) → g.method = m → g.locals.size = nL → g.stack = As.reverse ++ rest → 2 * g.monitorRoom + (rest.map fun v => v.category).sum ≤ 8 → decode cc g.pc = .ok (ins, 3) → (kc + mc M' ≤ R.cells ∧ ks + ms M' ≤ R.slots) →
    va_Run p l e R s m args below meth c H locs kc ks (mc M') (ms M') g rest (Qc As.toArray) free
def rcv (cr : Option Nat) (av : List AV) (h : Hp) : Prop := ∀ ci, cr = some ci → ∃ (o : Nat) (t : List AV), av = vR (some o) :: t ∧ SH o = (0, ci) ∧ o < hn h
theorem cat_sum (ad : Nat → Nat) (st : List AV) : ((st.map (cv ad)).map fun v => v.category) = st.map wt := by
  rw [List.map_map]
  apply List.map_congr_left
  intro v _
  exact cv_cat ad v
section Calls
variable {d M : Nat} {Q : Option AV → Hp → Prop} {kc ks pc pc' : Nat} {ls ls' : List (Nat × AV)} {st st0 : List AV} {h : Hp}
/-- a call's run, out of the site and the callee's contract -/
theorem site_run {M' : Nat} {ins : Instr} {cr : Option Nat} {av : List AV} {Q' : Option AV → Hp → Prop} {p : Program} {l : Launch} {e : Env} {R : Room} {s : State} {m : MethodId} {args : Array Value} {below : List Frame} {meth : Method} {c : Code} {A : Nat → Prop} {E : En} {ad : Nat → Nat} {H : Heap} {locs : List Loc} {lsC : Array Slot}
    (K : OKX p R s m args meth c A E (d + 1) M) (D : WD E A ad h s.heap H locs) (hl : lv_has lsC (ml M) (lc ad ls))
    (hd : fet M pc = .ok (ins, 3)) {on : String} (hon : own M = on) (hs : Site on ins cr M') (hcr : rcv cr av h) (hlen : av.length = na M' + (if cr.isSome then 1 else 0)) (hml : ml M' ≤ 20) (hwt : (st.map wt).sum ≤ 8) (hst : st0 = av.reverse ++ st) (hkc : kc + mc M' ≤ mc M) (hks : ks + ms M' ≤ ms M) (kk : Spec d M' av h Q') :
    va_Run p l e R s m args below meth c H locs kc ks (mc M') (ms M') (F0 m pc lsC (st0.map (cv ad))) (st.map (cv ad)) (PostC E ad h Q' M' H.size (av.map (cv ad)).toArray) (va_A (toW E ad h) H.size) := by
  subst hon
  obtain ⟨k1, k2, k3, k4, k5, k6, k7, k8, k9, k10, k11, k12, k13⟩ := K
  refine hs p l e R s m args below meth c H locs kc ks (bt M) (ml M) (PreC E ad h av H.size) (PostC E ad h Q' M' H.size) (va_A (toW E ad h) H.size) (rmD d M') (av.map (cv ad)) (st.map (cv ad)) (F0 m pc lsC (st0.map (cv ad))) E ⟨k1, k2, k3, k4, k5⟩ k8 k6 (kk l E ad H.size) rfl rfl ⟨k9, ?_⟩ PreC.blind ?_ ?_ ?_ rfl hl.1 ?_ ?_ hd ⟨Nat.le_trans hkc k11, Nat.le_trans hks k12⟩
  · show 8 + (ml M' + 11) + 40 * d ≤ R.locals
    omega
  · intro U hU hW
    exact ⟨rfl, by rw [hU], ⟨by rw [hU]; exact D.1, va_K.moved hW.alike k6, k8.warm hW⟩, D.2.1.weaken (fun _ _ _ _ => trivial)⟩
  · intro ci hci
    obtain ⟨o, t, rfl, hsh, ho⟩ := hcr ci hci
    have he : (toW E ad h)[o]? = some (ad o, .inr (ci, fv ad (hi h o) (hr h o) 0 (FK ci))) := by rw [toW_at ho, cell_obj hsh]
    obtain ⟨q, hq, -⟩ := D.1 o _ he
    obtain ⟨cl, c1, c2, c3⟩ := va_recv k6 D.1 hq he
    exact ⟨ad o, t.map (cv ad), q, cl, rfl, hq, c1, c2, c3⟩
  · rw [List.length_map]; exact hlen
  · rw [hst, List.map_append, List.map_reverse]
  · refine lv_room ?_
    rw [cat_sum]
    exact hwt
theorem r_call {M' : Nat} {ins : Instr} {cr : Option Nat} (av st : List AV) (hd : fet M pc = .ok (ins, 3)) (hp : pc + 3 = pc') {on : String} (hon : own M = on) (hs : Site on ins cr M') (hcr : rcv cr av h) (hlen : av.length = na M' + (if cr.isSome then 1 else 0)) (hml : ml M' ≤ 20) (hm : mc M' = 0 ∧ ms M' = 0) (hwt : (st.map wt).sum ≤ 8) (hst : st0 = av.reverse ++ st)
    (kk : Spec d M' av h (fun r h1 => wp (d + 1) M Q kc ks pc' ls (r.toList ++ st) h1)) : wp (d + 1) M Q kc ks pc ls st0 h := by
  subst hp
  intro p l e R s m args below meth c A Z E ad H locs lsC K G D hl g1 g2
  refine run_W (site_run K D hl hd hon hs hcr hlen hml hwt hst (by rw [hm.1]; exact g1) (by rw [hm.2]; exact g2) kk) D.2.1 D.2.2 K.2.2.2.2.2.2.1 ?_
  intro r h1 ad' H1 locs1 a1 a2 a3 a4 a5
  obtain ⟨e1, e2⟩ := a3 hm.1
  subst e1
  rw [hm.1, hm.2]
  have w := a4 p l e R s m args below meth c A Z E ad' H1 locs1 lsC K (by rw [e2]; exact G) a5 hl g1 g2
  rw [List.map_append] at w
  cases r with
  | none => exact w
  | some v => exact w
end Calls
end
section
/-! making cells; the JDK's own; instanceof (printed by wip/whole/p07.py) -/
def okv (n : Nat) : AV → Bool
  | .inr (.inr (some k)) => decide (k < n)
  | _ => true
def Val (h : Hp) : Prop := ∀ k j x, k < hn h → hr h k j = some x → x < hn h
def ext1 (ad : Nat → Nat) (n a : Nat) : Nat → Nat := fun k => if k = n then a else ad k
theorem ext1_lt {ad : Nat → Nat} {n a k : Nat} (hk : k < n) : ext1 ad n a k = ad k := by
  have hne : k ≠ n := by omega
  simp [ext1, hne]
theorem ext1_at {ad : Nat → Nat} {n a : Nat} : ext1 ad n a n = a := by simp [ext1]
theorem cv_ok {n : Nat} {ad ad' : Nat → Nat} {v : AV} (hv : okv n v = true) (ha : ∀ k, k < n → ad' k = ad k) : cv ad' v = cv ad v := by
  rcases v with x | x | o
  · rfl
  · rfl
  · cases o with
    | none => rfl
    | some k =>
      have hk : k < n := by simpa [okv] using hv
      simp [cv, ha k hk]
theorem lc_ok {n : Nat} {ad ad' : Nat → Nat} {ls : List (Nat × AV)} (hv : ls.all (fun q => okv n q.2) = true) (ha : ∀ k, k < n → ad' k = ad k) : lc ad' ls = lc ad ls := by
  unfold lc
  apply List.map_congr_left
  intro q hq
  rw [cv_ok (List.all_eq_true.mp hv q hq) ha]
theorem st_ok {n : Nat} {ad ad' : Nat → Nat} {st : List AV} (hv : st.all (okv n) = true) (ha : ∀ k, k < n → ad' k = ad k) : st.map (cv ad') = st.map (cv ad) := by
  apply List.map_congr_left
  intro q hq
  exact cv_ok (List.all_eq_true.mp hv q hq) ha
theorem fv_ad {ad ad' : Nat → Nat} {f : Nat → Int32} {g : Nat → Option Nat} (hv : ∀ j x, g j = some x → ad' x = ad x) : ∀ (l : List Bool) (j : Nat), fv ad' f g j l = fv ad f g j l := by
  intro l
  induction l with
  | nil => intro j; rfl
  | cons b t ih =>
    intro j
    cases b with
    | true => simp [fv, ih]
    | false =>
      have e : (g j).map ad' = (g j).map ad := by
        cases hg : g j with
        | none => rfl
        | some x => simp [hv j x hg]
      simp [fv, ih, e]
theorem rrow_ad {ad ad' : Nat → Nat} {g : Nat → Option Nat} (hv : ∀ j x, g j = some x → ad' x = ad x) : rrow g ad' = rrow g ad := by
  funext j
  unfold rrow
  cases hg : g j with
  | none => rfl
  | some x => simp [hv j x hg]
theorem cell_ad {E : En} {ad ad' : Nat → Nat} {h h' : Hp} {k : Nat} (h1 : hi h' k = hi h k) (h2 : hr h' k = hr h k) (hv : ∀ j x, hr h k j = some x → ad' x = ad x) : cell E ad' h' k = cell E ad h k := by
  unfold cell
  rw [h1, h2, rrow_ad hv]
  split <;> first | rfl | rw [fv_ad hv]
theorem hi_grow_lt {h : Hp} {k : Nat} (hk : k < hn h) : hi (grow h) k = hi h k := by
  have hne : k ≠ h.1 := Nat.ne_of_lt hk
  simp [hi, grow, hne]
theorem hr_grow_lt {h : Hp} {k : Nat} (hk : k < hn h) : hr (grow h) k = hr h k := by
  have hne : k ≠ h.1 := Nat.ne_of_lt hk
  simp [hr, grow, hne]
theorem hi_grow_at {h : Hp} : hi (grow h) (hn h) = fun _ => 0 := by simp [hi, grow, hn]
theorem hr_grow_at {h : Hp} : hr (grow h) (hn h) = fun _ => none := by simp [hr, grow, hn]
theorem toW_grow {E : En} {ad ad' : Nat → Nat} {h : Hp} (hv : Val h) (ha : ∀ k, k < hn h → ad' k = ad k) : toW E ad' (grow h) = toW E ad h ++ [(ad' (hn h), cell E ad' (grow h) (hn h))] := by
  show (List.range (hn h + 1)).map _ = _
  rw [List.range_succ, List.map_append]
  congr 1
  unfold toW
  apply List.map_congr_left
  intro k hk
  have hk : k < hn h := List.mem_range.mp hk
  rw [ha k hk, cell_ad (hi_grow_lt hk) (hr_grow_lt hk) (fun j x hx => ha x (hv k j x hk hx))]
theorem Val.grow {h : Hp} (hv : Val h) : Val (grow h) := by
  intro k j x hk hx
  by_cases hlt : k < hn h
  · rw [hr_grow_lt hlt] at hx
    exact Nat.lt_succ_of_lt (hv k j x hlt hx)
  · have : k = hn h := by
      have : k < hn h + 1 := hk
      omega
    subst this
    rw [hr_grow_at] at hx
    cases hx
theorem Val.seti {h : Hp} (hv : Val h) (k j : Nat) (x : Int32) : Val (seti h k j x) := hv
theorem Val.setr {h : Hp} (hv : Val h) (k j : Nat) (x : Nat) (hx : x < hn h) : Val (setr h k j (some x)) := by
  intro a b y ha hy
  rw [hr_setr] at hy
  split at hy
  · cases hy; exact hx
  · exact hv a b y ha hy
theorem RT_ext {p : Program} {l : Launch} {e : Env} {R : Room} {s : State} {m : MethodId} {args : Array Value} {below : List Frame} {meth : Method} {c : Code} {A : Nat → Prop} {Z : State → Prop} {E : En} {ad ad1 : Nat → Nat} {n n1 M : Nat} {Q : Option AV → Hp → Prop} (G : RT p l e R s m args below meth c A Z E ad n M Q) (hm : mc M ≠ 0) (ha : ∀ k, k < n → ad1 k = ad k) (hn1 : n ≤ n1) : RT p l e R s m args below meth c A Z E ad1 n1 M Q := by
  intro ad' r h1 H locs kc ks pc lsC a1 a2 a3 a4 a5 a6 a7 a8
  exact G ad' r h1 H locs kc ks pc lsC (fun k hk => (a1 k (Nat.lt_of_lt_of_le hk hn1)).trans (ha k hk)) (Nat.le_trans hn1 a2) (fun z => absurd z hm) a4 a5 a6 a7 a8
theorem ra_eq {U : State} {cA cB : ClassId} {ty : FieldType} (h1 : va_RA U cA ty) (h2 : va_RA U cB ty) : cA = cB := by
  cases ty with
  | object C =>
    obtain ⟨_, _, _, _, _, f1⟩ := h1
    obtain ⟨_, _, _, _, _, f2⟩ := h2
    exact Option.some.inj (f1.symm.trans f2)
  | _ => exact Option.some.inj (Eq.trans (Eq.symm h1) h2)
def SiteN (o : String) (idx ci N : Nat) : Prop := ∃ q : vw_C, classes[ci]? = some q ∧ q.2.2 = N ∧ (∀ w ∈ u_ws q.1 q.2.1 q.2.2, w ∈ TBL) ∧ Cond.classLink o idx q.1 ∈ TBL ∧ Cond.instantiable q.1 N ∈ TBL ∧ Cond.initialized q.1 ∈ TBL ∧ ∃ ty : Nat → FieldType, (∀ k, k < N → parseFieldDescriptor (q.2.1 k).2.2.1 = some (ty k)) ∧ ∀ j, j < N → defaultValue (ty j) = vp_V (fv id (fun _ => 0) (fun _ => none) 0 (FK ci)) j
section Making
variable {d M : Nat} {Q : Option AV → Hp → Prop} {kc ks pc pc' : Nat} {ls ls' : List (Nat × AV)} {st st0 : List AV} {h : Hp}
theorem r_new {idx ci N : Nat} (hd : fet M pc = .ok (.new idx, 3)) (hp : pc + 3 = pc') {on : String} (hon : own M = on) (hs : SiteN on idx ci N) (hsh : SH (hn h) = (0, ci)) (hv : Val h) (hls : ls.all (fun q => okv (hn h) q.2) = true) (hst : st.all (okv (hn h)) = true) (hkc : kc + 1 ≤ mc M) (hks : ks + N ≤ ms M) (kk : wp d M Q (kc + 1) (ks + N) pc' ls (vR (some (hn h)) :: st) (grow h)) : wp d M Q kc ks pc ls st h := by
  subst hp
  intro p l e R s m args below meth c A Z E ad H locs lsC K G D hl g1 g2
  subst hon
  obtain ⟨q, q1, q2, q3, q4, q5, q6, ty, q7, q8⟩ := hs
  subst q2
  obtain ⟨k1, k2, k3, k4, k5, k6, k7, k8, k9, k10, k11, k12, k13⟩ := id K
  refine va_new (D := E.1) (T := q.2.1) (ci := ci) (fs := fv id (fun _ => 0) (fun _ => none) 0 (FK ci)) k1 k2 k5 q3 ty q7 k4 (k5 _ q4) (k5 _ q5) (k5 _ q6) k6 D.1 D.2.1 D.2.2 k7 q1 q8 (Nat.le_trans hkc k11) (Nat.le_trans hks k12) hd (fun a H1 e1 e2 e3 => ?_)
  have hag : ∀ k, k < hn h → ext1 ad (hn h) a k = ad k := fun k hk => ext1_lt hk
  have hw : toW E (ext1 ad (hn h) a) (grow h) = toW E ad h ++ [(a, .inr (ci, fv id (fun _ => 0) (fun _ => none) 0 (FK ci)))] := by
    rw [toW_grow hv hag, ext1_at, cell_obj hsh, hi_grow_at, hr_grow_at, fv_ad (ad := id) (fun j x hx => by cases hx)]
  have w := kk p l e R s m args below meth c A Z E (ext1 ad (hn h) a) H1 locs lsC K (RT_ext G (by omega) hag (Nat.le_succ _)) ⟨by rw [hw]; exact e1, by rw [hw]; exact e2, e3⟩ (by rw [lc_ok hls hag]; exact hl) hkc hks
  rw [List.map_cons, st_ok hst hag, show cv (ext1 ad (hn h) a) (vR (some (hn h))) = .ref a by simp [cv, va_rf, ext1_at]] at w
  exact w
theorem r_newI {n : Int32} {N : Nat} (hd : fet M pc = .ok (.newarray .int, 2)) (hp : pc + 2 = pc') (hs : Cond.arrayClass .int ∈ TBL) (hsh : SH (hn h) = (1, N)) (hn0 : ¬ n < 0) (hN : n.toNatClampNeg = N) (hby : N ≤ 10000) (hv : Val h) (hls : ls.all (fun q => okv (hn h) q.2) = true) (hst : st.all (okv (hn h)) = true) (hkc : kc + 1 ≤ mc M) (hks : ks + N ≤ ms M) (kk : wp d M Q (kc + 1) (ks + N) pc' ls (vR (some (hn h)) :: st) (grow h)) : wp d M Q kc ks pc ls (vI n :: st) h := by
  subst hp
  intro p l e R s m args below meth c A Z E ad H locs lsC K G D hl g1 g2
  obtain ⟨k1, k2, k3, k4, k5, k6, k7, k8, k9, k10, k11, k12, k13⟩ := id K
  refine va_newa (D := E.1) (atype := .int) (a0 := (N, .inl (fun _ => 0))) (ty := .int) k1 k2 (k5 _ hs) rfl k6 D.1 D.2.1 D.2.2 k7 (fun _ => rfl) hn0 hN (by show N * 4 ≤ 536870912; omega) (Nat.le_trans hkc k11) (Nat.le_trans hks k12) hd (fun a cA H1 e0 e1 e2 e3 => ?_)
  have hcA : cA = E.2.1 := ra_eq (e0.2 4 (cA, .int) rfl).2 (k6.2 0 (E.2.1, .int) rfl).2
  subst hcA
  have hag : ∀ k, k < hn h → ext1 ad (hn h) a k = ad k := fun k hk => ext1_lt hk
  have hw : toW E (ext1 ad (hn h) a) (grow h) = toW E ad h ++ [(a, .inl (E.2.1, N, .inl (fun _ => 0)))] := by
    rw [toW_grow hv hag, ext1_at, cell_int hsh, hi_grow_at]
  have w := kk p l e R s m args below meth c A Z E (ext1 ad (hn h) a) H1 locs lsC K (RT_ext G (by omega) hag (Nat.le_succ _)) ⟨by rw [hw]; exact e1, by rw [hw]; exact e2, e3⟩ (by rw [lc_ok hls hag]; exact hl) hkc hks
  rw [List.map_cons, st_ok hst hag, show cv (ext1 ad (hn h) a) (vR (some (hn h))) = .ref a by simp [cv, va_rf, ext1_at]] at w
  exact w
theorem r_newZ {n : Int32} {N : Nat} (hd : fet M pc = .ok (.newarray .boolean, 2)) (hp : pc + 2 = pc') (hs : Cond.arrayClass .boolean ∈ TBL) (hsh : SH (hn h) = (2, N)) (hn0 : ¬ n < 0) (hN : n.toNatClampNeg = N) (hby : N ≤ 10000) (hv : Val h) (hls : ls.all (fun q => okv (hn h) q.2) = true) (hst : st.all (okv (hn h)) = true) (hkc : kc + 1 ≤ mc M) (hks : ks + N ≤ ms M) (kk : wp d M Q (kc + 1) (ks + N) pc' ls (vR (some (hn h)) :: st) (grow h)) : wp d M Q kc ks pc ls (vI n :: st) h := by
  subst hp
  intro p l e R s m args below meth c A Z E ad H locs lsC K G D hl g1 g2
  obtain ⟨k1, k2, k3, k4, k5, k6, k7, k8, k9, k10, k11, k12, k13⟩ := id K
  refine va_newa (D := E.1) (atype := .boolean) (a0 := (N, .inl (fun _ => 0))) (ty := .boolean) k1 k2 (k5 _ hs) rfl k6 D.1 D.2.1 D.2.2 k7 (fun _ => rfl) hn0 hN (by show N * 1 ≤ 536870912; omega) (Nat.le_trans hkc k11) (Nat.le_trans hks k12) hd (fun a cA H1 e0 e1 e2 e3 => ?_)
  have hcA : cA = E.2.2.1 := ra_eq (e0.2 4 (cA, .boolean) rfl).2 (k6.2 1 (E.2.2.1, .boolean) rfl).2
  subst hcA
  have hag : ∀ k, k < hn h → ext1 ad (hn h) a k = ad k := fun k hk => ext1_lt hk
  have hw : toW E (ext1 ad (hn h) a) (grow h) = toW E ad h ++ [(a, .inl (E.2.2.1, N, .inl (fun _ => 0)))] := by
    rw [toW_grow hv hag, ext1_at, cell_bool hsh, hi_grow_at]
  have w := kk p l e R s m args below meth c A Z E (ext1 ad (hn h) a) H1 locs lsC K (RT_ext G (by omega) hag (Nat.le_succ _)) ⟨by rw [hw]; exact e1, by rw [hw]; exact e2, e3⟩ (by rw [lc_ok hls hag]; exact hl) hkc hks
  rw [List.map_cons, st_ok hst hag, show cv (ext1 ad (hn h) a) (vR (some (hn h))) = .ref a by simp [cv, va_rf, ext1_at]] at w
  exact w
theorem r_newK {n : Int32} {N idx : Nat} (hd : fet M pc = .ok (.anewarray idx, 3)) (hp : pc + 3 = pc') {on : String} (hon : own M = on) (hs : Cond.classLink on idx RX3 ∈ TBL) (hov : RX3 ∈ overL) (hsh : SH (hn h) = (3, N)) (hn0 : ¬ n < 0) (hN : n.toNatClampNeg = N) (hby : N ≤ 10000) (hv : Val h) (hls : ls.all (fun q => okv (hn h) q.2) = true) (hst : st.all (okv (hn h)) = true) (hkc : kc + 1 ≤ mc M) (hks : ks + N ≤ ms M) (kk : wp d M Q (kc + 1) (ks + N) pc' ls (vR (some (hn h)) :: st) (grow h)) : wp d M Q kc ks pc ls (vI n :: st) h := by
  subst hp
  subst hon
  intro p l e R s m args below meth c A Z E ad H locs lsC K G D hl g1 g2
  obtain ⟨k1, k2, k3, k4, k5, k6, k7, k8, k9, k10, k11, k12, k13⟩ := id K
  refine va_newq (D := E.1) (C := RX3) k1 k2 k4 (k5 _ hs) (k8.2.2.2 _ hov) k6 D.1 D.2.1 D.2.2 k7 hn0 hN (by omega) (Nat.le_trans hkc k11) (Nat.le_trans hks k12) hd (fun a cA H1 e0 e1 e2 e3 => ?_)
  have hcA : cA = E.2.2.2.1 := ra_eq (e0.2 4 (cA, .object RX3) rfl).2 (k6.2 2 (E.2.2.2.1, .object RX3) rfl).2
  subst hcA
  have hag : ∀ k, k < hn h → ext1 ad (hn h) a k = ad k := fun k hk => ext1_lt hk
  have hw : toW E (ext1 ad (hn h) a) (grow h) = toW E ad h ++ [(a, .inl (E.2.2.2.1, N, .inr (.inr (.inr (.inr (fun _ => none))))))] := by
    rw [toW_grow hv hag, ext1_at, cell_kinds hsh, hr_grow_at]
    rfl
  have w := kk p l e R s m args below meth c A Z E (ext1 ad (hn h) a) H1 locs lsC K (RT_ext G (by omega) hag (Nat.le_succ _)) ⟨by rw [hw]; exact e1, by rw [hw]; exact e2, e3⟩ (by rw [lc_ok hls hag]; exact hl) hkc hks
  rw [List.map_cons, st_ok hst hag, show cv (ext1 ad (hn h) a) (vR (some (hn h))) = .ref a by simp [cv, va_rf, ext1_at]] at w
  exact w
theorem r_newT {n : Int32} {N idx : Nat} (hd : fet M pc = .ok (.anewarray idx, 3)) (hp : pc + 3 = pc') {on : String} (hon : own M = on) (hs : Cond.classLink on idx RX8 ∈ TBL) (hov : RX8 ∈ overL) (hsh : SH (hn h) = (4, N)) (hn0 : ¬ n < 0) (hN : n.toNatClampNeg = N) (hby : N ≤ 10000) (hv : Val h) (hls : ls.all (fun q => okv (hn h) q.2) = true) (hst : st.all (okv (hn h)) = true) (hkc : kc + 1 ≤ mc M) (hks : ks + N ≤ ms M) (kk : wp d M Q (kc + 1) (ks + N) pc' ls (vR (some (hn h)) :: st) (grow h)) : wp d M Q kc ks pc ls (vI n :: st) h := by
  subst hp
  subst hon
  intro p l e R s m args below meth c A Z E ad H locs lsC K G D hl g1 g2
  obtain ⟨k1, k2, k3, k4, k5, k6, k7, k8, k9, k10, k11, k12, k13⟩ := id K
  refine va_newq (D := E.1) (C := RX8) k1 k2 k4 (k5 _ hs) (k8.2.2.2 _ hov) k6 D.1 D.2.1 D.2.2 k7 hn0 hN (by omega) (Nat.le_trans hkc k11) (Nat.le_trans hks k12) hd (fun a cA H1 e0 e1 e2 e3 => ?_)
  have hcA : cA = E.2.2.2.2 := ra_eq (e0.2 4 (cA, .object RX8) rfl).2 (k6.2 3 (E.2.2.2.2, .object RX8) rfl).2
  subst hcA
  have hag : ∀ k, k < hn h → ext1 ad (hn h) a k = ad k := fun k hk => ext1_lt hk
  have hw : toW E (ext1 ad (hn h) a) (grow h) = toW E ad h ++ [(a, .inl (E.2.2.2.2, N, .inr (.inr (.inr (.inr (fun _ => none))))))] := by
    rw [toW_grow hv hag, ext1_at, cell_things hsh, hr_grow_at]
    rfl
  have w := kk p l e R s m args below meth c A Z E (ext1 ad (hn h) a) H1 locs lsC K (RT_ext G (by omega) hag (Nat.le_succ _)) ⟨by rw [hw]; exact e1, by rw [hw]; exact e2, e3⟩ (by rw [lc_ok hls hag]; exact hl) hkc hks
  rw [List.map_cons, st_ok hst hag, show cv (ext1 ad (hn h) a) (vR (some (hn h))) = .ref a by simp [cv, va_rf, ext1_at]] at w
  exact w
theorem r_aastK {o n x ci : Nat} {i : Int32} (hd : fet M pc = .ok (.aastore, 1)) (hp : pc + 1 = pc') (hsh : SH o = (3, n)) (ho : o < hn h) (hx : SH x = (0, ci)) (hxo : x < hn h) (hcx : (classes.getD ci (RL, TX0, 0)).1 = RX3 ∨ ((classes.getD ci (RL, TX0, 0)).1, RX3) ∈ castL) (hin : vp_in i n) (kk : wp d M Q kc ks pc' ls st (setr h o i.toNatClampNeg (some x))) : wp d M Q kc ks pc ls (vR (some x) :: vI i :: vR (some o) :: st) h := by
  subst hp
  intro p l e R s m args below meth c A Z E ad H locs lsC K G D hl g1 g2
  have he : (toW E ad h)[x]? = some (ad x, .inr (ci, fv ad (hi h x) (hr h x) 0 (FK ci))) := by rw [toW_at hxo, cell_obj hx]
  obtain ⟨q, hq, -⟩ := D.1 x _ he
  have hg : classes.getD ci (RL, TX0, 0) = q := by rw [List.getD_eq_getElem?_getD, hq]; rfl
  rw [hg] at hcx
  have hset : (toW E ad h).set o (ad o, .inl (E.2.2.2.1, n, .inr (.inr (.inr (.inr (va_up (rrow (hr h o) ad) i.toNatClampNeg (some (ad x)))))))) = toW E ad (setr h o i.toNatClampNeg (some x)) := by
    refine toW_set rfl ?_ (fun a _ => by rw [hi_setr]) (fun a ha => hr_setr_ne h o _ _ a ha)
    rw [cell_kinds hsh, hr_setr_row, rrow_up]
    rfl
  rcases hcx with w | w
  · refine va_astq (D := E.1) (a := ad o) (v := ad x) (r := q) K.1 K.2.1 K.2.2.2.2.2.1 D.1 D.2.1 D.2.2 o 2 x ci (by rw [toW_at ho, cell_kinds hsh]) (by rw [w]; rfl) he hq hin hd (fun H1 locs1 e1 e2 e3 => ?_)
    rw [hset] at e1 e2
    exact kk p l e R s m args below meth c A Z E ad H1 locs1 lsC K G ⟨e1, e2, e3⟩ hl g1 g2
  · refine va_astqO (D := E.1) (a := ad o) (v := ad x) (r := q) (E := RX3) K.1 K.2.1 K.2.2.2.2.2.1 D.1 D.2.1 D.2.2 o 2 x ci (by rw [toW_at ho, cell_kinds hsh]) rfl (K.2.2.2.2.2.2.2.1.2.1 _ w) he hq hin hd (fun H1 locs1 e1 e2 e3 => ?_)
    rw [hset] at e1 e2
    exact kk p l e R s m args below meth c A Z E ad H1 locs1 lsC K G ⟨e1, e2, e3⟩ hl g1 g2
theorem r_aastT {o n x ci : Nat} {i : Int32} (hd : fet M pc = .ok (.aastore, 1)) (hp : pc + 1 = pc') (hsh : SH o = (4, n)) (ho : o < hn h) (hx : SH x = (0, ci)) (hxo : x < hn h) (hcx : (classes.getD ci (RL, TX0, 0)).1 = RX8 ∨ ((classes.getD ci (RL, TX0, 0)).1, RX8) ∈ castL) (hin : vp_in i n) (kk : wp d M Q kc ks pc' ls st (setr h o i.toNatClampNeg (some x))) : wp d M Q kc ks pc ls (vR (some x) :: vI i :: vR (some o) :: st) h := by
  subst hp
  intro p l e R s m args below meth c A Z E ad H locs lsC K G D hl g1 g2
  have he : (toW E ad h)[x]? = some (ad x, .inr (ci, fv ad (hi h x) (hr h x) 0 (FK ci))) := by rw [toW_at hxo, cell_obj hx]
  obtain ⟨q, hq, -⟩ := D.1 x _ he
  have hg : classes.getD ci (RL, TX0, 0) = q := by rw [List.getD_eq_getElem?_getD, hq]; rfl
  rw [hg] at hcx
  have hset : (toW E ad h).set o (ad o, .inl (E.2.2.2.2, n, .inr (.inr (.inr (.inr (va_up (rrow (hr h o) ad) i.toNatClampNeg (some (ad x)))))))) = toW E ad (setr h o i.toNatClampNeg (some x)) := by
    refine toW_set rfl ?_ (fun a _ => by rw [hi_setr]) (fun a ha => hr_setr_ne h o _ _ a ha)
    rw [cell_things hsh, hr_setr_row, rrow_up]
    rfl
  rcases hcx with w | w
  · refine va_astq (D := E.1) (a := ad o) (v := ad x) (r := q) K.1 K.2.1 K.2.2.2.2.2.1 D.1 D.2.1 D.2.2 o 3 x ci (by rw [toW_at ho, cell_things hsh]) (by rw [w]; rfl) he hq hin hd (fun H1 locs1 e1 e2 e3 => ?_)
    rw [hset] at e1 e2
    exact kk p l e R s m args below meth c A Z E ad H1 locs1 lsC K G ⟨e1, e2, e3⟩ hl g1 g2
  · refine va_astqO (D := E.1) (a := ad o) (v := ad x) (r := q) (E := RX8) K.1 K.2.1 K.2.2.2.2.2.1 D.1 D.2.1 D.2.2 o 3 x ci (by rw [toW_at ho, cell_things hsh]) rfl (K.2.2.2.2.2.2.2.1.2.1 _ w) he hq hin hd (fun H1 locs1 e1 e2 e3 => ?_)
    rw [hset] at e1 e2
    exact kk p l e R s m args below meth c A Z E ad H1 locs1 lsC K G ⟨e1, e2, e3⟩ hl g1 g2
theorem r_callA {M' : Nat} {ins : Instr} {cr : Option Nat} (av st : List AV) (hd : fet M pc = .ok (ins, 3)) (hp : pc + 3 = pc') {on : String} (hon : own M = on) (hs : Site on ins cr M') (hcr : rcv cr av h) (hlen : av.length = na M' + (if cr.isSome then 1 else 0)) (hml : ml M' ≤ 20) (hm : mc M ≠ 0) (hls : ls.all (fun q => okv (hn h) q.2) = true) (hso : st.all (okv (hn h)) = true) (hwt : (st.map wt).sum ≤ 8) (hst : st0 = av.reverse ++ st) (hkc : kc + mc M' ≤ mc M) (hks : ks + ms M' ≤ ms M)
    (kk : Spec d M' av h (fun r h1 => wp (d + 1) M Q (kc + mc M') (ks + ms M') pc' ls (r.toList ++ st) h1)) : wp (d + 1) M Q kc ks pc ls st0 h := by
  subst hp
  intro p l e R s m args below meth c A Z E ad H locs lsC K G D hl g1 g2
  refine run_W (site_run K D hl hd hon hs hcr hlen hml hwt hst hkc hks kk) D.2.1 D.2.2 K.2.2.2.2.2.2.1 ?_
  intro r h1 ad' H1 locs1 a1 a2 a3 a4 a5
  have w := a4 p l e R s m args below meth c A Z E ad' H1 locs1 lsC K (RT_ext G hm a1 a2) a5 (by rw [lc_ok hls a1]; exact hl) hkc hks
  rw [List.map_append, st_ok hso a1] at w
  cases r with
  | none => exact w
  | some v => exact w
theorem r_objInit {idx o : Nat} (hd : fet M pc = .ok (.invokespecial idx, 3)) (hp : pc + 3 = pc') {on : String} (hon : own M = on) (h1 : Cond.methodLink on idx objectInit ∈ TBL) (h2 : Cond.instanceMethod objectInit ∈ TBL) (h3 : Cond.code objectInit ⟨#[0xb1]⟩ 1 none ∈ TBL) (hwt : (st.map wt).sum ≤ 8) (kk : wp (d + 1) M Q kc ks pc' ls st h) : wp (d + 1) M Q kc ks pc ls (vR (some o) :: st) h := by
  subst hp
  subst hon
  intro p l e R s m args below meth c A Z E ad H locs lsC K G D hl g1 g2
  obtain ⟨k1, k2, k3, k4, k5, k6, k7, k8, k9, k10, k11, k12, k13⟩ := id K
  refine W.objInit (a := ad o) k1 k2 k4 (k5 _ h1) (k5 _ h2) (k5 _ h3) rfl (by rw [k3]; exact hl.1) rfl hd (by omega) ?_ (kk p l e R s m args below meth c A Z E ad H locs lsC K G D hl g1 g2)
  have w := lv_room (m := m) (pc := pc) (ls := lsC) (rest := []) (st := st.map (cv ad)) (by rw [cat_sum]; exact hwt)
  have e0 : (F0 m pc lsC ([] : List Value)).monitorRoom = (F0 m pc lsC (List.map (cv ad) (vR (some o) :: st))).monitorRoom := rfl
  rw [e0] at w
  omega
theorem r_max {x y : Int32} {idx : Nat} (hd : fet M pc = .ok (.invokestatic idx, 3)) (hp : pc + 3 = pc') {on : String} (hon : own M = on) (h1 : Cond.methodLink on idx Lib.Math.max.name ∈ TBL) (h2 : Cond.static Lib.Math.max.name ∈ TBL) (h3 : Cond.initialized "java/lang/Math" ∈ TBL) (h4 : Cond.code Lib.Math.max.name Lib.Math.max.code 2 (some .int) ∈ TBL) (hwt : (st.map wt).sum ≤ 8) (kk : wp (d + 1) M Q kc ks pc' ls (vI (if x < y then y else x) :: st) h) : wp (d + 1) M Q kc ks pc ls (vI y :: vI x :: st) h := by
  subst hp
  subst hon
  intro p l e R s m args below meth c A Z E ad H locs lsC K G D hl g1 g2
  obtain ⟨k1, k2, k3, k4, k5, k6, k7, k8, k9, k10, k11, k12, k13⟩ := id K
  exact va_mmax k1 k2 (by rw [k3]; exact hl.1.symm) k4 (k5 _ h1) (k5 _ h2) (k5 _ h3) (k5 _ h4) (by omega) (by rw [cat_sum]; omega) (Nat.le_trans g1 k11) (Nat.le_trans g2 k12) hd (kk p l e R s m args below meth c A Z E ad H locs lsC K G D hl g1 g2)
theorem r_min {x y : Int32} {idx : Nat} (hd : fet M pc = .ok (.invokestatic idx, 3)) (hp : pc + 3 = pc') {on : String} (hon : own M = on) (h1 : Cond.methodLink on idx Lib.Math.min.name ∈ TBL) (h2 : Cond.static Lib.Math.min.name ∈ TBL) (h3 : Cond.initialized "java/lang/Math" ∈ TBL) (h4 : Cond.code Lib.Math.min.name Lib.Math.min.code 2 (some .int) ∈ TBL) (hwt : (st.map wt).sum ≤ 8) (kk : wp (d + 1) M Q kc ks pc' ls (vI (if y < x then y else x) :: st) h) : wp (d + 1) M Q kc ks pc ls (vI y :: vI x :: st) h := by
  subst hp
  subst hon
  intro p l e R s m args below meth c A Z E ad H locs lsC K G D hl g1 g2
  obtain ⟨k1, k2, k3, k4, k5, k6, k7, k8, k9, k10, k11, k12, k13⟩ := id K
  exact va_mmin k1 k2 (by rw [k3]; exact hl.1.symm) k4 (k5 _ h1) (k5 _ h2) (k5 _ h3) (k5 _ h4) (by omega) (by rw [cat_sum]; omega) (Nat.le_trans g1 k11) (Nat.le_trans g2 k12) hd (kk p l e R s m args below meth c A Z E ad H locs lsC K G D hl g1 g2)
theorem r_abs {x : Int32} {idx : Nat} (hd : fet M pc = .ok (.invokestatic idx, 3)) (hp : pc + 3 = pc') {on : String} (hon : own M = on) (h1 : Cond.methodLink on idx Lib.Math.abs.name ∈ TBL) (h2 : Cond.static Lib.Math.abs.name ∈ TBL) (h3 : Cond.initialized "java/lang/Math" ∈ TBL) (h4 : Cond.code Lib.Math.abs.name Lib.Math.abs.code 1 (some .int) ∈ TBL) (hwt : (st.map wt).sum ≤ 8) (kk : wp (d + 1) M Q kc ks pc' ls (vI (if 0 ≤ x then x else 0 - x) :: st) h) : wp (d + 1) M Q kc ks pc ls (vI x :: st) h := by
  subst hp
  subst hon
  intro p l e R s m args below meth c A Z E ad H locs lsC K G D hl g1 g2
  obtain ⟨k1, k2, k3, k4, k5, k6, k7, k8, k9, k10, k11, k12, k13⟩ := id K
  exact va_mabs k1 k2 (by rw [k3]; exact hl.1.symm) k4 (k5 _ h1) (k5 _ h2) (k5 _ h3) (k5 _ h4) (by omega) (by rw [cat_sum]; omega) (Nat.le_trans g1 k11) (Nat.le_trans g2 k12) hd (kk p l e R s m args below meth c A Z E ad H locs lsC K G D hl g1 g2)
theorem r_copy {o0 o1 n0 n1 idx : Nat} {sp dp n : Int32} (hd : fet M pc = .ok (.invokestatic idx, 3)) (hp : pc + 3 = pc') {on : String} (hon : own M = on) (h1 : Cond.methodLink on idx arraycopyName ∈ TBL) (h2 : Cond.native arraycopyName ∈ TBL) (h3 : Cond.static arraycopyName ∈ TBL) (h4 : Cond.initialized "java/lang/System" ∈ TBL) (hs0 : SH o0 = (1, n0)) (hs1 : SH o1 = (1, n1)) (ho0 : o0 < hn h) (ho1 : o1 < hn h) (c1 : ¬ sp < 0) (c2 : ¬ dp < 0) (c3 : ¬ n < 0) (c4 : sp.toNatClampNeg + n.toNatClampNeg ≤ n0) (c5 : dp.toNatClampNeg + n.toNatClampNeg ≤ n1) (hwt : (st.map wt).sum ≤ 8) (kk : wp (d + 1) M Q kc ks pc' ls st (setw h o1 (va_cpy (hi h o0) (hi h o1) sp.toNatClampNeg dp.toNatClampNeg n.toNatClampNeg))) : wp (d + 1) M Q kc ks pc ls (vI n :: vI dp :: vR (some o1) :: vI sp :: vR (some o0) :: st) h := by
  subst hp
  subst hon
  intro p l e R s m args below meth c A Z E ad H locs lsC K G D hl g1 g2
  obtain ⟨k1, k2, k3, k4, k5, k6, k7, k8, k9, k10, k11, k12, k13⟩ := id K
  have hset : (toW E ad h).set o1 (ad o1, .inl (E.2.1, n1, .inl (va_cpy (hi h o0) (hi h o1) sp.toNatClampNeg dp.toNatClampNeg n.toNatClampNeg))) = toW E ad (setw h o1 (va_cpy (hi h o0) (hi h o1) sp.toNatClampNeg dp.toNatClampNeg n.toNatClampNeg)) := by
    refine toW_set rfl ?_ (fun a ha => hi_setw_ne h o1 _ a ha) (fun a _ => by rw [hr_setw])
    rw [cell_int hs1, hi_setw_row]
  have hnw : nativeFrameWords "java/lang/System" "arraycopy" 5 ≤ 20 := by decide +kernel
  refine va_copyi (D := E.1) (a := ad o1) (a0 := ad o0) (ty := .int) k1 k2 (by rw [k3]; exact hl.1.symm) k4 (k5 _ h1) (k5 _ h2) (k5 _ h3) (k5 _ h4) k6 D.1 D.2.1 D.2.2 o0 o1 0 0 (by rw [toW_at ho0, cell_int hs0]) (by rw [toW_at ho1, cell_int hs1]) rfl rfl rfl c1 c2 c3 c4 c5 (fun _ _ => rfl) (by omega) (by rw [cat_sum]; omega) hd (fun H1 locs1 e1 e2 e3 => ?_)
  rw [hset] at e1 e2
  exact kk p l e R s m args below meth c A Z E ad H1 locs1 lsC K G ⟨e1, e2, e3⟩ hl g1 g2
theorem r_instN {idx : Nat} (hd : fet M pc = .ok (.instanceof idx, 3)) (hp : pc + 3 = pc') (kk : wp d M Q kc ks pc' ls (vI 0 :: st) h) : wp d M Q kc ks pc ls (vR none :: st) h := by
  subst hp
  intro p l e R s m args below meth c A Z E ad H locs lsC K G D hl g1 g2
  exact lv_instN K.1 K.2.1 hd (kk p l e R s m args below meth c A Z E ad H locs lsC K G D hl g1 g2)
theorem r_inst {idx o ci : Nat} {nm : String} (b : Bool) (hd : fet M pc = .ok (.instanceof idx, 3)) (hp : pc + 3 = pc') {on : String} (hon : own M = on) (hs : Cond.classLink on idx nm ∈ TBL) (hsh : SH o = (0, ci)) (ho : o < hn h) (hb : if b then (classes.getD ci (RL, TX0, 0)).1 = nm ∨ ((classes.getD ci (RL, TX0, 0)).1, nm) ∈ castL else ((classes.getD ci (RL, TX0, 0)).1, nm) ∈ nocastL) (kk : wp d M Q kc ks pc' ls (vI (if b then 1 else 0) :: st) h) : wp d M Q kc ks pc ls (vR (some o) :: st) h := by
  subst hp
  subst hon
  intro p l e R s m args below meth c A Z E ad H locs lsC K G D hl g1 g2
  obtain ⟨k1, k2, k3, k4, k5, k6, k7, k8, k9, k10, k11, k12, k13⟩ := id K
  have he : (toW E ad h)[o]? = some (ad o, .inr (ci, fv ad (hi h o) (hr h o) 0 (FK ci))) := by rw [toW_at ho, cell_obj hsh]
  obtain ⟨q, hq, -⟩ := D.1 o _ he
  have hg : classes.getD ci (RL, TX0, 0) = q := by rw [List.getD_eq_getElem?_getD, hq]; rfl
  rw [hg] at hb
  have hrc := va_recv k6 D.1 hq he
  cases b with
  | true =>
    rcases hb with w | w
    · subst w
      exact va_instS (a := ad o) k1 k2 k4 (k5 _ hs) ((k6.1 ci q hq).2) hrc hd (kk p l e R s m args below meth c A Z E ad H locs lsC K G D hl g1 g2)
    · exact va_instY (a := ad o) (C := q.1) k1 k2 k4 (k5 _ hs) (k8.2.1 _ w) hrc hd (kk p l e R s m args below meth c A Z E ad H locs lsC K G D hl g1 g2)
  | false => exact va_instNo (a := ad o) (C := q.1) k1 k2 k4 (k5 _ hs) (k8.2.2.1 _ hb) hrc hd (kk p l e R s m args below meth c A Z E ad H locs lsC K G D hl g1 g2)
end Making
end
section
/-! call sites in general -/
def DOK (M' : Nat) : Prop := (ym M').cls ≠ "java/lang/invoke/MethodHandle" ∧ (ym M').cls ≠ "java/lang/invoke/VarHandle" ∧ (parseMethodDescriptor (ym M').desc).map (fun d => d.parameters.length) = some (na M')
def MI (M' : Nat) : Prop := Cond.code (ym M') (bt M') (ml M') (rt M') ∈ TBL ∧ Cond.instanceMethod (ym M') ∈ TBL ∧ Cond.initialized (ym M').cls ∈ TBL ∧ DOK M'
def MSt (M' : Nat) : Prop := Cond.code (ym M') (bt M') (ml M') (rt M') ∈ TBL ∧ Cond.static (ym M') ∈ TBL ∧ Cond.initialized (ym M').cls ∈ TBL ∧ DOK M'
theorem mem3 {a b c : Cond} {l : List Cond} (h1 : a ∈ l) (h2 : b ∈ l) (h3 : c ∈ l) : ∀ w ∈ [a, b, c], w ∈ l := by
  intro w hw
  simp at hw
  rcases hw with rfl | rfl | rfl <;> assumption
theorem mem4 {a b c d : Cond} {l : List Cond} (h1 : a ∈ l) (h2 : b ∈ l) (h3 : c ∈ l) (h4 : d ∈ l) : ∀ w ∈ [a, b, c, d], w ∈ l := by
  intro w hw
  simp at hw
  rcases hw with rfl | rfl | rfl | rfl <;> assumption
theorem mem5 {a b c d e : Cond} {l : List Cond} (h1 : a ∈ l) (h2 : b ∈ l) (h3 : c ∈ l) (h4 : d ∈ l) (h5 : e ∈ l) : ∀ w ∈ [a, b, c, d, e], w ∈ l := by
  intro w hw
  simp at hw
  rcases hw with rfl | rfl | rfl | rfl | rfl <;> assumption
theorem mem6 {a b c d e f : Cond} {l : List Cond} (h1 : a ∈ l) (h2 : b ∈ l) (h3 : c ∈ l) (h4 : d ∈ l) (h5 : e ∈ l) (h6 : f ∈ l) : ∀ w ∈ [a, b, c, d, e, f], w ∈ l := by
  intro w hw
  simp at hw
  rcases hw with rfl | rfl | rfl | rfl | rfl | rfl <;> assumption
theorem siteV {o : String} {idx ci M' : Nat} (q : vw_C) (hq0 : classes[ci]? = some q) (hC : (ym M').cls = q.1) (hM0 : MI M') (h1 : Cond.methodLink o idx (ym M') ∈ TBL) (h3 : Cond.selects q.1 (ym M') (ym M') ∈ TBL) : Site o (.invokevirtual idx) (some ci) M' := by
  intro p l e R s m args below meth c H locs kc ks cc nL Pc Qc free rm As rest g E S N hK hM hc hs hR hb hpc hrc hlen hg hsz hst hw hd hf
  obtain ⟨b, As', q2, cl, rfl, hq, c1, c2, c3⟩ := hrc ci rfl
  cases hq0.symm.trans hq
  obtain ⟨m1, m2, m3, m4⟩ := hM0
  exact va_runV (As := As') (rest := rest) (C := q.1) S hM (cwV (na M') S.2.2.2.2 (good_app (mem4 h1 m2 h3 (hC ▸ m3)) (good_ws m1)) rfl hc hs ⟨hC, m4⟩ hR) ⟨hb, ⟨cl, c1, c2, c3⟩, hpc⟩ hg (by simpa using hlen) hsz (by rw [hst]; simp) hw hd hf
theorem siteS {o : String} {idx M' : Nat} (hC : (ym M').cls = o) (hM0 : MSt M') (h1 : Cond.methodLink o idx (ym M') ∈ TBL) : Site o (.invokestatic idx) none M' := by
  intro p l e R s m args below meth c H locs kc ks cc nL Pc Qc free rm As rest g E S N hK hM hc hs hR hb hpc hrc hlen hg hsz hst hw hd hf
  obtain ⟨m1, m2, m3, m4⟩ := hM0
  exact va_runS (As := As) (rest := rest) S hM (cwS (na M') S.2.2.2.2 (good_app (mem3 h1 m2 (hC ▸ m3)) (good_ws m1)) rfl hc hs ⟨hC, m4⟩ hR) ⟨hb, hpc⟩ hg (by simpa using hlen) hsz hst hw hd hf
theorem siteS2 {o : String} {idx M' : Nat} (hM0 : MSt M') (h1 : Cond.methodLink o idx (ym M') ∈ TBL) : Site o (.invokestatic idx) none M' := by
  intro p l e R s m args below meth c H locs kc ks cc nL Pc Qc free rm As rest g E S N hK hM hc hs hR hb hpc hrc hlen hg hsz hst hw hd hf
  obtain ⟨m1, m2, m3, m4⟩ := hM0
  have ht := S.2.2.2.2
  exact va_runS (As := As) (rest := rest) S hM ⟨callB_of (na M') ht (good_ws m1) rfl hc hs (ht _ m3) (ht _ h1) m4 hR, ht _ m2⟩ ⟨hb, hpc⟩ hg (by simpa using hlen) hsz hst hw hd hf
theorem siteSN {o host : String} {idx M' : Nat} (hM0 : MSt M') (h1 : (o, idx, ym M', host) ∈ nestL) : Site o (.invokestatic idx) none M' := by
  intro p l e R s m args below meth c H locs kc ks cc nL Pc Qc free rm As rest g E S N hK hM hc hs hR hb hpc hrc hlen hg hsz hst hw hd hf
  obtain ⟨m1, m2, m3, m4⟩ := hM0
  have ht := S.2.2.2.2
  exact va_runSN (As := As) (rest := rest) S hM ⟨va_cnB (na M') ht (good_ws m1) rfl hc hs (N.1 _ h1) (ht _ m3) m4 hR, ht _ m2, trivial⟩ ⟨hb, hpc⟩ hg (by simpa using hlen) hsz hst hw hd hf
theorem siteI {o : String} {idx ci M' : Nat} (hn0 : rt M' = none) (hi0 : (ym M').name = "<init>") (hM0 : MI M') (h1 : Cond.methodLink o idx (ym M') ∈ TBL) : Site o (.invokespecial idx) (some ci) M' := by
  intro p l e R s m args below meth c H locs kc ks cc nL Pc Qc free rm As rest g E S N hK hM hc hs hR hb hpc hrc hlen hg hsz hst hw hd hf
  obtain ⟨b, As', q2, cl, rfl, hq, c1, c2, c3⟩ := hrc ci rfl
  obtain ⟨m1, m2, m3, m4⟩ := hM0
  have ht := S.2.2.2.2
  exact va_runI (As := As') (rest := rest) (maxL := ml M') (bytes := bt M') S hM (cwI (na M') ht (good_ws m1) (show WS M' = Cond.code (ym M') (bt M') (ml M') none :: TBL by unfold WS; rw [hn0]) hc hs (ht _ m3) (ht _ h1) (ht _ m2) hi0 m4 hR) ⟨hb, hpc⟩ hg (by simpa using hlen) hsz (by rw [hst]; simp) hw hd hf
theorem siteIN {o host : String} {idx ci M' : Nat} (hn0 : rt M' = none) (hi0 : (ym M').name = "<init>") (hM0 : MI M') (h1 : (o, idx, ym M', host) ∈ nestL) : Site o (.invokespecial idx) (some ci) M' := by
  intro p l e R s m args below meth c H locs kc ks cc nL Pc Qc free rm As rest g E S N hK hM hc hs hR hb hpc hrc hlen hg hsz hst hw hd hf
  obtain ⟨b, As', q2, cl, rfl, hq, c1, c2, c3⟩ := hrc ci rfl
  obtain ⟨m1, m2, m3, m4⟩ := hM0
  have ht := S.2.2.2.2
  exact va_runIN (As := As') (rest := rest) (maxL := ml M') (bytes := bt M') S hM ⟨va_cnB (na M') ht (good_ws m1) (show WS M' = Cond.code (ym M') (bt M') (ml M') none :: TBL by unfold WS; rw [hn0]) hc hs (N.1 _ h1) (ht _ m3) m4 hR, hi0, ht _ m2⟩ ⟨hb, hpc⟩ hg (by simpa using hlen) hsz (by rw [hst]; simp) hw hd hf
theorem siteU {o owner : String} {idx ci M' : Nat} (x : MethodName) (q : vw_C) (hq0 : classes[ci]? = some q) (hyx : ym M' = ⟨owner, x.name, x.desc⟩) (hM0 : MI M') (h1 : Cond.methodLink o idx x ∈ TBL) (h2 : Cond.sameMethod x.cls owner x.name x.desc ∈ TBL) (h3 : Cond.selects q.1 x (ym M') ∈ TBL) : Site o (.invokevirtual idx) (some ci) M' := by
  intro p l e R s m args below meth c H locs kc ks cc nL Pc Qc free rm As rest g E S N hK hM hc hs hR hb hpc hrc hlen hg hsz hst hw hd hf
  obtain ⟨b, As', q2, cl, rfl, hq, c1, c2, c3⟩ := hrc ci rfl
  cases hq0.symm.trans hq
  obtain ⟨m1, m2, m3, m4⟩ := hM0
  have m5 := m4
  unfold DOK at m5
  rw [hyx] at m5
  exact va_runU (As := As') (rest := rest) (C := q.1) (owner := owner) S hM (va_cwU (na M') S.2.2.2.2 (good_app (mem5 h1 h2 h3 m2 m3) (good_ws m1)) rfl hc hs hyx m5 hR) ⟨hb, ⟨cl, c1, c2, c3⟩, hpc⟩ hg (by simpa using hlen) hsz (by rw [hst]; simp) hw hd hf
theorem siteO {o owner : String} {idx ci M' M0 : Nat} (x : MethodName) (q : vw_C) (hq0 : classes[ci]? = some q) (hyx : ym M0 = ⟨owner, x.name, x.desc⟩) (hna : na M0 = na M') (hM0 : MI M') (hM1 : MI M0) (h1 : Cond.methodLink o idx x ∈ TBL) (h2 : Cond.sameMethod x.cls owner x.name x.desc ∈ TBL) (h3 : Cond.selects q.1 x (ym M') ∈ TBL) : Site o (.invokevirtual idx) (some ci) M' := by
  intro p l e R s m args below meth c H locs kc ks cc nL Pc Qc free rm As rest g E S N hK hM hc hs hR hb hpc hrc hlen hg hsz hst hw hd hf
  obtain ⟨b, As', q2, cl, rfl, hq, c1, c2, c3⟩ := hrc ci rfl
  cases hq0.symm.trans hq
  obtain ⟨m1, m2, m3, m4⟩ := hM0
  obtain ⟨z1, z2, z3, z4⟩ := hM1
  unfold DOK at z4
  rw [hyx] at z1 z2 z4
  rw [hna] at z4
  exact va_runU (As := As') (rest := rest) (C := q.1) (owner := owner) S hM (va_cwO (na M') S.2.2.2.2 (good_app (mem6 h1 h2 z2 h3 m2 m3) (good_ws m1)) rfl hc hs z1 z4 hR) ⟨hb, ⟨cl, c1, c2, c3⟩, hpc⟩ hg (by simpa using hlen) hsz (by rw [hst]; simp) hw hd hf
theorem siteSU {o : String} {idx ci M' : Nat} (hno : (ym M').name ≠ "<init>") (hM0 : MI M') (h1 : Cond.methodLink o idx (ym M') ∈ TBL) (h2 : Cond.sameMethod (ym M').cls (ym M').cls (ym M').name (ym M').desc ∈ TBL) (h3 : Cond.superclass o (ym M').cls ∈ TBL) : Site o (.invokespecial idx) (some ci) M' := by
  intro p l e R s m args below meth c H locs kc ks cc nL Pc Qc free rm As rest g E S N hK hM hc hs hR hb hpc hrc hlen hg hsz hst hw hd hf
  obtain ⟨b, As', q2, cl, rfl, hq, c1, c2, c3⟩ := hrc ci rfl
  obtain ⟨m1, m2, m3, m4⟩ := hM0
  exact va_runSU (As := As') (rest := rest) ((hK.1 ci q2 hq).2) S hM (va_cwSU (na M') S.2.2.2.2 (good_app (mem5 h1 h2 h3 m2 m3) (good_ws m1)) rfl hc hs ⟨hno, m4.2.2⟩ hR) ⟨hb, ⟨cl, c1, c2, c3⟩, hpc⟩ hg (by simpa using hlen) hsz (by rw [hst]; simp) hw hd hf
end
